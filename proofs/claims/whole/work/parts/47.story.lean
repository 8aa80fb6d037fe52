/-! ===== the story of deeds, of both ===== -/
theorem lyC_c {w w' : Nat → Int32} {lay : gLay} (h : lyC w lay) (e : ∀ k, k < 8 → w' k = w k) : lyC w' lay := ⟨fun f hf q => by rw [e f hf]; exact h.1 f hf q, fun f p x y t hf q => by rw [e f hf]; exact h.2 f p x y t hf q⟩
theorem lyM_c {w w' : Nat → Int32} {lay : gLay} (h : lyM w lay) (e : ∀ k, k < 32 → w' k = w k) : lyM w' lay :=
  ⟨fun f hf q => by rw [e (4 * f) (by omega), e (4 * f + 1) (by omega), e (4 * f + 2) (by omega), e (4 * f + 3) (by omega)]; exact h.1 f hf q, fun f p x y t hf q => by rw [e (4 * f) (by omega), e (4 * f + 1) (by omega), e (4 * f + 2) (by omega), e (4 * f + 3) (by omega)]; exact h.2 f p x y t hf q⟩
def cRow (g : Nat → Int32) (b : Nat) (S : gLay × Nat) : Prop := lyC (fun k => g (b + k)) S.1 ∧ g (b + 8) = nI S.2
def rRow (g : Nat → Int32) (b : Nat) (S : gLay × Nat) : Prop := lyM (fun k => g (b + k)) S.1 ∧ g (b + 32) = nI S.2
theorem cRow_c {g g' : Nat → Int32} {b b' : Nat} {S : gLay × Nat} (h : cRow g b S) (e : ∀ k, k < 9 → g' (b' + k) = g (b + k)) : cRow g' b' S := ⟨lyC_c h.1 (fun k hk => e k (by omega)), by rw [e 8 (by omega)]; exact h.2⟩
theorem rRow_c {g g' : Nat → Int32} {b b' : Nat} {S : gLay × Nat} (h : rRow g b S) (e : ∀ k, k < 33 → g' (b' + k) = g (b + k)) : rRow g' b' S := ⟨lyM_c h.1 (fun k hk => e k (by omega)), by rw [e 32 (by omega)]; exact h.2⟩
def stC (M : xMem) (a dd : Nat) (S : gLay × Nat) (P : Nat → gLay × Nat) : Prop := M.1 a 2 = nI dd ∧ dd ≤ 40 ∧ lyC (M.1 (a + 2)) S.1 ∧ M.1 (a + 1) 1 = nI S.2 ∧ ∀ i, i < dd → cRow (M.1 (a + 3)) (i * 9) (P i)
def stM (M : xMem) (dd : Nat) (S : gLay × Nat) (P : Nat → gLay × Nat) : Prop := M.1 74 36 = nI dd ∧ dd ≤ 40 ∧ rRow (M.1 83) 0 S ∧ ∀ i, i < dd → rRow (M.1 90) (33 * i) (P i)
def ktM (M : xMem) (k dd : Nat) (S : gLay × Nat) (P : Nat → gLay × Nat) : Prop := M.1 91 k = nI dd ∧ dd ≤ 40 ∧ rRow (M.1 92) (1353 * k) S ∧ ∀ i, i < dd → rRow (M.1 92) (1353 * k + 33 + 33 * i) (P i)
def psh (P : Nat → gLay × Nat) (dd : Nat) (S : gLay × Nat) : Nat → gLay × Nat := fun i => if i = dd then S else P i
abbrev stStart (M : xMem) (a : Nat) : xMem := wI (wI (wF M (a + 1 + 1) (fun k => if k < 8 then -9 else M.1 (a + 1 + 1) k)) (a + 1) 1 0) a 2 0
abbrev stBeg (M : xMem) (a dd : Nat) : xMem := wI (wI (wF M (a + 3) (va_cpy (M.1 (a + 1 + 1)) (M.1 (a + 3)) 0 (dd * 9) 8)) (a + 3) (dd * 9 + 8) (M.1 (a + 1) 1)) a 2 (nI (dd + 1))
abbrev stBack (M : xMem) (a n : Nat) : xMem := wI (wI (wF M (a + 1 + 1) (va_cpy (M.1 (a + 3)) (M.1 (a + 1 + 1)) (n * 9) 0 8)) (a + 1) 1 (M.1 (a + 3) (n * 9 + 8))) a 2 (nI n)
abbrev stTake (M : xMem) (a b dd : Nat) : xMem := wI (wF (wI (wF M (a + 1 + 1) (va_cpy (M.1 (b + 1 + 1)) (M.1 (a + 1 + 1)) 0 0 8)) (a + 1) 1 (M.1 (b + 1) 1)) (a + 3) (va_cpy (M.1 (b + 3)) (M.1 (a + 3)) 0 0 (dd * 9))) a 2 (nI dd)

theorem tk_o {M : xMem} {a c k b : Nat} {g : Nat → Int32} {v : Int32} (h1 : b ≠ a) (h2 : b ≠ c) : (wI (wF M a g) c k v).1 b = M.1 b := by
  funext j
  rw [xI_wI, if_neg (fun z => h2 z.1), xI_wF, if_neg h1]

set_option maxRecDepth 100000 in
theorem c_X8_start {E : xE} {M : xMem} {a : Nat} (ha : xob a 8) (hM : xNT ≤ xN M) (hW : xWire M.2.1) : Cf E mX8_start [.ref a] M none (stStart M a) := by
  refine Ct.of (lo := [some (.ref a)]) pln_X8 (Nat.le_of_ble_eq_true rfl) rfl (Nat.le_refl _) ?_
  refine px_aload_n dX8_start_0 rfl rfl ?_
  refine px_getR dX8_start_1 fX8_12 ha hM rfl (wr_8_0 hW ha) (Nat.succ_pos _) ?_
  refine px_fV0v dX8_start_4 kX8_start_26 (ar_8 ha).1 hM (Nat.le_of_ble_eq_true rfl) (c_X1_liftAll hM hW (ar_8 ha).1) ?_
  refine px_aload_n dX8_start_7 rfl rfl ?_
  refine px_getR dX8_start_8 fX8_12 ha hM rfl (wr_8_0 hW ha) (Nat.succ_pos _) ?_
  refine px_iconst dX8_start_11 ic_0 ?_
  refine px_putI dX8_start_12 fX8_29 p1_1 (ar_8 ha).1 hM rfl ?_
  refine px_aload_n dX8_start_15 rfl rfl ?_
  refine px_iconst dX8_start_16 ic_0 ?_
  refine px_putI dX8_start_17 fX8_22 p8_2 ha hM rfl ?_
  exact px_ret dX8_start_20 rfl ⟨rfl, rfl⟩ (rfl)

set_option maxRecDepth 100000 in
theorem c_X8_beginDeed {E : xE} {M : xMem} {a dd : Nat} (ha : xob a 8) (hM : xNT ≤ xN M) (hW : xWire M.2.1) (hd : M.1 a 2 = nI dd) (hlt : dd < 40) : Cf E mX8_beginDeed [.ref a] M none (stBeg M a dd) := by
  refine Ct.of (lo := [some (.ref a), none]) pln_X8 (Nat.le_of_ble_eq_true rfl) rfl (Nat.le_refl _) ?_
  have e8 : ((8 : Int32)).toNatClampNeg = 8 := by decide
  have e0 : ((0 : Int32)).toNatClampNeg = 0 := by decide
  have hnd : (nI (dd * 9)).toNatClampNeg = dd * 9 := nI_clamp (by omega)
  refine px_aload_n dX8_beginDeed_0 rfl rfl ?_
  refine px_fV0i dX8_beginDeed_1 kX8_beginDeed_32 ha hM (Nat.le_of_ble_eq_true rfl) (c_X8_isFull ha hM) ?_
  refine px_zif_eq 8 dX8_beginDeed_4 rfl (fun h4 => ?_) (fun h4 => ?_)
  · refine px_aload_n dX8_beginDeed_8 rfl rfl ?_
    refine px_getI dX8_beginDeed_9 fX8_22 ha hM rfl ?_
    refine px_top (y := nI dd) hd ?_
    refine px_bipush dX8_beginDeed_12 bp_9 ?_
    refine px_imul dX8_beginDeed_14 ?_
    refine px_top (y := nI (dd * 9)) (pk_mul dd 9) ?_
    refine px_si_1 dX8_beginDeed_15 rfl ?_
    refine px_aload_n dX8_beginDeed_16 rfl rfl ?_
    refine px_getR dX8_beginDeed_17 fX8_12 ha hM rfl (wr_8_0 hW ha) (Nat.succ_pos _) ?_
    refine px_getR dX8_beginDeed_20 fX8_36 (ar_8 ha).1 hM rfl (wr_1_0 hW (ar_8 ha).1) (Nat.succ_pos _) ?_
    refine px_iconst dX8_beginDeed_23 ic_0 ?_
    refine px_aload_n dX8_beginDeed_24 rfl rfl ?_
    refine px_getR dX8_beginDeed_25 fX8_18 ha hM rfl (wr_8_1 hW ha) (Nat.succ_pos _) ?_
    refine px_iload_n dX8_beginDeed_28 rfl rfl ?_
    refine px_bipush dX8_beginDeed_29 bp_8 ?_
    refine px_copy (kk := 20) (t0 := 0) (ty := .int) dX8_beginDeed_31 kX8_beginDeed_39 (ar_1 (ar_8 ha).1) (ar_8 ha).2 ⟨by decide, by decide⟩ (fun _ => rfl) rfl hM (show ¬ (0 : Int32) < 0 by decide) (nI_pos (by omega)) (show ¬ (8 : Int32) < 0 by decide) (by rw [e0, e8]; omega) (by rw [hnd, e8]; omega) (fun _ _ => rfl) (Nat.le_of_ble_eq_true rfl) ?_
    refine px_mem (M' := wF M (a + 3) (va_cpy (M.1 (a + 1 + 1)) (M.1 (a + 3)) 0 (dd * 9) 8)) (by rw [hnd, e8, e0]) ?_
    refine px_aload_n dX8_beginDeed_34 rfl rfl ?_
    refine px_getR dX8_beginDeed_35 fX8_18 ha hM rfl (wr_8_1 hW ha) (Nat.succ_pos _) ?_
    refine px_iload_n dX8_beginDeed_38 rfl rfl ?_
    refine px_bipush dX8_beginDeed_39 bp_8 ?_
    refine px_iadd dX8_beginDeed_41 ?_
    refine px_top (y := nI (dd * 9 + 8)) (nI_add _ 8) ?_
    refine px_aload_n dX8_beginDeed_42 rfl rfl ?_
    refine px_getR dX8_beginDeed_43 fX8_12 ha hM rfl (wr_8_0 hW ha) (Nat.succ_pos _) ?_
    refine px_getI dX8_beginDeed_46 fX8_29 (ar_8 ha).1 hM rfl ?_
    refine px_top (y := M.1 (a + 1) 1) (by rw [xI_wF, if_neg (by omega)]) ?_
    refine px_iast dX8_beginDeed_49 (ar_8 ha).2 hM (vp_in_nI (by omega) (by decide)) ?_
    refine px_aload_n dX8_beginDeed_50 rfl rfl ?_
    first | refine px_dupi dX8_beginDeed_51 ?_ | refine px_dupa dX8_beginDeed_51 ?_
    refine px_getI dX8_beginDeed_52 fX8_22 ha hM rfl ?_
    refine px_top (y := nI dd) (by rw [xI_wI, if_neg (fun z => by omega), xI_wF, if_neg (by omega)]; exact hd) ?_
    refine px_iconst dX8_beginDeed_55 ic_1 ?_
    refine px_iadd dX8_beginDeed_56 ?_
    refine px_top (y := nI (dd + 1)) (nI_1 dd) ?_
    refine px_putI dX8_beginDeed_57 fX8_22 p8_2 ha hM rfl ?_
    exact px_ret dX8_beginDeed_60 rfl ⟨rfl, by rw [nI_clamp (by omega)]⟩ (rfl)
  · exact px_ret dX8_beginDeed_7 rfl (absurd h4 (by rw [hd, show (40 : Int32) = nI 40 from rfl, nI_leI (by omega) (by omega)]; omega)) (rfl)

set_option maxRecDepth 100000 in
theorem c_X8_goBackTo {E : xE} {M : xMem} {a dd n : Nat} (ha : xob a 8) (hM : xNT ≤ xN M) (hW : xWire M.2.1) (hd : M.1 a 2 = nI dd) (hd4 : dd ≤ 40) (hn : n ≤ dd) : Cf E mX8_goBackTo [.ref a, .int (nI n)] M none (if n < dd then stBack M a n else M) := by
  refine Ct.of (lo := [some (.ref a), some (.int (nI n)), none]) pln_X8 (Nat.le_of_ble_eq_true rfl) rfl (Nat.le_refl _) ?_
  have e8 : ((8 : Int32)).toNatClampNeg = 8 := by decide
  have e0 : ((0 : Int32)).toNatClampNeg = 0 := by decide
  have hnd : (nI (n * 9)).toNatClampNeg = n * 9 := nI_clamp (by omega)
  refine px_iload_n dX8_goBackTo_0 rfl rfl ?_
  refine px_if_lt 12 dX8_goBackTo_1 rfl (fun h1 => ?_) (fun h1 => ?_)
  · exact px_ret dX8_goBackTo_12 rfl (by first | exact absurd h1 (nI_pos (by omega)) | exact ⟨rfl, by rw [if_neg (fun z => h9 (by rw [nI_ltI (by omega) (by omega)]; exact z))]⟩) (rfl)
  · refine px_iload_n dX8_goBackTo_4 rfl rfl ?_
    refine px_aload_n dX8_goBackTo_5 rfl rfl ?_
    refine px_getI dX8_goBackTo_6 fX8_22 ha hM rfl ?_
    refine px_top (y := nI dd) hd ?_
    refine px_icmp_lt 13 dX8_goBackTo_9 rfl (fun h9 => ?_) (fun h9 => ?_)
    · have hlt : n < dd := by rw [nI_ltI (by omega) (by omega)] at h9; exact h9
      refine px_iload_n dX8_goBackTo_13 rfl rfl ?_
      refine px_bipush dX8_goBackTo_14 bp_9 ?_
      refine px_imul dX8_goBackTo_16 ?_
      refine px_top (y := nI (n * 9)) (pk_mul n 9) ?_
      refine px_si_2 dX8_goBackTo_17 rfl ?_
      refine px_aload_n dX8_goBackTo_18 rfl rfl ?_
      refine px_getR dX8_goBackTo_19 fX8_18 ha hM rfl (wr_8_1 hW ha) (Nat.succ_pos _) ?_
      refine px_iload_n dX8_goBackTo_22 rfl rfl ?_
      refine px_aload_n dX8_goBackTo_23 rfl rfl ?_
      refine px_getR dX8_goBackTo_24 fX8_12 ha hM rfl (wr_8_0 hW ha) (Nat.succ_pos _) ?_
      refine px_getR dX8_goBackTo_27 fX8_36 (ar_8 ha).1 hM rfl (wr_1_0 hW (ar_8 ha).1) (Nat.succ_pos _) ?_
      refine px_iconst dX8_goBackTo_30 ic_0 ?_
      refine px_bipush dX8_goBackTo_31 bp_8 ?_
      refine px_copy (kk := 20) (t0 := 0) (ty := .int) dX8_goBackTo_33 kX8_goBackTo_39 (ar_8 ha).2 (ar_1 (ar_8 ha).1) ⟨by decide, by decide⟩ (fun _ => rfl) rfl hM (nI_pos (by omega)) (show ¬ (0 : Int32) < 0 by decide) (show ¬ (8 : Int32) < 0 by decide) (by rw [hnd, e8]; omega) (by rw [e0, e8]; omega) (fun _ _ => rfl) (Nat.le_of_ble_eq_true rfl) ?_
      refine px_mem (M' := wF M (a + 1 + 1) (va_cpy (M.1 (a + 3)) (M.1 (a + 1 + 1)) (n * 9) 0 8)) (by rw [hnd, e8, e0]) ?_
      refine px_aload_n dX8_goBackTo_36 rfl rfl ?_
      refine px_getR dX8_goBackTo_37 fX8_12 ha hM rfl (wr_8_0 hW ha) (Nat.succ_pos _) ?_
      refine px_aload_n dX8_goBackTo_40 rfl rfl ?_
      refine px_getR dX8_goBackTo_41 fX8_18 ha hM rfl (wr_8_1 hW ha) (Nat.succ_pos _) ?_
      refine px_iload_n dX8_goBackTo_44 rfl rfl ?_
      refine px_bipush dX8_goBackTo_45 bp_8 ?_
      refine px_iadd dX8_goBackTo_47 ?_
      refine px_top (y := nI (n * 9 + 8)) (nI_add _ 8) ?_
      refine px_iald dX8_goBackTo_48 (ar_8 ha).2 hM (vp_in_nI (by omega) (by decide)) ?_
      refine px_top (y := M.1 (a + 3) (n * 9 + 8)) (by rw [nI_clamp (by omega), xI_wF, if_neg (by omega)]) ?_
      refine px_putI dX8_goBackTo_49 fX8_29 p1_1 (ar_8 ha).1 hM rfl ?_
      refine px_aload_n dX8_goBackTo_52 rfl rfl ?_
      refine px_iload_n dX8_goBackTo_53 rfl rfl ?_
      refine px_putI dX8_goBackTo_54 fX8_22 p8_2 ha hM rfl ?_
      exact px_ret dX8_goBackTo_57 rfl ⟨rfl, by rw [if_pos hlt]⟩ (rfl)
    · exact px_ret dX8_goBackTo_12 rfl (by first | exact absurd h1 (nI_pos (by omega)) | exact ⟨rfl, by rw [if_neg (fun z => h9 (by rw [nI_ltI (by omega) (by omega)]; exact z))]⟩) (rfl)

set_option maxRecDepth 100000 in
theorem c_X8_takeOver {E : xE} {M : xMem} {a b dd : Nat} (ha : xob a 8) (hb : xob b 8) (hab : a ≠ b) (hM : xNT ≤ xN M) (hW : xWire M.2.1) (hd : M.1 b 2 = nI dd) (hd4 : dd ≤ 40) : Cf E mX8_takeOver [.ref a, .ref b] M none (stTake M a b dd) := by
  refine Ct.of (lo := [some (.ref a), some (.ref b)]) pln_X8 (Nat.le_of_ble_eq_true rfl) rfl (Nat.le_refl _) ?_
  have e8 : ((8 : Int32)).toNatClampNeg = 8 := by decide
  have e0 : ((0 : Int32)).toNatClampNeg = 0 := by decide
  have hnd : (nI (dd * 9)).toNatClampNeg = dd * 9 := nI_clamp (by omega)
  have ha8 := xob_8 ha
  have hb8 := xob_8 hb
  refine px_aload_n dX8_takeOver_0 rfl rfl ?_
  refine px_getR dX8_takeOver_1 fX8_12 hb hM rfl (wr_8_0 hW hb) (Nat.succ_pos _) ?_
  refine px_getR dX8_takeOver_4 fX8_36 (ar_8 hb).1 hM rfl (wr_1_0 hW (ar_8 hb).1) (Nat.succ_pos _) ?_
  refine px_iconst dX8_takeOver_7 ic_0 ?_
  refine px_aload_n dX8_takeOver_8 rfl rfl ?_
  refine px_getR dX8_takeOver_9 fX8_12 ha hM rfl (wr_8_0 hW ha) (Nat.succ_pos _) ?_
  refine px_getR dX8_takeOver_12 fX8_36 (ar_8 ha).1 hM rfl (wr_1_0 hW (ar_8 ha).1) (Nat.succ_pos _) ?_
  refine px_iconst dX8_takeOver_15 ic_0 ?_
  refine px_bipush dX8_takeOver_16 bp_8 ?_
  refine px_copy (kk := 20) (t0 := 0) (ty := .int) dX8_takeOver_18 kX8_takeOver_39 (ar_1 (ar_8 hb).1) (ar_1 (ar_8 ha).1) ⟨by decide, by decide⟩ (fun _ => rfl) rfl hM (show ¬ (0 : Int32) < 0 by decide) (show ¬ (0 : Int32) < 0 by decide) (show ¬ (8 : Int32) < 0 by decide) (by rw [e0, e8]; omega) (by rw [e0, e8]; omega) (fun _ _ => rfl) (Nat.le_of_ble_eq_true rfl) ?_
  refine px_mem (M' := wF M (a + 1 + 1) (va_cpy (M.1 (b + 1 + 1)) (M.1 (a + 1 + 1)) 0 0 8)) (by rw [e8, e0]) ?_
  refine px_aload_n dX8_takeOver_21 rfl rfl ?_
  refine px_getR dX8_takeOver_22 fX8_12 ha hM rfl (wr_8_0 hW ha) (Nat.succ_pos _) ?_
  refine px_aload_n dX8_takeOver_25 rfl rfl ?_
  refine px_getR dX8_takeOver_26 fX8_12 hb hM rfl (wr_8_0 hW hb) (Nat.succ_pos _) ?_
  refine px_getI dX8_takeOver_29 fX8_29 (ar_8 hb).1 hM rfl ?_
  refine px_top (y := M.1 (b + 1) 1) (by rw [xI_wF, if_neg (by omega)]) ?_
  refine px_putI dX8_takeOver_32 fX8_29 p1_1 (ar_8 ha).1 hM rfl ?_
  refine px_aload_n dX8_takeOver_35 rfl rfl ?_
  refine px_getR dX8_takeOver_36 fX8_18 hb hM rfl (wr_8_1 hW hb) (Nat.succ_pos _) ?_
  refine px_iconst dX8_takeOver_39 ic_0 ?_
  refine px_aload_n dX8_takeOver_40 rfl rfl ?_
  refine px_getR dX8_takeOver_41 fX8_18 ha hM rfl (wr_8_1 hW ha) (Nat.succ_pos _) ?_
  refine px_iconst dX8_takeOver_44 ic_0 ?_
  refine px_aload_n dX8_takeOver_45 rfl rfl ?_
  refine px_getI dX8_takeOver_46 fX8_22 hb hM rfl ?_
  refine px_top (y := nI dd) (by rw [xI_wI, if_neg (fun z => by omega), xI_wF, if_neg (by omega)]; exact hd) ?_
  refine px_bipush dX8_takeOver_49 bp_9 ?_
  refine px_imul dX8_takeOver_51 ?_
  refine px_top (y := nI (dd * 9)) (pk_mul dd 9) ?_
  refine px_copy (kk := 20) (t0 := 0) (ty := .int) dX8_takeOver_52 kX8_takeOver_39 (ar_8 hb).2 (ar_8 ha).2 ⟨by decide, by decide⟩ (fun _ => rfl) rfl hM (show ¬ (0 : Int32) < 0 by decide) (show ¬ (0 : Int32) < 0 by decide) (nI_pos (by omega)) (by rw [e0, hnd]; omega) (by rw [e0, hnd]; omega) (fun _ _ => rfl) (Nat.le_of_ble_eq_true rfl) ?_
  refine px_mem (M' := wF (wI (wF M (a + 1 + 1) (va_cpy (M.1 (b + 1 + 1)) (M.1 (a + 1 + 1)) 0 0 8)) (a + 1) 1 (M.1 (b + 1) 1)) (a + 3) (va_cpy (M.1 (b + 3)) (M.1 (a + 3)) 0 0 (dd * 9))) (by rw [hnd, e0, tk_o (by omega) (by omega), tk_o (by omega) (by omega)]) ?_
  refine px_aload_n dX8_takeOver_55 rfl rfl ?_
  refine px_aload_n dX8_takeOver_56 rfl rfl ?_
  refine px_getI dX8_takeOver_57 fX8_22 hb hM rfl ?_
  refine px_top (y := nI dd) (by rw [xI_wF, if_neg (by omega), xI_wI, if_neg (fun z => by omega), xI_wF, if_neg (by omega)]; exact hd) ?_
  refine px_putI dX8_takeOver_60 fX8_22 p8_2 ha hM rfl ?_
  exact px_ret dX8_takeOver_63 rfl ⟨rfl, rfl⟩ (rfl)

set_option maxRecDepth 100000 in
theorem l_X11_remember {E : xE} {M : xMem} {dd : Nat} (hM : xNT ≤ xN M) (hW : xWire M.2.1) (hd : M.1 74 36 = nI dd) (h4 : dd < 40) : PR E mX11_remember (xN M) 2 [some (.ref 74), some (.int (nI 0))] [] (mcpM M 90 (33 * dd) (M.1 83) 0) (fun r m => r = none ∧ m = wI (mcpM M 90 (33 * dd) (M.1 83) 33) 74 36 (nI (dd + 1))) := by
  refine px_for (P := fun i => PR E mX11_remember (xN M) 2 [some (.ref 74), some (.int (nI i))] [] (mcpM M 90 (33 * dd) (M.1 83) i) (fun r m => r = none ∧ m = wI (mcpM M 90 (33 * dd) (M.1 83) 33) 74 36 (nI (dd + 1)))) (33) (fun i hi nx => ?_) (0) (by omega)
  refine px_iload_n dX11_remember_2 rfl rfl ?_
  refine px_bipush dX11_remember_3 bp_33 ?_
  refine px_icmp_ge 34 dX11_remember_5 rfl (fun h5 => ?_) (fun h5 => ?_)
  · have hi2 : i = 33 := by rw [show (33 : Int32) = nI 33 from rfl, nI_leI (by omega) (by omega)] at h5; omega
    refine px_aload_n dX11_remember_34 rfl rfl ?_
    first | refine px_dupi dX11_remember_35 ?_ | refine px_dupa dX11_remember_35 ?_
    refine px_getI dX11_remember_36 fX11_185 (xol rfl) hM rfl ?_
    refine px_top (y := nI dd) hd ?_
    refine px_iconst dX11_remember_39 ic_1 ?_
    refine px_iadd dX11_remember_40 ?_
    refine px_top (y := nI (dd + 1)) (nI_1 dd) ?_
    refine px_putI dX11_remember_41 fX11_185 p11_36 (xol rfl) hM rfl ?_
    exact px_ret dX11_remember_44 rfl ⟨rfl, by subst hi2; rfl⟩ (rfl)
  · have hlt : i < 33 := by rw [show (33 : Int32) = nI 33 from rfl, nI_leI (by omega) (by omega)] at h5; omega
    refine px_aload_n dX11_remember_8 rfl rfl ?_
    refine px_getR dX11_remember_9 fX11_56 (xol rfl) hM rfl (wr_11_37 hW (xol rfl)) (Nat.succ_pos _) ?_
    refine px_bipush dX11_remember_12 bp_33 ?_
    refine px_aload_n dX11_remember_14 rfl rfl ?_
    refine px_getI dX11_remember_15 fX11_185 (xol rfl) hM rfl ?_
    refine px_top (y := nI dd) hd ?_
    refine px_imul dX11_remember_18 ?_
    refine px_iload_n dX11_remember_19 rfl rfl ?_
    refine px_iadd dX11_remember_20 ?_
    refine px_top (y := nI (33 * dd + i)) (by rw [show (33 : Int32) = nI 33 from rfl, pk_mul, nI_add]) ?_
    refine px_aload_n dX11_remember_21 rfl rfl ?_
    refine px_getR dX11_remember_22 fX11_35 (xol rfl) hM rfl (wr_11_23 hW (xol rfl)) (Nat.succ_pos _) ?_
    refine px_iload_n dX11_remember_25 rfl rfl ?_
    refine px_iald dX11_remember_26 (xal (n := 33) rfl) hM (vp_in_nI (by omega) (by decide)) ?_
    refine px_top (y := M.1 83 i) (by rw [nI_clamp (by omega)]; rfl) ?_
    refine px_iast dX11_remember_27 (xal (n := 1320) rfl) hM (vp_in_nI (by omega) (by decide)) ?_
    refine px_inc_1 dX11_remember_28 rfl ic_1 ?_
    refine px_goto 2 dX11_remember_31 rfl ?_
    exact px_eq (by rw [nI_1]) (by rw [nI_clamp (by omega)]; exact mcp_s _ _ _ _ _) (nx hlt)

set_option maxRecDepth 100000 in
theorem c_X11_remember {E : xE} {M : xMem} {dd : Nat} (hM : xNT ≤ xN M) (hW : xWire M.2.1) (hd : M.1 74 36 = nI dd) (h4 : dd < 40) : Cf E mX11_remember [.ref 74] M none (wI (mcpM M 90 (33 * dd) (M.1 83) 33) 74 36 (nI (dd + 1))) := by
  refine Ct.of (lo := [some (.ref 74), none]) pln_X11 (Nat.le_of_ble_eq_true rfl) rfl (Nat.le_refl _) ?_
  refine px_iconst dX11_remember_0 ic_0 ?_
  refine px_si_1 dX11_remember_1 rfl ?_
  have k := l_X11_remember (E := E) hM hW hd h4
  rw [mcp_0] at k
  exact k

set_option maxRecDepth 100000 in
theorem l_undo_56 {E : xE} {m : xMem} {ne : Nat} {v : Int32} {n : Nat} {l3 : Option Value} (hM : xNT ≤ xN m) (hn : xN m = ne) : PR E mX11_undo ne 56 [some (.ref 74), some (.int (nI n)), some (.int v), l3] [] m (fun r m' => r = some (.int v) ∧ m' = wI m 74 36 (nI n)) := by
  refine px_aload_n dX11_undo_56 rfl rfl ?_
  refine px_iload_n dX11_undo_57 rfl rfl ?_
  refine px_putI dX11_undo_58 fX11_185 p11_36 (xol rfl) hM rfl ?_
  refine px_iload_n dX11_undo_61 rfl rfl ?_
  exact px_iret dX11_undo_62 rfl ⟨rfl, rfl⟩ (hn)

set_option maxRecDepth 100000 in
theorem l_X11_undo {E : xE} {M : xMem} {dd n : Nat} (hM : xNT ≤ xN M) (hW : xWire M.2.1) (hd : M.1 74 36 = nI dd) (hd4 : dd ≤ 40) (hn : n < dd) : PR E mX11_undo (xN M) 23 [some (.ref 74), some (.int (nI n)), some (.int (nI (dd - n))), some (.int (nI 0))] [] (mcpM M 83 0 (fun k => M.1 90 (33 * n + k)) 0) (fun r m => r = some (.int (nI (dd - n))) ∧ m = wI (mcpM M 83 0 (fun k => M.1 90 (33 * n + k)) 33) 74 36 (nI n)) := by
  refine px_for (P := fun i => PR E mX11_undo (xN M) 23 [some (.ref 74), some (.int (nI n)), some (.int (nI (dd - n))), some (.int (nI i))] [] (mcpM M 83 0 (fun k => M.1 90 (33 * n + k)) i) (fun r m => r = some (.int (nI (dd - n))) ∧ m = wI (mcpM M 83 0 (fun k => M.1 90 (33 * n + k)) 33) 74 36 (nI n))) (33) (fun i hi nx => ?_) (0) (by omega)
  refine px_iload_n dX11_undo_23 rfl rfl ?_
  refine px_bipush dX11_undo_24 bp_33 ?_
  refine px_icmp_ge 56 dX11_undo_26 rfl (fun h26 => ?_) (fun h26 => ?_)
  · first
      | exact absurd h30 (nI_nle (by omega) (by omega))
      | (have hi2 : i = 33 := (by rw [show (33 : Int32) = nI 33 from rfl, nI_leI (by omega) (by omega)] at h26; omega); subst hi2; exact l_undo_56 hM rfl)
  · have hlt : i < 33 := by rw [show (33 : Int32) = nI 33 from rfl, nI_leI (by omega) (by omega)] at h26; omega
    refine px_iload_n dX11_undo_29 rfl rfl ?_
    refine px_if_le 56 dX11_undo_30 rfl (fun h30 => ?_) (fun h30 => ?_)
    · first
        | exact absurd h30 (nI_nle (by omega) (by omega))
        | (have hi2 : i = 33 := (by rw [show (33 : Int32) = nI 33 from rfl, nI_leI (by omega) (by omega)] at h26; omega); subst hi2; exact l_undo_56 hM rfl)
    · refine px_aload_n dX11_undo_33 rfl rfl ?_
      refine px_getR dX11_undo_34 fX11_35 (xol rfl) hM rfl (wr_11_23 hW (xol rfl)) (Nat.succ_pos _) ?_
      refine px_iload_n dX11_undo_37 rfl rfl ?_
      refine px_aload_n dX11_undo_38 rfl rfl ?_
      refine px_getR dX11_undo_39 fX11_56 (xol rfl) hM rfl (wr_11_37 hW (xol rfl)) (Nat.succ_pos _) ?_
      refine px_bipush dX11_undo_42 bp_33 ?_
      refine px_iload_n dX11_undo_44 rfl rfl ?_
      refine px_imul dX11_undo_45 ?_
      refine px_iload_n dX11_undo_46 rfl rfl ?_
      refine px_iadd dX11_undo_47 ?_
      refine px_top (y := nI (33 * n + i)) (by rw [show (33 : Int32) = nI 33 from rfl, pk_mul, nI_add]) ?_
      refine px_iald dX11_undo_48 (xal (n := 1320) rfl) hM (vp_in_nI (by omega) (by decide)) ?_
      refine px_top (y := M.1 90 (33 * n + i)) (by rw [nI_clamp (by omega)]; rfl) ?_
      refine px_iast dX11_undo_49 (xal (n := 33) rfl) hM (vp_in_nI (by omega) (by decide)) ?_
      refine px_inc_3 dX11_undo_50 rfl ic_1 ?_
      refine px_goto 23 dX11_undo_53 rfl ?_
      exact px_eq (by rw [nI_1]) (by rw [nI_clamp (by omega)]; have e := mcp_s M 83 0 (fun k => M.1 90 (33 * n + k)) i; rw [Nat.zero_add] at e; exact e) (nx hlt)

set_option maxRecDepth 100000 in
theorem c_X11_undo {E : xE} {M : xMem} {dd : Nat} {v : Int32} (hM : xNT ≤ xN M) (hW : xWire M.2.1) (hd : M.1 74 36 = nI dd) (hd4 : dd ≤ 40) : Cf E mX11_undo [.ref 74, .int v] M (some (.int (if ¬ (0 ≤ v ∧ v ≤ nI dd) then -1 else nI (dd - v.toNatClampNeg)))) (if ¬ (0 ≤ v ∧ v ≤ nI dd) then M else if v.toNatClampNeg < dd then wI (mcpM M 83 0 (fun k => M.1 90 (33 * v.toNatClampNeg + k)) 33) 74 36 v else wI M 74 36 v) := by
  refine Ct.of (lo := [some (.ref 74), some (.int v), none, none]) pln_X11 (Nat.le_of_ble_eq_true rfl) rfl (Nat.le_refl _) ?_
  refine px_iload_n dX11_undo_0 rfl rfl ?_
  refine px_iconst dX11_undo_1 ic_0 ?_
  refine px_aload_n dX11_undo_2 rfl rfl ?_
  refine px_getI dX11_undo_3 fX11_185 (xol rfl) hM rfl ?_
  refine px_top (y := nI dd) hd ?_
  refine px_fS3i dX11_undo_6 kX11_undo_75 (Nat.le_of_ble_eq_true rfl) (c_X11_in) ?_
  refine px_zif_ne 14 dX11_undo_9 rfl (fun h9 => ?_) (fun h9 => ?_)
  · obtain ⟨n, hn1, rfl⟩ : ∃ n : Nat, n ≤ dd ∧ v = nI n := by
      obtain ⟨j, hj, e⟩ := nI_of (n_le h9.1)
      subst e
      have := h9.2
      rw [nI_leI hj (by omega)] at this
      exact ⟨j, this, rfl⟩
    have hnv : (nI n).toNatClampNeg = n := nI_clamp (by omega)
    refine px_aload_n dX11_undo_14 rfl rfl ?_
    refine px_getI dX11_undo_15 fX11_185 (xol rfl) hM rfl ?_
    refine px_top (y := nI dd) hd ?_
    refine px_iload_n dX11_undo_18 rfl rfl ?_
    refine px_isub dX11_undo_19 ?_
    refine px_top (y := nI (dd - n)) (pk_sub hn1) ?_
    refine px_si_2 dX11_undo_20 rfl ?_
    refine px_iconst dX11_undo_21 ic_0 ?_
    refine px_si_3 dX11_undo_22 rfl ?_
    rw [if_neg (fun z => z h9), if_neg (fun z => z h9), hnv]
    by_cases hlt : n < dd
    · rw [if_pos hlt]
      have k := l_X11_undo (E := E) hM hW hd hd4 hlt
      rw [mcp_0] at k
      exact k
    · rw [if_neg hlt]
      have e : n = dd := by omega
      subst e
      refine px_iload_n dX11_undo_23 rfl rfl ?_
      refine px_bipush dX11_undo_24 bp_33 ?_
      refine px_icmp_ge 56 dX11_undo_26 rfl (fun h26 => absurd h26 (by decide)) (fun h26 => ?_)
      refine px_iload_n dX11_undo_29 rfl rfl ?_
      refine px_if_le 56 dX11_undo_30 rfl (fun h30 => l_undo_56 hM rfl) (fun h30 => absurd (show nI (n - n) ≤ 0 by rw [Nat.sub_self]; decide) h30)
  · refine px_iconst dX11_undo_12 ic_m1 ?_
    exact px_iret dX11_undo_13 rfl ⟨by rw [if_pos h9], by rw [if_pos h9]⟩ (rfl)

set_option maxRecDepth 100000 in
theorem l_keep_65 {E : xE} {M : xMem} {dd k : Nat} (hM : xNT ≤ xN M) (hW : xWire M.2.1) (hd : M.1 74 36 = nI dd) (hd4 : dd ≤ 40) (hk : k < 3) : PR E mX11_keep (xN M) 65 [some (.ref 74), some (.int (nI k)), some (.int (nI 0))] [] (mcpM (mcpM (wI M 91 k (nI dd)) 92 (1353 * k) (M.1 83) 33) 92 (1353 * k + 33) (M.1 90) 0) (fun r m => r = some (.int (nI dd)) ∧ m = mcpM (mcpM (wI M 91 k (nI dd)) 92 (1353 * k) (M.1 83) 33) 92 (1353 * k + 33) (M.1 90) (33 * dd)) := by
  refine px_for (P := fun i => PR E mX11_keep (xN M) 65 [some (.ref 74), some (.int (nI k)), some (.int (nI i))] [] (mcpM (mcpM (wI M 91 k (nI dd)) 92 (1353 * k) (M.1 83) 33) 92 (1353 * k + 33) (M.1 90) i) (fun r m => r = some (.int (nI dd)) ∧ m = mcpM (mcpM (wI M 91 k (nI dd)) 92 (1353 * k) (M.1 83) 33) 92 (1353 * k + 33) (M.1 90) (33 * dd))) (33 * dd) (fun i hi nx => ?_) (0) (by omega)
  refine px_iload_n dX11_keep_65 rfl rfl ?_
  refine px_bipush dX11_keep_66 bp_33 ?_
  refine px_aload_n dX11_keep_68 rfl rfl ?_
  refine px_getI dX11_keep_69 fX11_185 (xol rfl) hM rfl ?_
  refine px_top (y := nI dd) hd ?_
  refine px_imul dX11_keep_72 ?_
  refine px_top (y := nI (33 * dd)) (by rw [show (33 : Int32) = nI 33 from rfl, pk_mul]) ?_
  refine px_icmp_ge 103 dX11_keep_73 rfl (fun h73 => ?_) (fun h73 => ?_)
  · have hi2 : i = 33 * dd := by rw [nI_leI (by omega) (by omega)] at h73; omega
    refine px_aload_n dX11_keep_103 rfl rfl ?_
    refine px_getI dX11_keep_104 fX11_185 (xol rfl) hM rfl ?_
    refine px_top (y := nI dd) hd ?_
    exact px_iret dX11_keep_107 rfl ⟨rfl, by rw [hi2]⟩ (rfl)
  · have hlt : i < 33 * dd := by rw [nI_leI (by omega) (by omega)] at h73; omega
    refine px_aload_n dX11_keep_76 rfl rfl ?_
    refine px_getR dX11_keep_77 fX11_62 (xol rfl) hM rfl (wr_11_39 hW (xol rfl)) (Nat.succ_pos _) ?_
    refine px_sipush dX11_keep_80 sp_1353 ?_
    refine px_iload_n dX11_keep_83 rfl rfl ?_
    refine px_imul dX11_keep_84 ?_
    refine px_bipush dX11_keep_85 bp_33 ?_
    refine px_iadd dX11_keep_87 ?_
    refine px_iload_n dX11_keep_88 rfl rfl ?_
    refine px_iadd dX11_keep_89 ?_
    refine px_top (y := nI (1353 * k + 33 + i)) (by rw [show (33 : Int32) = nI 33 from rfl, show (1353 : Int32) = nI 1353 from rfl, pk_mul, nI_add, nI_add]) ?_
    refine px_aload_n dX11_keep_90 rfl rfl ?_
    refine px_getR dX11_keep_91 fX11_56 (xol rfl) hM rfl (wr_11_37 hW (xol rfl)) (Nat.succ_pos _) ?_
    refine px_iload_n dX11_keep_94 rfl rfl ?_
    refine px_iald dX11_keep_95 (xal (n := 1320) rfl) hM (vp_in_nI (by omega) (by decide)) ?_
    refine px_top (y := M.1 90 i) (by rw [nI_clamp (by omega)]; rfl) ?_
    refine px_iast dX11_keep_96 (xal (n := 4059) rfl) hM (vp_in_nI (by omega) (by decide)) ?_
    refine px_inc_2 dX11_keep_97 rfl ic_1 ?_
    refine px_goto 65 dX11_keep_100 rfl ?_
    exact px_eq (by rw [nI_1]) (by rw [nI_clamp (by omega)]; exact mcp_s _ _ _ _ _) (nx hlt)

set_option maxRecDepth 100000 in
theorem l_keep_33 {E : xE} {M : xMem} {dd k : Nat} (hM : xNT ≤ xN M) (hW : xWire M.2.1) (hd : M.1 74 36 = nI dd) (hd4 : dd ≤ 40) (hk : k < 3) : PR E mX11_keep (xN M) 33 [some (.ref 74), some (.int (nI k)), some (.int (nI 0))] [] ((mcpM (wI M 91 k (nI dd)) 92 (1353 * k) (M.1 83) 0)) (fun r m => r = some (.int (nI dd)) ∧ m = mcpM (mcpM (wI M 91 k (nI dd)) 92 (1353 * k) (M.1 83) 33) 92 (1353 * k + 33) (M.1 90) (33 * dd)) := by
  refine px_for (P := fun i => PR E mX11_keep (xN M) 33 [some (.ref 74), some (.int (nI k)), some (.int (nI i))] [] ((mcpM (wI M 91 k (nI dd)) 92 (1353 * k) (M.1 83) i)) (fun r m => r = some (.int (nI dd)) ∧ m = mcpM (mcpM (wI M 91 k (nI dd)) 92 (1353 * k) (M.1 83) 33) 92 (1353 * k + 33) (M.1 90) (33 * dd))) (33) (fun i hi nx => ?_) (0) (by omega)
  refine px_iload_n dX11_keep_33 rfl rfl ?_
  refine px_bipush dX11_keep_34 bp_33 ?_
  refine px_icmp_ge 63 dX11_keep_36 rfl (fun h36 => ?_) (fun h36 => ?_)
  · have hi2 : i = 33 := by rw [show (33 : Int32) = nI 33 from rfl, nI_leI (by omega) (by omega)] at h36; omega
    subst hi2
    refine px_iconst dX11_keep_63 ic_0 ?_
    refine px_si_2 dX11_keep_64 rfl ?_
    have kk := l_keep_65 (E := E) hM hW hd hd4 hk
    rw [mcp_0] at kk
    exact kk
  · have hlt : i < 33 := by rw [show (33 : Int32) = nI 33 from rfl, nI_leI (by omega) (by omega)] at h36; omega
    refine px_aload_n dX11_keep_39 rfl rfl ?_
    refine px_getR dX11_keep_40 fX11_62 (xol rfl) hM rfl (wr_11_39 hW (xol rfl)) (Nat.succ_pos _) ?_
    refine px_sipush dX11_keep_43 sp_1353 ?_
    refine px_iload_n dX11_keep_46 rfl rfl ?_
    refine px_imul dX11_keep_47 ?_
    refine px_iload_n dX11_keep_48 rfl rfl ?_
    refine px_iadd dX11_keep_49 ?_
    refine px_top (y := nI (1353 * k + i)) (by rw [show (1353 : Int32) = nI 1353 from rfl, pk_mul, nI_add]) ?_
    refine px_aload_n dX11_keep_50 rfl rfl ?_
    refine px_getR dX11_keep_51 fX11_35 (xol rfl) hM rfl (wr_11_23 hW (xol rfl)) (Nat.succ_pos _) ?_
    refine px_iload_n dX11_keep_54 rfl rfl ?_
    refine px_iald dX11_keep_55 (xal (n := 33) rfl) hM (vp_in_nI (by omega) (by decide)) ?_
    refine px_top (y := M.1 83 i) (by rw [nI_clamp (by omega)]; rfl) ?_
    refine px_iast dX11_keep_56 (xal (n := 4059) rfl) hM (vp_in_nI (by omega) (by decide)) ?_
    refine px_inc_2 dX11_keep_57 rfl ic_1 ?_
    refine px_goto 33 dX11_keep_60 rfl ?_
    exact px_eq (by rw [nI_1]) (by rw [nI_clamp (by omega)]; exact mcp_s _ _ _ _ _) (nx hlt)

set_option maxRecDepth 100000 in
theorem c_X11_keep {E : xE} {M : xMem} {dd : Nat} {v : Int32} (hM : xNT ≤ xN M) (hW : xWire M.2.1) (hd : M.1 74 36 = nI dd) (hd4 : dd ≤ 40) : Cf E mX11_keep [.ref 74, .int v] M (some (.int (if ¬ (0 ≤ v ∧ v ≤ 2) then -1 else if M.1 74 11 = 0 then -4 else nI dd))) (if ¬ (0 ≤ v ∧ v ≤ 2) then M else if M.1 74 11 = 0 then M else mcpM (mcpM (wI M 91 v.toNatClampNeg (nI dd)) 92 (1353 * v.toNatClampNeg) (M.1 83) 33) 92 (1353 * v.toNatClampNeg + 33) (M.1 90) (33 * dd)) := by
  refine Ct.of (lo := [some (.ref 74), some (.int v), none]) pln_X11 (Nat.le_of_ble_eq_true rfl) rfl (Nat.le_refl _) ?_
  refine px_iload_n dX11_keep_0 rfl rfl ?_
  refine px_iconst dX11_keep_1 ic_0 ?_
  refine px_iconst dX11_keep_2 ic_2 ?_
  refine px_fS3i dX11_keep_3 kX11_keep_75 (Nat.le_of_ble_eq_true rfl) (c_X11_in) ?_
  refine px_zif_ne 11 dX11_keep_6 rfl (fun h6 => ?_) (fun h6 => ?_)
  · obtain ⟨k, hk, rfl⟩ : ∃ n : Nat, n < 3 ∧ v = nI n := by
      obtain ⟨j, hj, e⟩ := nI_of (n_le h6.1)
      subst e
      have := h6.2
      rw [show (2 : Int32) = nI 2 from rfl, nI_leI hj (by omega)] at this
      exact ⟨j, by omega, rfl⟩
    have hnk : (nI k).toNatClampNeg = k := nI_clamp (by omega)
    refine px_aload_n dX11_keep_11 rfl rfl ?_
    refine px_getI dX11_keep_12 fX11_179 (xol rfl) hM rfl ?_
    refine px_if_ne 21 dX11_keep_15 rfl (fun h15 => ?_) (fun h15 => ?_)
    · refine px_aload_n dX11_keep_21 rfl rfl ?_
      refine px_getR dX11_keep_22 fX11_59 (xol rfl) hM rfl (wr_11_38 hW (xol rfl)) (Nat.succ_pos _) ?_
      refine px_iload_n dX11_keep_25 rfl rfl ?_
      refine px_aload_n dX11_keep_26 rfl rfl ?_
      refine px_getI dX11_keep_27 fX11_185 (xol rfl) hM rfl ?_
      refine px_top (y := nI dd) hd ?_
      refine px_iast dX11_keep_30 (xal (n := 3) rfl) hM (vp_in_nI (by omega) (by decide)) ?_
      refine px_mem (M' := (wI M 91 k (nI dd))) (by rw [hnk]) ?_
      refine px_iconst dX11_keep_31 ic_0 ?_
      refine px_si_2 dX11_keep_32 rfl ?_
      have hn6 : ¬ ¬ (0 ≤ nI k ∧ nI k ≤ 2) := fun z => z h6
      simp only [if_neg hn6, if_neg h15, hnk]
      have kk := l_keep_33 (E := E) hM hW hd hd4 hk
      rw [mcp_0] at kk
      exact kk
    · refine px_bipush dX11_keep_18 bp_m4 ?_
      exact px_iret dX11_keep_20 rfl ⟨by rw [if_neg (fun z => z h6), if_pos h15], by rw [if_neg (fun z => z h6), if_pos h15]⟩ (rfl)
  · refine px_iconst dX11_keep_9 ic_m1 ?_
    exact px_iret dX11_keep_10 rfl ⟨by rw [if_pos h6], by rw [if_pos h6]⟩ (rfl)

set_option maxRecDepth 100000 in
theorem l_on_70 {E : xE} {M : xMem} {dd k : Nat} (hM : xNT ≤ xN M) (hW : xWire M.2.1) (hd : M.1 91 k = nI dd) (hd4 : dd ≤ 40) (hk : k < 3) : PR E mX11_on (xN M) 70 [some (.ref 74), some (.int (nI k)), some (.int (nI 0))] [] (mcpM (mcpM (wI M 74 36 (nI dd)) 83 0 (fun j => M.1 92 (1353 * k + j)) 33) 90 0 (fun j => M.1 92 (1353 * k + 33 + j)) 0) (fun r m => r = some (.int (nI dd)) ∧ m = mcpM (mcpM (wI M 74 36 (nI dd)) 83 0 (fun j => M.1 92 (1353 * k + j)) 33) 90 0 (fun j => M.1 92 (1353 * k + 33 + j)) (33 * dd)) := by
  refine px_for (P := fun i => PR E mX11_on (xN M) 70 [some (.ref 74), some (.int (nI k)), some (.int (nI i))] [] (mcpM (mcpM (wI M 74 36 (nI dd)) 83 0 (fun j => M.1 92 (1353 * k + j)) 33) 90 0 (fun j => M.1 92 (1353 * k + 33 + j)) i) (fun r m => r = some (.int (nI dd)) ∧ m = mcpM (mcpM (wI M 74 36 (nI dd)) 83 0 (fun j => M.1 92 (1353 * k + j)) 33) 90 0 (fun j => M.1 92 (1353 * k + 33 + j)) (33 * dd))) (33 * dd) (fun i hi nx => ?_) (0) (by omega)
  refine px_iload_n dX11_on_70 rfl rfl ?_
  refine px_bipush dX11_on_71 bp_33 ?_
  refine px_aload_n dX11_on_73 rfl rfl ?_
  refine px_getI dX11_on_74 fX11_185 (xol rfl) hM rfl ?_
  refine px_top (y := nI dd) rfl ?_
  refine px_imul dX11_on_77 ?_
  refine px_top (y := nI (33 * dd)) (by rw [show (33 : Int32) = nI 33 from rfl, pk_mul]) ?_
  refine px_icmp_ge 108 dX11_on_78 rfl (fun h78 => ?_) (fun h78 => ?_)
  · have hi2 : i = 33 * dd := by rw [nI_leI (by omega) (by omega)] at h78; omega
    refine px_aload_n dX11_on_108 rfl rfl ?_
    refine px_getI dX11_on_109 fX11_185 (xol rfl) hM rfl ?_
    refine px_top (y := nI dd) rfl ?_
    exact px_iret dX11_on_112 rfl ⟨rfl, by rw [hi2]⟩ (rfl)
  · have hlt : i < 33 * dd := by rw [nI_leI (by omega) (by omega)] at h78; omega
    refine px_aload_n dX11_on_81 rfl rfl ?_
    refine px_getR dX11_on_82 fX11_56 (xol rfl) hM rfl (wr_11_37 hW (xol rfl)) (Nat.succ_pos _) ?_
    refine px_iload_n dX11_on_85 rfl rfl ?_
    refine px_aload_n dX11_on_86 rfl rfl ?_
    refine px_getR dX11_on_87 fX11_62 (xol rfl) hM rfl (wr_11_39 hW (xol rfl)) (Nat.succ_pos _) ?_
    refine px_sipush dX11_on_90 sp_1353 ?_
    refine px_iload_n dX11_on_93 rfl rfl ?_
    refine px_imul dX11_on_94 ?_
    refine px_bipush dX11_on_95 bp_33 ?_
    refine px_iadd dX11_on_97 ?_
    refine px_iload_n dX11_on_98 rfl rfl ?_
    refine px_iadd dX11_on_99 ?_
    refine px_top (y := nI (1353 * k + 33 + i)) (by rw [show (33 : Int32) = nI 33 from rfl, show (1353 : Int32) = nI 1353 from rfl, pk_mul, nI_add, nI_add]) ?_
    refine px_iald dX11_on_100 (xal (n := 4059) rfl) hM (vp_in_nI (by omega) (by decide)) ?_
    refine px_top (y := M.1 92 (1353 * k + 33 + i)) (by rw [nI_clamp (by omega)]; rfl) ?_
    refine px_iast dX11_on_101 (xal (n := 1320) rfl) hM (vp_in_nI (by omega) (by decide)) ?_
    refine px_inc_2 dX11_on_102 rfl ic_1 ?_
    refine px_goto 70 dX11_on_105 rfl ?_
    exact px_eq (by rw [nI_1]) (by rw [nI_clamp (by omega)]; have e := mcp_s (mcpM (wI M 74 36 (nI dd)) 83 0 (fun j => M.1 92 (1353 * k + j)) 33) 90 0 (fun j => M.1 92 (1353 * k + 33 + j)) i; rw [Nat.zero_add] at e; exact e) (nx hlt)

set_option maxRecDepth 100000 in
theorem l_on_38 {E : xE} {M : xMem} {dd k : Nat} (hM : xNT ≤ xN M) (hW : xWire M.2.1) (hd : M.1 91 k = nI dd) (hd4 : dd ≤ 40) (hk : k < 3) : PR E mX11_on (xN M) 38 [some (.ref 74), some (.int (nI k)), some (.int (nI 0))] [] ((mcpM (wI M 74 36 (nI dd)) 83 0 (fun j => M.1 92 (1353 * k + j)) 0)) (fun r m => r = some (.int (nI dd)) ∧ m = mcpM (mcpM (wI M 74 36 (nI dd)) 83 0 (fun j => M.1 92 (1353 * k + j)) 33) 90 0 (fun j => M.1 92 (1353 * k + 33 + j)) (33 * dd)) := by
  refine px_for (P := fun i => PR E mX11_on (xN M) 38 [some (.ref 74), some (.int (nI k)), some (.int (nI i))] [] ((mcpM (wI M 74 36 (nI dd)) 83 0 (fun j => M.1 92 (1353 * k + j)) i)) (fun r m => r = some (.int (nI dd)) ∧ m = mcpM (mcpM (wI M 74 36 (nI dd)) 83 0 (fun j => M.1 92 (1353 * k + j)) 33) 90 0 (fun j => M.1 92 (1353 * k + 33 + j)) (33 * dd))) (33) (fun i hi nx => ?_) (0) (by omega)
  refine px_iload_n dX11_on_38 rfl rfl ?_
  refine px_bipush dX11_on_39 bp_33 ?_
  refine px_icmp_ge 68 dX11_on_41 rfl (fun h41 => ?_) (fun h41 => ?_)
  · have hi2 : i = 33 := by rw [show (33 : Int32) = nI 33 from rfl, nI_leI (by omega) (by omega)] at h41; omega
    subst hi2
    refine px_iconst dX11_on_68 ic_0 ?_
    refine px_si_2 dX11_on_69 rfl ?_
    have kk := l_on_70 (E := E) hM hW hd hd4 hk
    rw [mcp_0] at kk
    exact kk
  · have hlt : i < 33 := by rw [show (33 : Int32) = nI 33 from rfl, nI_leI (by omega) (by omega)] at h41; omega
    refine px_aload_n dX11_on_44 rfl rfl ?_
    refine px_getR dX11_on_45 fX11_35 (xol rfl) hM rfl (wr_11_23 hW (xol rfl)) (Nat.succ_pos _) ?_
    refine px_iload_n dX11_on_48 rfl rfl ?_
    refine px_aload_n dX11_on_49 rfl rfl ?_
    refine px_getR dX11_on_50 fX11_62 (xol rfl) hM rfl (wr_11_39 hW (xol rfl)) (Nat.succ_pos _) ?_
    refine px_sipush dX11_on_53 sp_1353 ?_
    refine px_iload_n dX11_on_56 rfl rfl ?_
    refine px_imul dX11_on_57 ?_
    refine px_iload_n dX11_on_58 rfl rfl ?_
    refine px_iadd dX11_on_59 ?_
    refine px_top (y := nI (1353 * k + i)) (by rw [show (1353 : Int32) = nI 1353 from rfl, pk_mul, nI_add]) ?_
    refine px_iald dX11_on_60 (xal (n := 4059) rfl) hM (vp_in_nI (by omega) (by decide)) ?_
    refine px_top (y := M.1 92 (1353 * k + i)) (by rw [nI_clamp (by omega)]; rfl) ?_
    refine px_iast dX11_on_61 (xal (n := 33) rfl) hM (vp_in_nI (by omega) (by decide)) ?_
    refine px_inc_2 dX11_on_62 rfl ic_1 ?_
    refine px_goto 38 dX11_on_65 rfl ?_
    exact px_eq (by rw [nI_1]) (by rw [nI_clamp (by omega)]; have e := mcp_s (wI M 74 36 (nI dd)) 83 0 (fun j => M.1 92 (1353 * k + j)) i; rw [Nat.zero_add] at e; exact e) (nx hlt)

set_option maxRecDepth 100000 in
theorem c_X11_on {E : xE} {M : xMem} {v : Int32} (hM : xNT ≤ xN M) (hW : xWire M.2.1) (hkm : ∀ k, k < 3 → M.1 91 k = -1 ∨ ∃ dd, dd ≤ 40 ∧ M.1 91 k = nI dd) : Cf E mX11_on [.ref 74, .int v] M (some (.int (if ¬ (0 ≤ v ∧ v ≤ 2) then -1 else if ¬ 0 ≤ M.1 91 v.toNatClampNeg then -3 else M.1 91 v.toNatClampNeg))) (if ¬ (0 ≤ v ∧ v ≤ 2) then M else if ¬ 0 ≤ M.1 91 v.toNatClampNeg then mref M 1 else mcpM (mcpM (wI M 74 36 (M.1 91 v.toNatClampNeg)) 83 0 (fun j => M.1 92 (1353 * v.toNatClampNeg + j)) 33) 90 0 (fun j => M.1 92 (1353 * v.toNatClampNeg + 33 + j)) (33 * (M.1 91 v.toNatClampNeg).toNatClampNeg)) := by
  refine Ct.of (lo := [some (.ref 74), some (.int v), none]) pln_X11 (Nat.le_of_ble_eq_true rfl) rfl (Nat.le_refl _) ?_
  refine px_iload_n dX11_on_0 rfl rfl ?_
  refine px_iconst dX11_on_1 ic_0 ?_
  refine px_iconst dX11_on_2 ic_2 ?_
  refine px_fS3i dX11_on_3 kX11_on_75 (Nat.le_of_ble_eq_true rfl) (c_X11_in) ?_
  refine px_zif_ne 11 dX11_on_6 rfl (fun h6 => ?_) (fun h6 => ?_)
  · obtain ⟨k, hk, rfl⟩ : ∃ n : Nat, n < 3 ∧ v = nI n := by
      obtain ⟨j, hj, e⟩ := nI_of (n_le h6.1)
      subst e
      have := h6.2
      rw [show (2 : Int32) = nI 2 from rfl, nI_leI hj (by omega)] at this
      exact ⟨j, by omega, rfl⟩
    have hnk : (nI k).toNatClampNeg = k := nI_clamp (by omega)
    refine px_aload_n dX11_on_11 rfl rfl ?_
    refine px_getR dX11_on_12 fX11_59 (xol rfl) hM rfl (wr_11_38 hW (xol rfl)) (Nat.succ_pos _) ?_
    refine px_iload_n dX11_on_15 rfl rfl ?_
    refine px_iald dX11_on_16 (xal (n := 3) rfl) hM (vp_in_nI (by omega) (by decide)) ?_
    refine px_top (y := M.1 91 k) (by rw [hnk]) ?_
    refine px_if_ge 26 dX11_on_17 rfl (fun h17 => ?_) (fun h17 => ?_)
    · obtain ⟨dd, hd4, hd⟩ : ∃ dd, dd ≤ 40 ∧ M.1 91 k = nI dd := by
        rcases hkm k hk with e | e
        · rw [e] at h17; exact absurd h17 (by decide)
        · exact e
      have hnd : (nI dd).toNatClampNeg = dd := nI_clamp (by omega)
      refine px_aload_n dX11_on_26 rfl rfl ?_
      refine px_aload_n dX11_on_27 rfl rfl ?_
      refine px_getR dX11_on_28 fX11_59 (xol rfl) hM rfl (wr_11_38 hW (xol rfl)) (Nat.succ_pos _) ?_
      refine px_iload_n dX11_on_31 rfl rfl ?_
      refine px_iald dX11_on_32 (xal (n := 3) rfl) hM (vp_in_nI (by omega) (by decide)) ?_
      refine px_top (y := nI dd) (by rw [hnk]; exact hd) ?_
      refine px_putI dX11_on_33 fX11_185 p11_36 (xol rfl) hM rfl ?_
      refine px_iconst dX11_on_36 ic_0 ?_
      refine px_si_2 dX11_on_37 rfl ?_
      have hn6 : ¬ ¬ (0 ≤ nI k ∧ nI k ≤ 2) := fun z => z h6
      have hn17 : ¬ ¬ 0 ≤ M.1 91 k := fun z => z h17
      simp only [if_neg hn6, hnk]
      simp only [if_neg hn17]
      simp only [hd, hnd]
      have kk := l_on_38 (E := E) hM hW hd hd4 hk
      rw [mcp_0] at kk
      exact kk
    · refine px_aload_n dX11_on_20 rfl rfl ?_
      refine px_iconst dX11_on_21 ic_1 ?_
      refine px_fV1i dX11_on_22 kX11_on_83 (xol rfl) hM (Nat.le_of_ble_eq_true rfl) (c_X11_found hM hW (vp_in_nI (n := 1) (by decide) (by decide))) ?_
      exact px_iret dX11_on_25 rfl ⟨by rw [if_neg (fun z => z h6), hnk, if_pos h17], by rw [if_neg (fun z => z h6), hnk, if_pos h17]⟩ (rfl)
  · refine px_iconst dX11_on_9 ic_m1 ?_
    exact px_iret dX11_on_10 rfl ⟨by rw [if_pos h6], by rw [if_pos h6]⟩ (rfl)
