/-! ===== what lies at a place; what a page could take ===== -/
noncomputable def sF (n : Nat) (A D : Nat → Nat) (lay : gLay) (p i j : Nat) : Option Nat := @dite _ (∃ f, f < n ∧ gCov A D lay p f i j) (Classical.propDecidable _) (fun h => some (Classical.choose h)) (fun _ => none)
theorem sF_s {n W H : Nat} {A D : Nat → Nat} {lay : gLay} (ho : lyOK n W H A D lay) {p i j f : Nat} (hf : f < n) (hc : gCov A D lay p f i j) : sF n A D lay p i j = some f := by
  have hx : ∃ f, f < n ∧ gCov A D lay p f i j := ⟨f, hf, hc⟩
  unfold sF
  rw [dif_pos hx, ho.2.2 _ _ p i j (Classical.choose_spec hx).2 hc]
theorem sF_n {n : Nat} {A D : Nat → Nat} {lay : gLay} {p i j : Nat} (h : ∀ f, f < n → ¬ gCov A D lay p f i j) : sF n A D lay p i j = none := by
  unfold sF
  rw [dif_neg (fun ⟨f, h1, h2⟩ => h f h1 h2)]
def clp (v m : Int32) : Int32 := if 0 ≤ v then (if v ≤ m then v else m) else 0
theorem near_clp {i m : Int32} (hm : 0 ≤ m) : (if 0 < (if m < i then m else i) then (if m < i then m else i) else 0) = clp i m := by
  unfold clp
  by_cases h1 : m < i
  · have h2 : ¬ i ≤ m := by simp only [Int32.le_iff_toInt_le, Int32.lt_iff_toInt_lt] at *; omega
    have h3 : 0 ≤ i := by simp only [Int32.le_iff_toInt_le, Int32.lt_iff_toInt_lt, Int32.reduceToInt] at *; omega
    rw [if_pos h1, if_pos h3, if_neg h2]
    by_cases h4 : 0 < m
    · rw [if_pos h4]
    · rw [if_neg h4]
      simp only [Int32.le_iff_toInt_le, Int32.lt_iff_toInt_lt, ← Int32.toInt_inj, Int32.reduceToInt] at *; omega
  · have h2 : i ≤ m := by simp only [Int32.le_iff_toInt_le, Int32.lt_iff_toInt_lt] at *; omega
    rw [if_neg h1, if_pos h2]
    by_cases h4 : 0 < i
    · rw [if_pos h4, if_pos (by simp only [Int32.le_iff_toInt_le, Int32.lt_iff_toInt_lt, Int32.reduceToInt] at *; omega)]
    · rw [if_neg h4]
      by_cases h5 : 0 ≤ i
      · rw [if_pos h5]; simp only [Int32.le_iff_toInt_le, Int32.lt_iff_toInt_lt, ← Int32.toInt_inj, Int32.reduceToInt] at *; omega
      · rw [if_neg h5]
def pSn (B : Nat) (g : Nat → Nat → Nat) (f : Nat) (x y : Int32) (q : Nat × Nat × Nat × Nat) : Int32 :=
  100 * (clp (if nI q.2.2.2 = 0 then x - nI q.2.1 - nI (fd B g f 7) else y - nI q.2.2.1 - nI (fd B g f 7)) (nI (fd B g f 8) - 1) + nI (fd B g f 10)) + (clp (if nI q.2.2.2 = 0 then y - nI q.2.2.1 - nI (fd B g f 7) else x - nI q.2.1 - nI (fd B g f 7)) (nI (fd B g f 9) - 1) + nI (fd B g f 11))
def snA (B : Nat) (g : Nat → Nat → Nat) (lay : gLay) (x y : Int32) : Option Nat → aOut
  | none => (-9, none, none)
  | some f => (nI f, some (match lay f with | none => 0 | some q => pSn B g f x y q), none)
noncomputable def aSen (n W H B : Nat) (g : Nat → Nat → Nat) (lay : gLay) (v x y : Int32) : aOut := if ¬ (0 ≤ v ∧ v < nI (pgL lay 8)) then aBad else if ¬ (0 ≤ x ∧ x < nI W) then aBad else if ¬ (0 ≤ y ∧ y < nI H) then aBad else snA B g lay x y (sF n (aA B g) (aD B g) lay v.toNatClampNeg x.toNatClampNeg y.toNatClampNeg)
theorem bel_iff {i x n : Nat} (hi : i < 2 ^ 30) (hx : x < 2 ^ 30) (hn : n < 2 ^ 30) : (0 ≤ nI i - nI x ∧ nI i - nI x < nI n) ↔ x ≤ i ∧ i < x + n := by
  have e : (nI i - nI x).toInt = (i : Int) - x := by
    rw [Int32.toInt_sub, nI_toInt (by omega), nI_toInt (by omega)]
    rw [Int.bmod_eq_of_le (by omega) (by omega)]
  simp only [Int32.le_iff_toInt_le, Int32.lt_iff_toInt_lt, e, nI_toInt (show n < 2 ^ 31 by omega), Int32.reduceToInt]
  omega

set_option maxRecDepth 100000 in
theorem c_X10_takesPlace {E : xE} {M : xMem} {s n W H B dd : Nat} {g : Nat → Nat → Nat} {S : gLay × Nat} {P : Nat → gLay × Nat} (hc : cHy M s n W H B g dd S P) {f p i j : Nat} (hf : f < n) (hp : p < 8) (hi : i < 16) (hj : j < 16) : Cf E mX10_takesPlace [.ref 1, .int (nI f), .int (nI p), .int (nI i), .int (nI j)] M (some (.int (zc (gCov (aA B g) (aD B g) S.1 p f i j)))) M := by
  refine Ct.of (lo := [some (.ref 1), some (.int (nI f)), some (.int (nI p)), some (.int (nI i)), some (.int (nI j)), none, none, none]) pln_X10 (Nat.le_of_ble_eq_true rfl) rfl (Nat.le_refl _) ?_
  obtain ⟨hM, hW, hs, hcu, hsh, hok, hst, hly, hru⟩ := hc
  have hp0 : 0 < s := hs.1
  have h8 : n ≤ 8 := hok.1
  have hb : lyB S.1 := (hsh.s hok).b hly
  have hl : lyC (M.1 8) S.1 := hst.2.2.1
  have hpg := pgL_le hb 8
  have hnf : (nI f).toNatClampNeg = f := nI_clamp (by omega)
  have hfi : vp_in (nI f) 8 := vp_in_nI (by omega) (by decide)
  have hsC := hsh.s hok
  refine px_aload_n dX10_takesPlace_0 rfl rfl ?_
  refine px_getR dX10_takesPlace_1 fX10_32 (xol rfl) hM rfl (wr_10_4 hW (xol rfl)) (Nat.succ_pos _) ?_
  refine px_getR dX10_takesPlace_4 fX10_163 (xol rfl) hM rfl (wr_8_0 hW (xol rfl)) (Nat.succ_pos _) ?_
  refine px_sa_5 dX10_takesPlace_7 rfl ?_
  refine px_aload dX10_takesPlace_9 rfl ?_
  refine px_iload_n dX10_takesPlace_11 rfl rfl ?_
  refine px_fV1i dX10_takesPlace_12 kX10_takesPlace_166 (xol rfl) hM (Nat.le_of_ble_eq_true rfl) (c_X1_isSet (a := 7) (xol rfl) hM hW hfi) ?_
  refine px_top (y := zb (¬ S.1 f = none)) (lyC_is hl hb (by omega)) ?_
  refine px_zif_eq 28 dX10_takesPlace_15 rfl (fun h15 => ?_) (fun h15 => ?_)
  · refine px_iconst dX10_takesPlace_28 ic_0 ?_
    exact px_zret dX10_takesPlace_29 rfl (by first | rfl | exact zb_nar) (by first | exact ⟨z0c (fun ⟨x, y, t, e, _⟩ => h15 (by rw [e]; exact fun z => nomatch z)), rfl⟩ | exact ⟨z0c (fun ⟨x2, y2, t2, e2, _⟩ => by rw [e] at e2; cases e2; exact h25 rfl), rfl⟩) (rfl)
  · obtain ⟨pp, x, y, t, e⟩ := lay_some h15
    have hbb := hb f pp x y t e
    have hC := fC_t hsC hf hbb.2.2.2.2
    have hG := gNC_le hsC (t := t) hf
    refine px_aload dX10_takesPlace_18 rfl ?_
    refine px_iload_n dX10_takesPlace_20 rfl rfl ?_
    refine px_fV1i dX10_takesPlace_21 kX10_takesPlace_207 (xol rfl) hM (Nat.le_of_ble_eq_true rfl) (c_X1_pageOf (a := 7) (xol rfl) hM hW hfi) ?_
    refine px_top (y := nI pp) (by rw [hnf]; exact (lyC_s hl hb e).2.1) ?_
    refine px_iload_n dX10_takesPlace_24 rfl rfl ?_
    refine px_icmp_eq 30 dX10_takesPlace_25 rfl (fun h25 => ?_) (fun h25 => ?_)
    · refine px_aload_n dX10_takesPlace_30 rfl rfl ?_
      refine px_getR dX10_takesPlace_31 fX10_71 (xol rfl) hM rfl (by assumption) (by assumption) ?_
      refine px_getR dX10_takesPlace_34 fX10_154 hs hM rfl (wr_7_0 hW hs) (Nat.succ_pos _) ?_
      refine px_iload_n dX10_takesPlace_37 rfl rfl ?_
      refine px_aald (t0 := 6) dX10_takesPlace_38 (ar_7 hs) (by decide) (fun _ => rfl) hM hfi (show M.2.1 (s + 1) (nI f).toNatClampNeg = s + 1 + 1 + f by rw [hnf]; exact wa_26 hW (ar_7 hs) (by omega)) (by omega) ?_
      refine px_sa_6 dX10_takesPlace_39 rfl ?_
      refine px_aload dX10_takesPlace_41 rfl ?_
      refine px_iload_n dX10_takesPlace_43 rfl rfl ?_
      refine px_fV1i dX10_takesPlace_44 kX10_takesPlace_269 (xol rfl) hM (Nat.le_of_ble_eq_true rfl) (c_X1_isTurned (a := 7) (xol rfl) hM hW hfi) ?_
      refine px_top (y := nI t) (by rw [hnf]; exact (lyC_s hl hb e).2.2.2.2) ?_
      refine px_si_7 dX10_takesPlace_47 rfl ?_
      refine px_iload_n dX10_takesPlace_49 rfl rfl ?_
      refine px_aload dX10_takesPlace_50 rfl ?_
      refine px_iload_n dX10_takesPlace_52 rfl rfl ?_
      refine px_fV1i dX10_takesPlace_53 kX10_takesPlace_272 (xol rfl) hM (Nat.le_of_ble_eq_true rfl) (c_X1_xOf (a := 7) (xol rfl) hM hW hfi) ?_
      refine px_top (y := nI x) (by rw [hnf]; exact (lyC_s hl hb e).2.2.1) ?_
      refine px_isub dX10_takesPlace_56 ?_
      refine px_aload dX10_takesPlace_57 rfl ?_
      refine px_iload dX10_takesPlace_59 rfl ?_
      refine px_fV1i dX10_takesPlace_61 kX10_takesPlace_339 (ob_frame hs (by omega)) hM (Nat.le_of_ble_eq_true rfl) (c_X0_needsAcross (ob_frame hs (by omega)) hM) ?_
      refine px_top (y := nI (gNX (aA B g) (aD B g) f t)) hC.1 ?_
      refine px_fS2i dX10_takesPlace_64 kX10_takesPlace_84 (Nat.le_of_ble_eq_true rfl) (c_X10_isBelow) ?_
      refine px_top (y := zb (x ≤ i ∧ i < x + gNX (aA B g) (aD B g) f t)) (zb_c (bel_iff (by omega) (by omega) (by omega))) ?_
      refine px_zif_eq 96 dX10_takesPlace_67 rfl (fun h67 => ?_) (fun h67 => ?_)
      · refine px_iconst dX10_takesPlace_96 ic_0 ?_
        exact px_zret dX10_takesPlace_97 rfl (by first | rfl | exact zb_nar) (by first | exact ⟨z1c ⟨x, y, t, by rw [e, (nI_eq (by omega) (by omega)).mp h25], h67.1, h67.2, h89.1, h89.2⟩, rfl⟩ | exact ⟨z0c (fun ⟨x2, y2, t2, e2, c1, c2, c3, c4⟩ => by rw [e] at e2; cases e2; exact h67 ⟨c1, c2⟩), rfl⟩ | exact ⟨z0c (fun ⟨x2, y2, t2, e2, c1, c2, c3, c4⟩ => by rw [e] at e2; cases e2; exact h89 ⟨c3, c4⟩), rfl⟩) (rfl)
      · refine px_iload dX10_takesPlace_70 rfl ?_
        refine px_aload dX10_takesPlace_72 rfl ?_
        refine px_iload_n dX10_takesPlace_74 rfl rfl ?_
        refine px_fV1i dX10_takesPlace_75 kX10_takesPlace_278 (xol rfl) hM (Nat.le_of_ble_eq_true rfl) (c_X1_yOf (a := 7) (xol rfl) hM hW hfi) ?_
        refine px_top (y := nI y) (by rw [hnf]; exact (lyC_s hl hb e).2.2.2.1) ?_
        refine px_isub dX10_takesPlace_78 ?_
        refine px_aload dX10_takesPlace_79 rfl ?_
        refine px_iload dX10_takesPlace_81 rfl ?_
        refine px_fV1i dX10_takesPlace_83 kX10_takesPlace_343 (ob_frame hs (by omega)) hM (Nat.le_of_ble_eq_true rfl) (c_X0_needsDown (ob_frame hs (by omega)) hM) ?_
        refine px_top (y := nI (gNY (aA B g) (aD B g) f t)) hC.2 ?_
        refine px_fS2i dX10_takesPlace_86 kX10_takesPlace_84 (Nat.le_of_ble_eq_true rfl) (c_X10_isBelow) ?_
        refine px_top (y := zb (y ≤ j ∧ j < y + gNY (aA B g) (aD B g) f t)) (zb_c (bel_iff (by omega) (by omega) (by omega))) ?_
        refine px_zif_eq 96 dX10_takesPlace_89 rfl (fun h89 => ?_) (fun h89 => ?_)
        · refine px_iconst dX10_takesPlace_96 ic_0 ?_
          exact px_zret dX10_takesPlace_97 rfl (by first | rfl | exact zb_nar) (by first | exact ⟨z1c ⟨x, y, t, by rw [e, (nI_eq (by omega) (by omega)).mp h25], h67.1, h67.2, h89.1, h89.2⟩, rfl⟩ | exact ⟨z0c (fun ⟨x2, y2, t2, e2, c1, c2, c3, c4⟩ => by rw [e] at e2; cases e2; exact h67 ⟨c1, c2⟩), rfl⟩ | exact ⟨z0c (fun ⟨x2, y2, t2, e2, c1, c2, c3, c4⟩ => by rw [e] at e2; cases e2; exact h89 ⟨c3, c4⟩), rfl⟩) (rfl)
        · refine px_iconst dX10_takesPlace_92 ic_1 ?_
          refine px_goto 97 dX10_takesPlace_93 rfl ?_
          exact px_zret dX10_takesPlace_97 rfl (by first | rfl | exact zb_nar) (by first | exact ⟨z1c ⟨x, y, t, by rw [e, (nI_eq (by omega) (by omega)).mp h25], h67.1, h67.2, h89.1, h89.2⟩, rfl⟩ | exact ⟨z0c (fun ⟨x2, y2, t2, e2, c1, c2, c3, c4⟩ => by rw [e] at e2; cases e2; exact h67 ⟨c1, c2⟩), rfl⟩ | exact ⟨z0c (fun ⟨x2, y2, t2, e2, c1, c2, c3, c4⟩ => by rw [e] at e2; cases e2; exact h89 ⟨c3, c4⟩), rfl⟩) (rfl)
    · refine px_iconst dX10_takesPlace_28 ic_0 ?_
      exact px_zret dX10_takesPlace_29 rfl (by first | rfl | exact zb_nar) (by first | exact ⟨z0c (fun ⟨x, y, t, e, _⟩ => h15 (by rw [e]; exact fun z => nomatch z)), rfl⟩ | exact ⟨z0c (fun ⟨x2, y2, t2, e2, _⟩ => by rw [e] at e2; cases e2; exact h25 rfl), rfl⟩) (rfl)

set_option maxRecDepth 100000 in
theorem c_X10_pointSeen {E : xE} {M : xMem} {s n W H B dd : Nat} {g : Nat → Nat → Nat} {S : gLay × Nat} {P : Nat → gLay × Nat} (hc : cHy M s n W H B g dd S P) {f p x y t : Nat} {xx yy : Int32} (hf : f < n) (e : S.1 f = some (p, x, y, t)) : Cf E mX10_pointSeen [.ref 1, .int (nI f), .int xx, .int yy] M (some (.int (pSn B g f xx yy (p, x, y, t)))) M := by
  refine Ct.of (lo := [some (.ref 1), some (.int (nI f)), some (.int xx), some (.int yy), none, none, none, none, none, none, none]) pln_X10 (Nat.le_of_ble_eq_true rfl) rfl (Nat.le_refl _) ?_
  obtain ⟨hM, hW, hs, hcu, hsh, hok, hst, hly, hru⟩ := hc
  have hp0 : 0 < s := hs.1
  have h8 : n ≤ 8 := hok.1
  have hb : lyB S.1 := (hsh.s hok).b hly
  have hl : lyC (M.1 8) S.1 := hst.2.2.1
  have hpg := pgL_le hb 8
  have hnf : (nI f).toNatClampNeg = f := nI_clamp (by omega)
  have hfi : vp_in (nI f) 8 := vp_in_nI (by omega) (by decide)
  have hsC := hsh.s hok
  have hfd := fd_le (hok.2.2.2.2.2 f hf) hok.2.2.2.1
  have h80 : 0 ≤ nI (fd B g f 8) - 1 := by rw [nI_m1 (by omega)]; exact nz_ge (nI_pos (by omega))
  have h90 : 0 ≤ nI (fd B g f 9) - 1 := by rw [nI_m1 (by omega)]; exact nz_ge (nI_pos (by omega))
  refine px_aload_n dX10_pointSeen_0 rfl rfl ?_
  refine px_getR dX10_pointSeen_1 fX10_32 (xol rfl) hM rfl (wr_10_4 hW (xol rfl)) (Nat.succ_pos _) ?_
  refine px_getR dX10_pointSeen_4 fX10_163 (xol rfl) hM rfl (wr_8_0 hW (xol rfl)) (Nat.succ_pos _) ?_
  refine px_sa_4 dX10_pointSeen_7 rfl ?_
  refine px_aload_n dX10_pointSeen_9 rfl rfl ?_
  refine px_getR dX10_pointSeen_10 fX10_71 (xol rfl) hM rfl (by assumption) (by assumption) ?_
  refine px_getR dX10_pointSeen_13 fX10_154 hs hM rfl (wr_7_0 hW hs) (Nat.succ_pos _) ?_
  refine px_iload_n dX10_pointSeen_16 rfl rfl ?_
  refine px_aald (t0 := 6) dX10_pointSeen_17 (ar_7 hs) (by decide) (fun _ => rfl) hM hfi (show M.2.1 (s + 1) (nI f).toNatClampNeg = s + 1 + 1 + f by rw [hnf]; exact wa_26 hW (ar_7 hs) (by omega)) (by omega) ?_
  refine px_sa_5 dX10_pointSeen_18 rfl ?_
  refine px_iload_n dX10_pointSeen_20 rfl rfl ?_
  refine px_aload dX10_pointSeen_21 rfl ?_
  refine px_iload_n dX10_pointSeen_23 rfl rfl ?_
  refine px_fV1i dX10_pointSeen_24 kX10_pointSeen_272 (xol rfl) hM (Nat.le_of_ble_eq_true rfl) (c_X1_xOf (a := 7) (xol rfl) hM hW hfi) ?_
  refine px_top (y := nI x) (by rw [hnf]; exact (lyC_s hl hb e).2.2.1) ?_
  refine px_isub dX10_pointSeen_27 ?_
  refine px_aload dX10_pointSeen_28 rfl ?_
  refine px_getI dX10_pointSeen_30 fX10_275 (ob_frame hs (by omega)) hM rfl ?_
  refine px_top (y := nI (fd B g f 7)) (hsh.2.2.2.2 f hf 7 (by decide)) ?_
  refine px_isub dX10_pointSeen_33 ?_
  refine px_si_6 dX10_pointSeen_34 rfl ?_
  refine px_iload_n dX10_pointSeen_36 rfl rfl ?_
  refine px_aload dX10_pointSeen_37 rfl ?_
  refine px_iload_n dX10_pointSeen_39 rfl rfl ?_
  refine px_fV1i dX10_pointSeen_40 kX10_pointSeen_278 (xol rfl) hM (Nat.le_of_ble_eq_true rfl) (c_X1_yOf (a := 7) (xol rfl) hM hW hfi) ?_
  refine px_top (y := nI y) (by rw [hnf]; exact (lyC_s hl hb e).2.2.2.1) ?_
  refine px_isub dX10_pointSeen_43 ?_
  refine px_aload dX10_pointSeen_44 rfl ?_
  refine px_getI dX10_pointSeen_46 fX10_275 (ob_frame hs (by omega)) hM rfl ?_
  refine px_top (y := nI (fd B g f 7)) (hsh.2.2.2.2 f hf 7 (by decide)) ?_
  refine px_isub dX10_pointSeen_49 ?_
  refine px_si_7 dX10_pointSeen_50 rfl ?_
  refine px_aload dX10_pointSeen_52 rfl ?_
  refine px_iload_n dX10_pointSeen_54 rfl rfl ?_
  refine px_fV1i dX10_pointSeen_55 kX10_pointSeen_269 (xol rfl) hM (Nat.le_of_ble_eq_true rfl) (c_X1_isTurned (a := 7) (xol rfl) hM hW hfi) ?_
  refine px_top (y := nI t) (by rw [hnf]; exact (lyC_s hl hb e).2.2.2.2) ?_
  refine px_si_8 dX10_pointSeen_58 rfl ?_
  refine px_iload dX10_pointSeen_60 rfl ?_
  refine px_if_eq 70 dX10_pointSeen_62 rfl (fun h62 => ?_) (fun h62 => ?_)
  · refine px_iload dX10_pointSeen_70 rfl ?_
    refine px_aload dX10_pointSeen_72 rfl ?_
    refine px_getI dX10_pointSeen_74 fX10_176 (ob_frame hs (by omega)) hM rfl ?_
    refine px_top (y := nI (fd B g f 8)) (hsh.2.2.2.2 f hf 8 (by decide)) ?_
    refine px_fS2i dX10_pointSeen_77 kX10_pointSeen_346 (Nat.le_of_ble_eq_true rfl) (c_X10_nearest) ?_
    refine px_si_9 dX10_pointSeen_80 rfl ?_
    refine px_iload dX10_pointSeen_82 rfl ?_
    refine px_if_eq 92 dX10_pointSeen_84 rfl (fun h84 => ?_) (fun h84 => ?_)
    · refine px_iload dX10_pointSeen_92 rfl ?_
      refine px_aload dX10_pointSeen_94 rfl ?_
      refine px_getI dX10_pointSeen_96 fX10_179 (ob_frame hs (by omega)) hM rfl ?_
      refine px_top (y := nI (fd B g f 9)) (hsh.2.2.2.2 f hf 9 (by decide)) ?_
      refine px_fS2i dX10_pointSeen_99 kX10_pointSeen_346 (Nat.le_of_ble_eq_true rfl) (c_X10_nearest) ?_
      refine px_si_10 dX10_pointSeen_102 rfl ?_
      refine px_bipush dX10_pointSeen_104 bp_100 ?_
      refine px_iload dX10_pointSeen_106 rfl ?_
      refine px_aload dX10_pointSeen_108 rfl ?_
      refine px_getI dX10_pointSeen_110 fX10_263 (ob_frame hs (by omega)) hM rfl ?_
      refine px_top (y := nI (fd B g f 10)) (hsh.2.2.2.2 f hf 10 (by decide)) ?_
      refine px_iadd dX10_pointSeen_113 ?_
      refine px_imul dX10_pointSeen_114 ?_
      refine px_iload dX10_pointSeen_115 rfl ?_
      refine px_iadd dX10_pointSeen_117 ?_
      refine px_aload dX10_pointSeen_118 rfl ?_
      refine px_getI dX10_pointSeen_120 fX10_266 (ob_frame hs (by omega)) hM rfl ?_
      refine px_top (y := nI (fd B g f 11)) (hsh.2.2.2.2 f hf 11 (by decide)) ?_
      refine px_iadd dX10_pointSeen_123 ?_
      exact px_iret dX10_pointSeen_124 rfl (by first | exact absurd h62 h84 | exact absurd h84 h62 | exact ⟨by rw [near_clp h80, near_clp h90, Int32.add_assoc]; simp only [pSn, h62, if_true, if_false, reduceIte], rfl⟩) (rfl)
    · refine px_iload dX10_pointSeen_87 rfl ?_
      refine px_goto 94 dX10_pointSeen_89 rfl ?_
      refine px_aload dX10_pointSeen_94 rfl ?_
      refine px_getI dX10_pointSeen_96 fX10_179 (ob_frame hs (by omega)) hM rfl ?_
      refine px_top (y := nI (fd B g f 9)) (hsh.2.2.2.2 f hf 9 (by decide)) ?_
      refine px_fS2i dX10_pointSeen_99 kX10_pointSeen_346 (Nat.le_of_ble_eq_true rfl) (c_X10_nearest) ?_
      refine px_si_10 dX10_pointSeen_102 rfl ?_
      refine px_bipush dX10_pointSeen_104 bp_100 ?_
      refine px_iload dX10_pointSeen_106 rfl ?_
      refine px_aload dX10_pointSeen_108 rfl ?_
      refine px_getI dX10_pointSeen_110 fX10_263 (ob_frame hs (by omega)) hM rfl ?_
      refine px_top (y := nI (fd B g f 10)) (hsh.2.2.2.2 f hf 10 (by decide)) ?_
      refine px_iadd dX10_pointSeen_113 ?_
      refine px_imul dX10_pointSeen_114 ?_
      refine px_iload dX10_pointSeen_115 rfl ?_
      refine px_iadd dX10_pointSeen_117 ?_
      refine px_aload dX10_pointSeen_118 rfl ?_
      refine px_getI dX10_pointSeen_120 fX10_266 (ob_frame hs (by omega)) hM rfl ?_
      refine px_top (y := nI (fd B g f 11)) (hsh.2.2.2.2 f hf 11 (by decide)) ?_
      refine px_iadd dX10_pointSeen_123 ?_
      exact px_iret dX10_pointSeen_124 rfl (by first | exact absurd h62 h84 | exact absurd h84 h62 | exact ⟨by rw [near_clp h80, near_clp h90, Int32.add_assoc]; simp only [pSn, h62, if_true, if_false, reduceIte], rfl⟩) (rfl)
  · refine px_iload dX10_pointSeen_65 rfl ?_
    refine px_goto 72 dX10_pointSeen_67 rfl ?_
    refine px_aload dX10_pointSeen_72 rfl ?_
    refine px_getI dX10_pointSeen_74 fX10_176 (ob_frame hs (by omega)) hM rfl ?_
    refine px_top (y := nI (fd B g f 8)) (hsh.2.2.2.2 f hf 8 (by decide)) ?_
    refine px_fS2i dX10_pointSeen_77 kX10_pointSeen_346 (Nat.le_of_ble_eq_true rfl) (c_X10_nearest) ?_
    refine px_si_9 dX10_pointSeen_80 rfl ?_
    refine px_iload dX10_pointSeen_82 rfl ?_
    refine px_if_eq 92 dX10_pointSeen_84 rfl (fun h84 => ?_) (fun h84 => ?_)
    · refine px_iload dX10_pointSeen_92 rfl ?_
      refine px_aload dX10_pointSeen_94 rfl ?_
      refine px_getI dX10_pointSeen_96 fX10_179 (ob_frame hs (by omega)) hM rfl ?_
      refine px_top (y := nI (fd B g f 9)) (hsh.2.2.2.2 f hf 9 (by decide)) ?_
      refine px_fS2i dX10_pointSeen_99 kX10_pointSeen_346 (Nat.le_of_ble_eq_true rfl) (c_X10_nearest) ?_
      refine px_si_10 dX10_pointSeen_102 rfl ?_
      refine px_bipush dX10_pointSeen_104 bp_100 ?_
      refine px_iload dX10_pointSeen_106 rfl ?_
      refine px_aload dX10_pointSeen_108 rfl ?_
      refine px_getI dX10_pointSeen_110 fX10_263 (ob_frame hs (by omega)) hM rfl ?_
      refine px_top (y := nI (fd B g f 10)) (hsh.2.2.2.2 f hf 10 (by decide)) ?_
      refine px_iadd dX10_pointSeen_113 ?_
      refine px_imul dX10_pointSeen_114 ?_
      refine px_iload dX10_pointSeen_115 rfl ?_
      refine px_iadd dX10_pointSeen_117 ?_
      refine px_aload dX10_pointSeen_118 rfl ?_
      refine px_getI dX10_pointSeen_120 fX10_266 (ob_frame hs (by omega)) hM rfl ?_
      refine px_top (y := nI (fd B g f 11)) (hsh.2.2.2.2 f hf 11 (by decide)) ?_
      refine px_iadd dX10_pointSeen_123 ?_
      exact px_iret dX10_pointSeen_124 rfl (by first | exact absurd h62 h84 | exact absurd h84 h62 | exact ⟨by rw [near_clp h80, near_clp h90, Int32.add_assoc]; simp only [pSn, h62, if_true, if_false, reduceIte], rfl⟩) (rfl)
    · refine px_iload dX10_pointSeen_87 rfl ?_
      refine px_goto 94 dX10_pointSeen_89 rfl ?_
      refine px_aload dX10_pointSeen_94 rfl ?_
      refine px_getI dX10_pointSeen_96 fX10_179 (ob_frame hs (by omega)) hM rfl ?_
      refine px_top (y := nI (fd B g f 9)) (hsh.2.2.2.2 f hf 9 (by decide)) ?_
      refine px_fS2i dX10_pointSeen_99 kX10_pointSeen_346 (Nat.le_of_ble_eq_true rfl) (c_X10_nearest) ?_
      refine px_si_10 dX10_pointSeen_102 rfl ?_
      refine px_bipush dX10_pointSeen_104 bp_100 ?_
      refine px_iload dX10_pointSeen_106 rfl ?_
      refine px_aload dX10_pointSeen_108 rfl ?_
      refine px_getI dX10_pointSeen_110 fX10_263 (ob_frame hs (by omega)) hM rfl ?_
      refine px_top (y := nI (fd B g f 10)) (hsh.2.2.2.2 f hf 10 (by decide)) ?_
      refine px_iadd dX10_pointSeen_113 ?_
      refine px_imul dX10_pointSeen_114 ?_
      refine px_iload dX10_pointSeen_115 rfl ?_
      refine px_iadd dX10_pointSeen_117 ?_
      refine px_aload dX10_pointSeen_118 rfl ?_
      refine px_getI dX10_pointSeen_120 fX10_266 (ob_frame hs (by omega)) hM rfl ?_
      refine px_top (y := nI (fd B g f 11)) (hsh.2.2.2.2 f hf 11 (by decide)) ?_
      refine px_iadd dX10_pointSeen_123 ?_
      exact px_iret dX10_pointSeen_124 rfl (by first | exact absurd h62 h84 | exact absurd h84 h62 | exact ⟨by rw [near_clp h80, near_clp h90, Int32.add_assoc]; simp only [pSn, h62, if_true, if_false, reduceIte], rfl⟩) (rfl)

set_option maxRecDepth 100000 in
theorem l_X10_seen {E : xE} {M : xMem} {s n W H B dd : Nat} {g : Nat → Nat → Nat} {S : gLay × Nat} {P : Nat → gLay × Nat} (hc : cHy M s n W H B g dd S P) {p i j : Nat} (hp : p < 8) (hi : i < 16) (hj : j < 16) : PR E mX10_seen (xN M) 41 [some (.ref 1), some (.int (nI p)), some (.int (nI i)), some (.int (nI j)), some (.int (nI 0))] [] M (fun r m => r = some (.int (snA B g S.1 (nI i) (nI j) (sF n (aA B g) (aD B g) S.1 p i j)).1) ∧ m = oC M (snA B g S.1 (nI i) (nI j) (sF n (aA B g) (aD B g) S.1 p i j)).2.1 (snA B g S.1 (nI i) (nI j) (sF n (aA B g) (aD B g) S.1 p i j)).2.2) := by
  have hc0 := hc
  obtain ⟨hM, hW, hs, hcu, hsh, hok, hst, hly, hru⟩ := hc
  have hp0 : 0 < s := hs.1
  have h8 : n ≤ 8 := hok.1
  have hb : lyB S.1 := (hsh.s hok).b hly
  have hl : lyC (M.1 8) S.1 := hst.2.2.1
  have hpg := pgL_le hb 8
  refine px_for (P := fun k => (∀ f, f < k → ¬ gCov (aA B g) (aD B g) S.1 p f i j) → PR E mX10_seen (xN M) 41 [some (.ref 1), some (.int (nI p)), some (.int (nI i)), some (.int (nI j)), some (.int (nI k))] [] M (fun r m => r = some (.int (snA B g S.1 (nI i) (nI j) (sF n (aA B g) (aD B g) S.1 p i j)).1) ∧ m = oC M (snA B g S.1 (nI i) (nI j) (sF n (aA B g) (aD B g) S.1 p i j)).2.1 (snA B g S.1 (nI i) (nI j) (sF n (aA B g) (aD B g) S.1 p i j)).2.2)) n (fun k hk nx => ?_) 0 (Nat.zero_le _) (fun f hf => by omega)
  intro hno
  refine px_iload dX10_seen_41 rfl ?_
  refine px_aload_n dX10_seen_43 rfl rfl ?_
  refine px_getR dX10_seen_44 fX10_71 (xol rfl) hM rfl (by assumption) (by assumption) ?_
  refine px_getI dX10_seen_47 fX10_140 hs hM rfl ?_
  refine px_top (y := nI n) hsh.1 ?_
  refine px_icmp_ge 86 dX10_seen_50 rfl (fun h50 => ?_) (fun h50 => ?_)
  · refine px_bipush dX10_seen_86 bp_m9 ?_
    exact px_iret dX10_seen_88 rfl (by have hk2 : k = n := (by rw [nI_leI (by omega) (by omega)] at h50; omega); subst hk2; exact ⟨by rw [sF_n hno]; rfl, by rw [sF_n hno]; rfl⟩) (rfl)
  · have hlt : k < n := by rw [nI_leI (by omega) (by omega)] at h50; omega
    refine px_aload_n dX10_seen_53 rfl rfl ?_
    refine px_iload dX10_seen_54 rfl ?_
    refine px_iload_n dX10_seen_56 rfl rfl ?_
    refine px_iload_n dX10_seen_57 rfl rfl ?_
    refine px_iload_n dX10_seen_58 rfl rfl ?_
    refine px_fV4i dX10_seen_59 kX10_seen_249 (xol rfl) hM (Nat.le_of_ble_eq_true rfl) (c_X10_takesPlace hc0 hlt (by omega) (by omega) (by omega)) ?_
    refine px_cif_eq 80 dX10_seen_62 rfl (fun h62 => ?_) (fun h62 => ?_)
    · refine px_inc_4 dX10_seen_80 rfl ic_1 ?_
      refine px_goto 41 dX10_seen_83 rfl ?_
      rw [nI_1 k]
      exact nx hlt (fun f hf => by
        by_cases z : f = k
        · rw [z]; exact h62
        · exact hno f (by omega))
    · obtain ⟨x, y, t, e, hcv⟩ := h62
      refine px_aload_n dX10_seen_65 rfl rfl ?_
      refine px_aload_n dX10_seen_66 rfl rfl ?_
      refine px_iload dX10_seen_67 rfl ?_
      refine px_iload_n dX10_seen_69 rfl rfl ?_
      refine px_iload_n dX10_seen_70 rfl rfl ?_
      refine px_fV3i dX10_seen_71 kX10_seen_253 (xol rfl) hM (Nat.le_of_ble_eq_true rfl) (c_X10_pointSeen hc0 hlt e) ?_
      refine px_putI dX10_seen_74 fX10_75 p10_11 (xol rfl) hM rfl ?_
      refine px_iload dX10_seen_77 rfl ?_
      exact px_iret dX10_seen_79 rfl ⟨by rw [sF_s hly hlt ⟨x, y, t, e, hcv⟩]; rfl, by rw [sF_s hly hlt ⟨x, y, t, e, hcv⟩]; simp only [snA, e, oC]⟩ (rfl)

set_option maxRecDepth 100000 in
theorem c_X10_seen {E : xE} {M : xMem} {s n W H B dd : Nat} {g : Nat → Nat → Nat} {S : gLay × Nat} {P : Nat → gLay × Nat} (hc : cHy M s n W H B g dd S P) {v xx yy : Int32} : Cf E mX10_seen [.ref 1, .int v, .int xx, .int yy] M (some (.int (aSen n W H B g S.1 v xx yy).1)) (oC M (aSen n W H B g S.1 v xx yy).2.1 (aSen n W H B g S.1 v xx yy).2.2) := by
  refine Ct.of (lo := [some (.ref 1), some (.int v), some (.int xx), some (.int yy), none]) pln_X10 (Nat.le_of_ble_eq_true rfl) rfl (Nat.le_refl _) ?_
  have hc0 := hc
  obtain ⟨hM, hW, hs, hcu, hsh, hok, hst, hly, hru⟩ := hc
  have hp0 : 0 < s := hs.1
  have h8 : n ≤ 8 := hok.1
  have hb : lyB S.1 := (hsh.s hok).b hly
  have hl : lyC (M.1 8) S.1 := hst.2.2.1
  have hpg := pgL_le hb 8
  have hW16 := hok.2.1
  have hH16 := hok.2.2.1
  refine px_aload_n dX10_seen_0 rfl rfl ?_
  refine px_iload_n dX10_seen_1 rfl rfl ?_
  refine px_fV1i dX10_seen_2 kX10_seen_229 (xol rfl) hM (Nat.le_of_ble_eq_true rfl) (c_X10_isPage hc0) ?_
  refine px_zif_eq 36 dX10_seen_5 rfl (fun h5 => ?_) (fun h5 => ?_)
  · refine px_iconst dX10_seen_36 ic_m1 ?_
    exact px_iret dX10_seen_37 rfl (by first | (refine ⟨?_, ?_⟩ <;> simp only [aSen, h5, not_true_eq_false, not_false_eq_true, if_true, if_false, and_self, or_true, true_or, or_false, false_or, true_and, and_true, false_and, and_false, or_self, ite_true, ite_false, reduceIte, oC, oR]; done) | (refine ⟨?_, ?_⟩ <;> simp only [aSen, h5, h19, not_true_eq_false, not_false_eq_true, if_true, if_false, and_self, or_true, true_or, or_false, false_or, true_and, and_true, false_and, and_false, or_self, ite_true, ite_false, reduceIte, oC, oR]; done) | (refine ⟨?_, ?_⟩ <;> simp only [aSen, h5, h19, h33, not_true_eq_false, not_false_eq_true, if_true, if_false, and_self, or_true, true_or, or_false, false_or, true_and, and_true, false_and, and_false, or_self, ite_true, ite_false, reduceIte, oC, oR]; done)) (rfl)
  · refine px_iload_n dX10_seen_8 rfl rfl ?_
    refine px_aload_n dX10_seen_9 rfl rfl ?_
    refine px_getR dX10_seen_10 fX10_71 (xol rfl) hM rfl (by assumption) (by assumption) ?_
    refine px_getI dX10_seen_13 fX10_243 hs hM rfl ?_
    refine px_top (y := nI W) hsh.2.1 ?_
    refine px_fS2i dX10_seen_16 kX10_seen_84 (Nat.le_of_ble_eq_true rfl) (c_X10_isBelow) ?_
    refine px_zif_eq 36 dX10_seen_19 rfl (fun h19 => ?_) (fun h19 => ?_)
    · refine px_iconst dX10_seen_36 ic_m1 ?_
      exact px_iret dX10_seen_37 rfl (by first | (refine ⟨?_, ?_⟩ <;> simp only [aSen, h5, not_true_eq_false, not_false_eq_true, if_true, if_false, and_self, or_true, true_or, or_false, false_or, true_and, and_true, false_and, and_false, or_self, ite_true, ite_false, reduceIte, oC, oR]; done) | (refine ⟨?_, ?_⟩ <;> simp only [aSen, h5, h19, not_true_eq_false, not_false_eq_true, if_true, if_false, and_self, or_true, true_or, or_false, false_or, true_and, and_true, false_and, and_false, or_self, ite_true, ite_false, reduceIte, oC, oR]; done) | (refine ⟨?_, ?_⟩ <;> simp only [aSen, h5, h19, h33, not_true_eq_false, not_false_eq_true, if_true, if_false, and_self, or_true, true_or, or_false, false_or, true_and, and_true, false_and, and_false, or_self, ite_true, ite_false, reduceIte, oC, oR]; done)) (rfl)
    · refine px_iload_n dX10_seen_22 rfl rfl ?_
      refine px_aload_n dX10_seen_23 rfl rfl ?_
      refine px_getR dX10_seen_24 fX10_71 (xol rfl) hM rfl (by assumption) (by assumption) ?_
      refine px_getI dX10_seen_27 fX10_246 hs hM rfl ?_
      refine px_top (y := nI H) hsh.2.2.1 ?_
      refine px_fS2i dX10_seen_30 kX10_seen_84 (Nat.le_of_ble_eq_true rfl) (c_X10_isBelow) ?_
      refine px_zif_ne 38 dX10_seen_33 rfl (fun h33 => ?_) (fun h33 => ?_)
      · obtain ⟨p, hp, rfl⟩ := in_nat (by omega) h5
        obtain ⟨i, hi, rfl⟩ := in_nat (by omega) h19
        obtain ⟨j, hj, rfl⟩ := in_nat (by omega) h33
        have hnp : (nI p).toNatClampNeg = p := nI_clamp (by omega)
        have hni : (nI i).toNatClampNeg = i := nI_clamp (by omega)
        have hnj : (nI j).toNatClampNeg = j := nI_clamp (by omega)
        refine px_iconst dX10_seen_38 ic_0 ?_
        refine px_si_4 dX10_seen_39 rfl ?_
        have eq : aSen n W H B g S.1 (nI p) (nI i) (nI j) = snA B g S.1 (nI i) (nI j) (sF n (aA B g) (aD B g) S.1 p i j) := by simp only [aSen, h5, h19, h33, hnp, hni, hnj, not_true_eq_false, not_false_eq_true, if_true, if_false, and_self, or_true, true_or, or_false, false_or, true_and, and_true, false_and, and_false, or_self, ite_true, ite_false, reduceIte, oC, oR]
        rw [eq]
        exact l_X10_seen hc0 (by omega) (by omega) (by omega)
      · refine px_iconst dX10_seen_36 ic_m1 ?_
        exact px_iret dX10_seen_37 rfl (by first | (refine ⟨?_, ?_⟩ <;> simp only [aSen, h5, not_true_eq_false, not_false_eq_true, if_true, if_false, and_self, or_true, true_or, or_false, false_or, true_and, and_true, false_and, and_false, or_self, ite_true, ite_false, reduceIte, oC, oR]; done) | (refine ⟨?_, ?_⟩ <;> simp only [aSen, h5, h19, not_true_eq_false, not_false_eq_true, if_true, if_false, and_self, or_true, true_or, or_false, false_or, true_and, and_true, false_and, and_false, or_self, ite_true, ite_false, reduceIte, oC, oR]; done) | (refine ⟨?_, ?_⟩ <;> simp only [aSen, h5, h19, h33, not_true_eq_false, not_false_eq_true, if_true, if_false, and_self, or_true, true_or, or_false, false_or, true_and, and_true, false_and, and_false, or_self, ite_true, ite_false, reduceIte, oC, oR]; done)) (rfl)

set_option maxRecDepth 100000 in
theorem c_X11_seen {E : xE} {M : xMem} {n W H B dd : Nat} {g : Nat → Nat → Nat} {S : gLay × Nat} {P : Nat → gLay × Nat} (hc : rHy M n W H B g dd S P) {v xx yy : Int32} : Ct E mX11_seen [.ref 74, .int v, .int xx, .int yy] M (xN M) (fun r m => r = some (.int (aSen n W H B g S.1 v xx yy).1) ∧ rS (oR M (aSen n W H B g S.1 v xx yy).2.1 (aSen n W H B g S.1 v xx yy).2.2) m) := by
  have hc0 := hc
  obtain ⟨hM, hW, hsh, hok, hst, hly, hru⟩ := hc
  have h8 : n ≤ 8 := hok.1
  have hb : lyB S.1 := (hsh.s hok).b hly
  have hl : lyM (M.1 83) S.1 := lyM_c hst.2.2.1.1 (fun k _ => by rw [Nat.zero_add])
  have hpg := pgL_le hb 8
  have hW16 := hok.2.1
  have hH16 := hok.2.2.1
  refine Ct.of (lo := [some (.ref 74), some (.int v), some (.int xx), some (.int yy), none, none, none, none, none, none]) pln_X11 (Nat.le_of_ble_eq_true rfl) rfl (Nat.le_refl _) ?_
  refine px_aload_n dX11_seen_0 rfl rfl ?_
  refine px_iload_n dX11_seen_1 rfl rfl ?_
  refine px_fV1i dX11_seen_2 kX11_seen_302 (xol rfl) hM (Nat.le_of_ble_eq_true rfl) (c_X11_isPage hc0) ?_
  refine px_zif_eq 36 dX11_seen_5 rfl (fun h5 => ?_) (fun h5 => ?_)
  · refine px_iconst dX11_seen_36 ic_m1 ?_
    exact px_iret dX11_seen_37 rfl (by first | exact ⟨by simp only [aSen, h5, not_true_eq_false, not_false_eq_true, if_true, if_false, and_self, or_true, true_or, or_false, false_or, true_and, and_true, false_and, and_false, or_self, ite_true, ite_false, reduceIte, oC, oR], by simp only [aSen, h5, not_true_eq_false, not_false_eq_true, if_true, if_false, and_self, or_true, true_or, or_false, false_or, true_and, and_true, false_and, and_false, or_self, ite_true, ite_false, reduceIte, oC, oR]; exact rS.rf _⟩ | exact ⟨by simp only [aSen, h5, h19, not_true_eq_false, not_false_eq_true, if_true, if_false, and_self, or_true, true_or, or_false, false_or, true_and, and_true, false_and, and_false, or_self, ite_true, ite_false, reduceIte, oC, oR], by simp only [aSen, h5, h19, not_true_eq_false, not_false_eq_true, if_true, if_false, and_self, or_true, true_or, or_false, false_or, true_and, and_true, false_and, and_false, or_self, ite_true, ite_false, reduceIte, oC, oR]; exact rS.rf _⟩ | exact ⟨by simp only [aSen, h5, h19, h33, not_true_eq_false, not_false_eq_true, if_true, if_false, and_self, or_true, true_or, or_false, false_or, true_and, and_true, false_and, and_false, or_self, ite_true, ite_false, reduceIte, oC, oR], by simp only [aSen, h5, h19, h33, not_true_eq_false, not_false_eq_true, if_true, if_false, and_self, or_true, true_or, or_false, false_or, true_and, and_true, false_and, and_false, or_self, ite_true, ite_false, reduceIte, oC, oR]; exact rS.rf _⟩) (by first | rfl | exact hn40)
  · refine px_iload_n dX11_seen_8 rfl rfl ?_
    refine px_iconst dX11_seen_9 ic_0 ?_
    refine px_aload_n dX11_seen_10 rfl rfl ?_
    refine px_getI dX11_seen_11 fX11_170 (xol rfl) hM rfl ?_
    refine px_top (y := nI W) hsh.2.1 ?_
    refine px_iconst dX11_seen_14 ic_1 ?_
    refine px_isub dX11_seen_15 ?_
    refine px_fS3i dX11_seen_16 kX11_seen_75 (Nat.le_of_ble_eq_true rfl) (c_X11_in) ?_
    refine px_top (y := zb (0 ≤ xx ∧ xx < nI W)) (in_m (by omega)) ?_
    refine px_zif_eq 36 dX11_seen_19 rfl (fun h19 => ?_) (fun h19 => ?_)
    · refine px_iconst dX11_seen_36 ic_m1 ?_
      exact px_iret dX11_seen_37 rfl (by first | exact ⟨by simp only [aSen, h5, not_true_eq_false, not_false_eq_true, if_true, if_false, and_self, or_true, true_or, or_false, false_or, true_and, and_true, false_and, and_false, or_self, ite_true, ite_false, reduceIte, oC, oR], by simp only [aSen, h5, not_true_eq_false, not_false_eq_true, if_true, if_false, and_self, or_true, true_or, or_false, false_or, true_and, and_true, false_and, and_false, or_self, ite_true, ite_false, reduceIte, oC, oR]; exact rS.rf _⟩ | exact ⟨by simp only [aSen, h5, h19, not_true_eq_false, not_false_eq_true, if_true, if_false, and_self, or_true, true_or, or_false, false_or, true_and, and_true, false_and, and_false, or_self, ite_true, ite_false, reduceIte, oC, oR], by simp only [aSen, h5, h19, not_true_eq_false, not_false_eq_true, if_true, if_false, and_self, or_true, true_or, or_false, false_or, true_and, and_true, false_and, and_false, or_self, ite_true, ite_false, reduceIte, oC, oR]; exact rS.rf _⟩ | exact ⟨by simp only [aSen, h5, h19, h33, not_true_eq_false, not_false_eq_true, if_true, if_false, and_self, or_true, true_or, or_false, false_or, true_and, and_true, false_and, and_false, or_self, ite_true, ite_false, reduceIte, oC, oR], by simp only [aSen, h5, h19, h33, not_true_eq_false, not_false_eq_true, if_true, if_false, and_self, or_true, true_or, or_false, false_or, true_and, and_true, false_and, and_false, or_self, ite_true, ite_false, reduceIte, oC, oR]; exact rS.rf _⟩) (by first | rfl | exact hn40)
    · refine px_iload_n dX11_seen_22 rfl rfl ?_
      refine px_iconst dX11_seen_23 ic_0 ?_
      refine px_aload_n dX11_seen_24 rfl rfl ?_
      refine px_getI dX11_seen_25 fX11_173 (xol rfl) hM rfl ?_
      refine px_top (y := nI H) hsh.2.2.1 ?_
      refine px_iconst dX11_seen_28 ic_1 ?_
      refine px_isub dX11_seen_29 ?_
      refine px_fS3i dX11_seen_30 kX11_seen_75 (Nat.le_of_ble_eq_true rfl) (c_X11_in) ?_
      refine px_top (y := zb (0 ≤ yy ∧ yy < nI H)) (in_m (by omega)) ?_
      refine px_zif_ne 38 dX11_seen_33 rfl (fun h33 => ?_) (fun h33 => ?_)
      · obtain ⟨p, hp, rfl⟩ := in_nat (by omega) h5
        obtain ⟨i, hi, rfl⟩ := in_nat (by omega) h19
        obtain ⟨j, hj, rfl⟩ := in_nat (by omega) h33
        have hnp : (nI p).toNatClampNeg = p := nI_clamp (by omega)
        have hni : (nI i).toNatClampNeg = i := nI_clamp (by omega)
        have hnj : (nI j).toNatClampNeg = j := nI_clamp (by omega)
        have eq : aSen n W H B g S.1 (nI p) (nI i) (nI j) = snA B g S.1 (nI i) (nI j) (sF n (aA B g) (aD B g) S.1 p i j) := by simp only [aSen, h5, h19, h33, hnp, hni, hnj, not_true_eq_false, not_false_eq_true, if_true, if_false, and_self, or_true, true_or, or_false, false_or, true_and, and_true, false_and, and_false, or_self, ite_true, ite_false, reduceIte, oC, oR]
        rw [eq]
        refine px_aload_n dX11_seen_38 rfl rfl ?_
        refine px_iload_n dX11_seen_39 rfl rfl ?_
        refine px_gV1 dX11_seen_40 kX11_seen_239 (xol rfl) hM (Nat.le_of_ble_eq_true rfl) (c_X11_layGrid (n := n) (W := W) (H := H) hM hW (hsh.s hok) hl hly (by omega)) (fun r40 M40 hq40 hn40 => ?_)
        obtain ⟨rfl, gg, rfl, q2⟩ := hq40
        have hk0 : mSc2 M (wF M 85 gg) := ⟨rfl, fun a _ a2 _ _ _ _ => by rw [xI_wF, if_neg a2], fun k _ _ => rfl⟩
        have hm : xNT ≤ xN (wF M 85 gg) := hM
        have hw : xWire (wF M 85 gg).2.1 := hW
        have hsh2 : mSh (wF M 85 gg) n W H B g := hsh
        have hl2 : lyM ((wF M 85 gg).1 83) S.1 := hl
        refine px_aload_n dX11_seen_43 rfl rfl ?_
        refine px_getR dX11_seen_44 fX11_41 (xol rfl) hm rfl (wr_11_26 hw (xol rfl)) (Nat.succ_pos _) ?_
        refine px_bipush dX11_seen_47 bp_16 ?_
        refine px_iload_n dX11_seen_49 rfl rfl ?_
        refine px_imul dX11_seen_50 ?_
        refine px_iload_n dX11_seen_51 rfl rfl ?_
        refine px_iadd dX11_seen_52 ?_
        refine px_top (y := nI (16 * j + i)) (ixA 16 j i) ?_
        refine px_iald dX11_seen_53 (xal (n := 256) rfl) hm (vp_in_nI (by omega) (by decide)) ?_
        refine px_top (y := gg (16 * j + i)) (by rw [nI_clamp (by omega)]; rfl) ?_
        refine px_si_4 dX11_seen_54 rfl ?_
        refine px_iload dX11_seen_56 rfl ?_
        refine px_bipush dX11_seen_58 bp_m9 ?_
        refine px_icmp_ne 66 dX11_seen_60 rfl (fun h60 => ?_) (fun h60 => ?_)
        · obtain ⟨f, hf, ef, hcv⟩ := (q2 i j (by omega) (by omega)).resolve_left (fun z => h60 z.1)
          obtain ⟨x, y, t, e, -⟩ := id hcv
          rw [ef]
          have hnf : (nI f).toNatClampNeg = f := nI_clamp (by omega)
          have ht := (hly.2.1 f p x y t e).2.1
          have eS : sF n (aA B g) (aD B g) S.1 p i j = some f := sF_s hly hf hcv
          have hfd := fd_le (hok.2.2.2.2.2 f hf) hok.2.2.2.1
          have h80 : 0 ≤ nI (fd B g f 8) - 1 := by rw [nI_m1 (by omega)]; exact nz_ge (nI_pos (by omega))
          have h90 : 0 ≤ nI (fd B g f 9) - 1 := by rw [nI_m1 (by omega)]; exact nz_ge (nI_pos (by omega))
          refine px_iload_n dX11_seen_66 rfl rfl ?_
          refine px_aload_n dX11_seen_67 rfl rfl ?_
          refine px_getR dX11_seen_68 fX11_35 (xol rfl) hm rfl (wr_11_23 hw (xol rfl)) (Nat.succ_pos _) ?_
          refine px_iconst dX11_seen_71 ic_4 ?_
          refine px_iload dX11_seen_72 rfl ?_
          refine px_imul dX11_seen_74 ?_
          refine px_iconst dX11_seen_75 ic_1 ?_
          refine px_iadd dX11_seen_76 ?_
          refine px_top (y := nI (4 * f + 1)) (ixA 4 f 1) ?_
          refine px_iald dX11_seen_77 (xal (n := 33) rfl) hm (vp_in_nI (by omega) (by decide)) ?_
          refine px_top (y := nI x) (by rw [nI_clamp (by omega)]; exact (hl2.2 f p x y t (by omega) e).2.1) ?_
          refine px_isub dX11_seen_78 ?_
          refine px_aload_n dX11_seen_79 rfl rfl ?_
          refine px_iload dX11_seen_80 rfl ?_
          refine px_fV1i dX11_seen_82 kX11_seen_211 (xol rfl) hm (Nat.le_of_ble_eq_true rfl) (c_X11_edge (by omega) hm hw) ?_
          refine px_top (y := nI (fd B g f 7)) (mSh_f hsh2 hok hf).1 ?_
          refine px_isub dX11_seen_85 ?_
          refine px_si_5 dX11_seen_86 rfl ?_
          refine px_iload_n dX11_seen_88 rfl rfl ?_
          refine px_aload_n dX11_seen_89 rfl rfl ?_
          refine px_getR dX11_seen_90 fX11_35 (xol rfl) hm rfl (wr_11_23 hw (xol rfl)) (Nat.succ_pos _) ?_
          refine px_iconst dX11_seen_93 ic_4 ?_
          refine px_iload dX11_seen_94 rfl ?_
          refine px_imul dX11_seen_96 ?_
          refine px_iconst dX11_seen_97 ic_2 ?_
          refine px_iadd dX11_seen_98 ?_
          refine px_top (y := nI (4 * f + 2)) (ixA 4 f 2) ?_
          refine px_iald dX11_seen_99 (xal (n := 33) rfl) hm (vp_in_nI (by omega) (by decide)) ?_
          refine px_top (y := nI y) (by rw [nI_clamp (by omega)]; exact (hl2.2 f p x y t (by omega) e).2.2.1) ?_
          refine px_isub dX11_seen_100 ?_
          refine px_aload_n dX11_seen_101 rfl rfl ?_
          refine px_iload dX11_seen_102 rfl ?_
          refine px_fV1i dX11_seen_104 kX11_seen_211 (xol rfl) hm (Nat.le_of_ble_eq_true rfl) (c_X11_edge (by omega) hm hw) ?_
          refine px_top (y := nI (fd B g f 7)) (mSh_f hsh2 hok hf).1 ?_
          refine px_isub dX11_seen_107 ?_
          refine px_si_6 dX11_seen_108 rfl ?_
          refine px_aload_n dX11_seen_110 rfl rfl ?_
          refine px_getR dX11_seen_111 fX11_35 (xol rfl) hm rfl (wr_11_23 hw (xol rfl)) (Nat.succ_pos _) ?_
          refine px_iconst dX11_seen_114 ic_4 ?_
          refine px_iload dX11_seen_115 rfl ?_
          refine px_imul dX11_seen_117 ?_
          refine px_iconst dX11_seen_118 ic_3 ?_
          refine px_iadd dX11_seen_119 ?_
          refine px_top (y := nI (4 * f + 3)) (ixA 4 f 3) ?_
          refine px_iald dX11_seen_120 (xal (n := 33) rfl) hm (vp_in_nI (by omega) (by decide)) ?_
          refine px_top (y := nI t) (by rw [nI_clamp (by omega)]; exact (hl2.2 f p x y t (by omega) e).2.2.2) ?_
          refine px_iconst dX11_seen_121 ic_1 ?_
          refine px_icmp_ne 129 dX11_seen_122 rfl (fun h122 => ?_) (fun h122 => ?_)
          · refine px_iconst dX11_seen_129 ic_0 ?_
            refine px_top (y := nI t) (by first | exact (way_1 ht h122) | exact (way_0 ht h122)) ?_
            refine px_si_7 dX11_seen_130 rfl ?_
            refine px_iload dX11_seen_132 rfl ?_
            refine px_if_eq 142 dX11_seen_134 rfl (fun h134 => ?_) (fun h134 => ?_)
            · refine px_iload dX11_seen_142 rfl ?_
              refine px_aload_n dX11_seen_144 rfl rfl ?_
              refine px_iload dX11_seen_145 rfl ?_
              refine px_fV1i dX11_seen_147 kX11_seen_214 (xol rfl) hm (Nat.le_of_ble_eq_true rfl) (c_X11_across (by omega) hm hw) ?_
              refine px_top (y := nI (fd B g f 8)) (mSh_f hsh2 hok hf).2.1 ?_
              refine px_iconst dX11_seen_150 ic_1 ?_
              refine px_isub dX11_seen_151 ?_
              refine px_fS2i dX11_seen_152 kX11_seen_305 (Nat.le_of_ble_eq_true rfl) (c_X11_clamped) ?_
              refine px_aload_n dX11_seen_155 rfl rfl ?_
              refine px_iload dX11_seen_156 rfl ?_
              refine px_fV1i dX11_seen_158 kX11_seen_308 (xol rfl) hm (Nat.le_of_ble_eq_true rfl) (c_X11_leftOf (by omega) hm hw) ?_
              refine px_top (y := nI (fd B g f 10)) (mSh_f hsh2 hok hf).2.2.2.1 ?_
              refine px_iadd dX11_seen_161 ?_
              refine px_si_8 dX11_seen_162 rfl ?_
              refine px_iload dX11_seen_164 rfl ?_
              refine px_if_eq 174 dX11_seen_166 rfl (fun h166 => ?_) (fun h166 => ?_)
              · refine px_iload dX11_seen_174 rfl ?_
                refine px_aload_n dX11_seen_176 rfl rfl ?_
                refine px_iload dX11_seen_177 rfl ?_
                refine px_fV1i dX11_seen_179 kX11_seen_217 (xol rfl) hm (Nat.le_of_ble_eq_true rfl) (c_X11_down (by omega) hm hw) ?_
                refine px_top (y := nI (fd B g f 9)) (mSh_f hsh2 hok hf).2.2.1 ?_
                refine px_iconst dX11_seen_182 ic_1 ?_
                refine px_isub dX11_seen_183 ?_
                refine px_fS2i dX11_seen_184 kX11_seen_305 (Nat.le_of_ble_eq_true rfl) (c_X11_clamped) ?_
                refine px_aload_n dX11_seen_187 rfl rfl ?_
                refine px_iload dX11_seen_188 rfl ?_
                refine px_fV1i dX11_seen_190 kX11_seen_311 (xol rfl) hm (Nat.le_of_ble_eq_true rfl) (c_X11_aboveOf (by omega) hm hw) ?_
                refine px_top (y := nI (fd B g f 11)) (mSh_f hsh2 hok hf).2.2.2.2 ?_
                refine px_iadd dX11_seen_193 ?_
                refine px_si_9 dX11_seen_194 rfl ?_
                refine px_aload_n dX11_seen_196 rfl rfl ?_
                refine px_bipush dX11_seen_197 bp_100 ?_
                refine px_iload dX11_seen_199 rfl ?_
                refine px_imul dX11_seen_201 ?_
                refine px_iload dX11_seen_202 rfl ?_
                refine px_iadd dX11_seen_204 ?_
                refine px_iload dX11_seen_205 rfl ?_
                refine px_fV2i dX11_seen_207 kX11_seen_91 (xol rfl) hm (Nat.le_of_ble_eq_true rfl) (c_X11_tells hm) ?_
                exact px_iret dX11_seen_210 rfl (by first | exact absurd h134 h166 | exact absurd h166 h134 | exact ⟨by rw [eS]; rfl, by rw [eS]; simp only [snA, e, oR, pSn, h134, if_true, if_false, reduceIte]; exact hk0.r.wI _ _ _⟩) (by first | rfl | exact hn40)
              · refine px_iload dX11_seen_169 rfl ?_
                refine px_goto 176 dX11_seen_171 rfl ?_
                refine px_aload_n dX11_seen_176 rfl rfl ?_
                refine px_iload dX11_seen_177 rfl ?_
                refine px_fV1i dX11_seen_179 kX11_seen_217 (xol rfl) hm (Nat.le_of_ble_eq_true rfl) (c_X11_down (by omega) hm hw) ?_
                refine px_top (y := nI (fd B g f 9)) (mSh_f hsh2 hok hf).2.2.1 ?_
                refine px_iconst dX11_seen_182 ic_1 ?_
                refine px_isub dX11_seen_183 ?_
                refine px_fS2i dX11_seen_184 kX11_seen_305 (Nat.le_of_ble_eq_true rfl) (c_X11_clamped) ?_
                refine px_aload_n dX11_seen_187 rfl rfl ?_
                refine px_iload dX11_seen_188 rfl ?_
                refine px_fV1i dX11_seen_190 kX11_seen_311 (xol rfl) hm (Nat.le_of_ble_eq_true rfl) (c_X11_aboveOf (by omega) hm hw) ?_
                refine px_top (y := nI (fd B g f 11)) (mSh_f hsh2 hok hf).2.2.2.2 ?_
                refine px_iadd dX11_seen_193 ?_
                refine px_si_9 dX11_seen_194 rfl ?_
                refine px_aload_n dX11_seen_196 rfl rfl ?_
                refine px_bipush dX11_seen_197 bp_100 ?_
                refine px_iload dX11_seen_199 rfl ?_
                refine px_imul dX11_seen_201 ?_
                refine px_iload dX11_seen_202 rfl ?_
                refine px_iadd dX11_seen_204 ?_
                refine px_iload dX11_seen_205 rfl ?_
                refine px_fV2i dX11_seen_207 kX11_seen_91 (xol rfl) hm (Nat.le_of_ble_eq_true rfl) (c_X11_tells hm) ?_
                exact px_iret dX11_seen_210 rfl (by first | exact absurd h134 h166 | exact absurd h166 h134 | exact ⟨by rw [eS]; rfl, by rw [eS]; simp only [snA, e, oR, pSn, h134, if_true, if_false, reduceIte]; exact hk0.r.wI _ _ _⟩) (by first | rfl | exact hn40)
            · refine px_iload dX11_seen_137 rfl ?_
              refine px_goto 144 dX11_seen_139 rfl ?_
              refine px_aload_n dX11_seen_144 rfl rfl ?_
              refine px_iload dX11_seen_145 rfl ?_
              refine px_fV1i dX11_seen_147 kX11_seen_214 (xol rfl) hm (Nat.le_of_ble_eq_true rfl) (c_X11_across (by omega) hm hw) ?_
              refine px_top (y := nI (fd B g f 8)) (mSh_f hsh2 hok hf).2.1 ?_
              refine px_iconst dX11_seen_150 ic_1 ?_
              refine px_isub dX11_seen_151 ?_
              refine px_fS2i dX11_seen_152 kX11_seen_305 (Nat.le_of_ble_eq_true rfl) (c_X11_clamped) ?_
              refine px_aload_n dX11_seen_155 rfl rfl ?_
              refine px_iload dX11_seen_156 rfl ?_
              refine px_fV1i dX11_seen_158 kX11_seen_308 (xol rfl) hm (Nat.le_of_ble_eq_true rfl) (c_X11_leftOf (by omega) hm hw) ?_
              refine px_top (y := nI (fd B g f 10)) (mSh_f hsh2 hok hf).2.2.2.1 ?_
              refine px_iadd dX11_seen_161 ?_
              refine px_si_8 dX11_seen_162 rfl ?_
              refine px_iload dX11_seen_164 rfl ?_
              refine px_if_eq 174 dX11_seen_166 rfl (fun h166 => ?_) (fun h166 => ?_)
              · refine px_iload dX11_seen_174 rfl ?_
                refine px_aload_n dX11_seen_176 rfl rfl ?_
                refine px_iload dX11_seen_177 rfl ?_
                refine px_fV1i dX11_seen_179 kX11_seen_217 (xol rfl) hm (Nat.le_of_ble_eq_true rfl) (c_X11_down (by omega) hm hw) ?_
                refine px_top (y := nI (fd B g f 9)) (mSh_f hsh2 hok hf).2.2.1 ?_
                refine px_iconst dX11_seen_182 ic_1 ?_
                refine px_isub dX11_seen_183 ?_
                refine px_fS2i dX11_seen_184 kX11_seen_305 (Nat.le_of_ble_eq_true rfl) (c_X11_clamped) ?_
                refine px_aload_n dX11_seen_187 rfl rfl ?_
                refine px_iload dX11_seen_188 rfl ?_
                refine px_fV1i dX11_seen_190 kX11_seen_311 (xol rfl) hm (Nat.le_of_ble_eq_true rfl) (c_X11_aboveOf (by omega) hm hw) ?_
                refine px_top (y := nI (fd B g f 11)) (mSh_f hsh2 hok hf).2.2.2.2 ?_
                refine px_iadd dX11_seen_193 ?_
                refine px_si_9 dX11_seen_194 rfl ?_
                refine px_aload_n dX11_seen_196 rfl rfl ?_
                refine px_bipush dX11_seen_197 bp_100 ?_
                refine px_iload dX11_seen_199 rfl ?_
                refine px_imul dX11_seen_201 ?_
                refine px_iload dX11_seen_202 rfl ?_
                refine px_iadd dX11_seen_204 ?_
                refine px_iload dX11_seen_205 rfl ?_
                refine px_fV2i dX11_seen_207 kX11_seen_91 (xol rfl) hm (Nat.le_of_ble_eq_true rfl) (c_X11_tells hm) ?_
                exact px_iret dX11_seen_210 rfl (by first | exact absurd h134 h166 | exact absurd h166 h134 | exact ⟨by rw [eS]; rfl, by rw [eS]; simp only [snA, e, oR, pSn, h134, if_true, if_false, reduceIte]; exact hk0.r.wI _ _ _⟩) (by first | rfl | exact hn40)
              · refine px_iload dX11_seen_169 rfl ?_
                refine px_goto 176 dX11_seen_171 rfl ?_
                refine px_aload_n dX11_seen_176 rfl rfl ?_
                refine px_iload dX11_seen_177 rfl ?_
                refine px_fV1i dX11_seen_179 kX11_seen_217 (xol rfl) hm (Nat.le_of_ble_eq_true rfl) (c_X11_down (by omega) hm hw) ?_
                refine px_top (y := nI (fd B g f 9)) (mSh_f hsh2 hok hf).2.2.1 ?_
                refine px_iconst dX11_seen_182 ic_1 ?_
                refine px_isub dX11_seen_183 ?_
                refine px_fS2i dX11_seen_184 kX11_seen_305 (Nat.le_of_ble_eq_true rfl) (c_X11_clamped) ?_
                refine px_aload_n dX11_seen_187 rfl rfl ?_
                refine px_iload dX11_seen_188 rfl ?_
                refine px_fV1i dX11_seen_190 kX11_seen_311 (xol rfl) hm (Nat.le_of_ble_eq_true rfl) (c_X11_aboveOf (by omega) hm hw) ?_
                refine px_top (y := nI (fd B g f 11)) (mSh_f hsh2 hok hf).2.2.2.2 ?_
                refine px_iadd dX11_seen_193 ?_
                refine px_si_9 dX11_seen_194 rfl ?_
                refine px_aload_n dX11_seen_196 rfl rfl ?_
                refine px_bipush dX11_seen_197 bp_100 ?_
                refine px_iload dX11_seen_199 rfl ?_
                refine px_imul dX11_seen_201 ?_
                refine px_iload dX11_seen_202 rfl ?_
                refine px_iadd dX11_seen_204 ?_
                refine px_iload dX11_seen_205 rfl ?_
                refine px_fV2i dX11_seen_207 kX11_seen_91 (xol rfl) hm (Nat.le_of_ble_eq_true rfl) (c_X11_tells hm) ?_
                exact px_iret dX11_seen_210 rfl (by first | exact absurd h134 h166 | exact absurd h166 h134 | exact ⟨by rw [eS]; rfl, by rw [eS]; simp only [snA, e, oR, pSn, h134, if_true, if_false, reduceIte]; exact hk0.r.wI _ _ _⟩) (by first | rfl | exact hn40)
          · refine px_iconst dX11_seen_125 ic_1 ?_
            refine px_goto 130 dX11_seen_126 rfl ?_
            refine px_top (y := nI t) (by first | exact (way_1 ht h122) | exact (way_0 ht h122)) ?_
            refine px_si_7 dX11_seen_130 rfl ?_
            refine px_iload dX11_seen_132 rfl ?_
            refine px_if_eq 142 dX11_seen_134 rfl (fun h134 => ?_) (fun h134 => ?_)
            · refine px_iload dX11_seen_142 rfl ?_
              refine px_aload_n dX11_seen_144 rfl rfl ?_
              refine px_iload dX11_seen_145 rfl ?_
              refine px_fV1i dX11_seen_147 kX11_seen_214 (xol rfl) hm (Nat.le_of_ble_eq_true rfl) (c_X11_across (by omega) hm hw) ?_
              refine px_top (y := nI (fd B g f 8)) (mSh_f hsh2 hok hf).2.1 ?_
              refine px_iconst dX11_seen_150 ic_1 ?_
              refine px_isub dX11_seen_151 ?_
              refine px_fS2i dX11_seen_152 kX11_seen_305 (Nat.le_of_ble_eq_true rfl) (c_X11_clamped) ?_
              refine px_aload_n dX11_seen_155 rfl rfl ?_
              refine px_iload dX11_seen_156 rfl ?_
              refine px_fV1i dX11_seen_158 kX11_seen_308 (xol rfl) hm (Nat.le_of_ble_eq_true rfl) (c_X11_leftOf (by omega) hm hw) ?_
              refine px_top (y := nI (fd B g f 10)) (mSh_f hsh2 hok hf).2.2.2.1 ?_
              refine px_iadd dX11_seen_161 ?_
              refine px_si_8 dX11_seen_162 rfl ?_
              refine px_iload dX11_seen_164 rfl ?_
              refine px_if_eq 174 dX11_seen_166 rfl (fun h166 => ?_) (fun h166 => ?_)
              · refine px_iload dX11_seen_174 rfl ?_
                refine px_aload_n dX11_seen_176 rfl rfl ?_
                refine px_iload dX11_seen_177 rfl ?_
                refine px_fV1i dX11_seen_179 kX11_seen_217 (xol rfl) hm (Nat.le_of_ble_eq_true rfl) (c_X11_down (by omega) hm hw) ?_
                refine px_top (y := nI (fd B g f 9)) (mSh_f hsh2 hok hf).2.2.1 ?_
                refine px_iconst dX11_seen_182 ic_1 ?_
                refine px_isub dX11_seen_183 ?_
                refine px_fS2i dX11_seen_184 kX11_seen_305 (Nat.le_of_ble_eq_true rfl) (c_X11_clamped) ?_
                refine px_aload_n dX11_seen_187 rfl rfl ?_
                refine px_iload dX11_seen_188 rfl ?_
                refine px_fV1i dX11_seen_190 kX11_seen_311 (xol rfl) hm (Nat.le_of_ble_eq_true rfl) (c_X11_aboveOf (by omega) hm hw) ?_
                refine px_top (y := nI (fd B g f 11)) (mSh_f hsh2 hok hf).2.2.2.2 ?_
                refine px_iadd dX11_seen_193 ?_
                refine px_si_9 dX11_seen_194 rfl ?_
                refine px_aload_n dX11_seen_196 rfl rfl ?_
                refine px_bipush dX11_seen_197 bp_100 ?_
                refine px_iload dX11_seen_199 rfl ?_
                refine px_imul dX11_seen_201 ?_
                refine px_iload dX11_seen_202 rfl ?_
                refine px_iadd dX11_seen_204 ?_
                refine px_iload dX11_seen_205 rfl ?_
                refine px_fV2i dX11_seen_207 kX11_seen_91 (xol rfl) hm (Nat.le_of_ble_eq_true rfl) (c_X11_tells hm) ?_
                exact px_iret dX11_seen_210 rfl (by first | exact absurd h134 h166 | exact absurd h166 h134 | exact ⟨by rw [eS]; rfl, by rw [eS]; simp only [snA, e, oR, pSn, h134, if_true, if_false, reduceIte]; exact hk0.r.wI _ _ _⟩) (by first | rfl | exact hn40)
              · refine px_iload dX11_seen_169 rfl ?_
                refine px_goto 176 dX11_seen_171 rfl ?_
                refine px_aload_n dX11_seen_176 rfl rfl ?_
                refine px_iload dX11_seen_177 rfl ?_
                refine px_fV1i dX11_seen_179 kX11_seen_217 (xol rfl) hm (Nat.le_of_ble_eq_true rfl) (c_X11_down (by omega) hm hw) ?_
                refine px_top (y := nI (fd B g f 9)) (mSh_f hsh2 hok hf).2.2.1 ?_
                refine px_iconst dX11_seen_182 ic_1 ?_
                refine px_isub dX11_seen_183 ?_
                refine px_fS2i dX11_seen_184 kX11_seen_305 (Nat.le_of_ble_eq_true rfl) (c_X11_clamped) ?_
                refine px_aload_n dX11_seen_187 rfl rfl ?_
                refine px_iload dX11_seen_188 rfl ?_
                refine px_fV1i dX11_seen_190 kX11_seen_311 (xol rfl) hm (Nat.le_of_ble_eq_true rfl) (c_X11_aboveOf (by omega) hm hw) ?_
                refine px_top (y := nI (fd B g f 11)) (mSh_f hsh2 hok hf).2.2.2.2 ?_
                refine px_iadd dX11_seen_193 ?_
                refine px_si_9 dX11_seen_194 rfl ?_
                refine px_aload_n dX11_seen_196 rfl rfl ?_
                refine px_bipush dX11_seen_197 bp_100 ?_
                refine px_iload dX11_seen_199 rfl ?_
                refine px_imul dX11_seen_201 ?_
                refine px_iload dX11_seen_202 rfl ?_
                refine px_iadd dX11_seen_204 ?_
                refine px_iload dX11_seen_205 rfl ?_
                refine px_fV2i dX11_seen_207 kX11_seen_91 (xol rfl) hm (Nat.le_of_ble_eq_true rfl) (c_X11_tells hm) ?_
                exact px_iret dX11_seen_210 rfl (by first | exact absurd h134 h166 | exact absurd h166 h134 | exact ⟨by rw [eS]; rfl, by rw [eS]; simp only [snA, e, oR, pSn, h134, if_true, if_false, reduceIte]; exact hk0.r.wI _ _ _⟩) (by first | rfl | exact hn40)
            · refine px_iload dX11_seen_137 rfl ?_
              refine px_goto 144 dX11_seen_139 rfl ?_
              refine px_aload_n dX11_seen_144 rfl rfl ?_
              refine px_iload dX11_seen_145 rfl ?_
              refine px_fV1i dX11_seen_147 kX11_seen_214 (xol rfl) hm (Nat.le_of_ble_eq_true rfl) (c_X11_across (by omega) hm hw) ?_
              refine px_top (y := nI (fd B g f 8)) (mSh_f hsh2 hok hf).2.1 ?_
              refine px_iconst dX11_seen_150 ic_1 ?_
              refine px_isub dX11_seen_151 ?_
              refine px_fS2i dX11_seen_152 kX11_seen_305 (Nat.le_of_ble_eq_true rfl) (c_X11_clamped) ?_
              refine px_aload_n dX11_seen_155 rfl rfl ?_
              refine px_iload dX11_seen_156 rfl ?_
              refine px_fV1i dX11_seen_158 kX11_seen_308 (xol rfl) hm (Nat.le_of_ble_eq_true rfl) (c_X11_leftOf (by omega) hm hw) ?_
              refine px_top (y := nI (fd B g f 10)) (mSh_f hsh2 hok hf).2.2.2.1 ?_
              refine px_iadd dX11_seen_161 ?_
              refine px_si_8 dX11_seen_162 rfl ?_
              refine px_iload dX11_seen_164 rfl ?_
              refine px_if_eq 174 dX11_seen_166 rfl (fun h166 => ?_) (fun h166 => ?_)
              · refine px_iload dX11_seen_174 rfl ?_
                refine px_aload_n dX11_seen_176 rfl rfl ?_
                refine px_iload dX11_seen_177 rfl ?_
                refine px_fV1i dX11_seen_179 kX11_seen_217 (xol rfl) hm (Nat.le_of_ble_eq_true rfl) (c_X11_down (by omega) hm hw) ?_
                refine px_top (y := nI (fd B g f 9)) (mSh_f hsh2 hok hf).2.2.1 ?_
                refine px_iconst dX11_seen_182 ic_1 ?_
                refine px_isub dX11_seen_183 ?_
                refine px_fS2i dX11_seen_184 kX11_seen_305 (Nat.le_of_ble_eq_true rfl) (c_X11_clamped) ?_
                refine px_aload_n dX11_seen_187 rfl rfl ?_
                refine px_iload dX11_seen_188 rfl ?_
                refine px_fV1i dX11_seen_190 kX11_seen_311 (xol rfl) hm (Nat.le_of_ble_eq_true rfl) (c_X11_aboveOf (by omega) hm hw) ?_
                refine px_top (y := nI (fd B g f 11)) (mSh_f hsh2 hok hf).2.2.2.2 ?_
                refine px_iadd dX11_seen_193 ?_
                refine px_si_9 dX11_seen_194 rfl ?_
                refine px_aload_n dX11_seen_196 rfl rfl ?_
                refine px_bipush dX11_seen_197 bp_100 ?_
                refine px_iload dX11_seen_199 rfl ?_
                refine px_imul dX11_seen_201 ?_
                refine px_iload dX11_seen_202 rfl ?_
                refine px_iadd dX11_seen_204 ?_
                refine px_iload dX11_seen_205 rfl ?_
                refine px_fV2i dX11_seen_207 kX11_seen_91 (xol rfl) hm (Nat.le_of_ble_eq_true rfl) (c_X11_tells hm) ?_
                exact px_iret dX11_seen_210 rfl (by first | exact absurd h134 h166 | exact absurd h166 h134 | exact ⟨by rw [eS]; rfl, by rw [eS]; simp only [snA, e, oR, pSn, h134, if_true, if_false, reduceIte]; exact hk0.r.wI _ _ _⟩) (by first | rfl | exact hn40)
              · refine px_iload dX11_seen_169 rfl ?_
                refine px_goto 176 dX11_seen_171 rfl ?_
                refine px_aload_n dX11_seen_176 rfl rfl ?_
                refine px_iload dX11_seen_177 rfl ?_
                refine px_fV1i dX11_seen_179 kX11_seen_217 (xol rfl) hm (Nat.le_of_ble_eq_true rfl) (c_X11_down (by omega) hm hw) ?_
                refine px_top (y := nI (fd B g f 9)) (mSh_f hsh2 hok hf).2.2.1 ?_
                refine px_iconst dX11_seen_182 ic_1 ?_
                refine px_isub dX11_seen_183 ?_
                refine px_fS2i dX11_seen_184 kX11_seen_305 (Nat.le_of_ble_eq_true rfl) (c_X11_clamped) ?_
                refine px_aload_n dX11_seen_187 rfl rfl ?_
                refine px_iload dX11_seen_188 rfl ?_
                refine px_fV1i dX11_seen_190 kX11_seen_311 (xol rfl) hm (Nat.le_of_ble_eq_true rfl) (c_X11_aboveOf (by omega) hm hw) ?_
                refine px_top (y := nI (fd B g f 11)) (mSh_f hsh2 hok hf).2.2.2.2 ?_
                refine px_iadd dX11_seen_193 ?_
                refine px_si_9 dX11_seen_194 rfl ?_
                refine px_aload_n dX11_seen_196 rfl rfl ?_
                refine px_bipush dX11_seen_197 bp_100 ?_
                refine px_iload dX11_seen_199 rfl ?_
                refine px_imul dX11_seen_201 ?_
                refine px_iload dX11_seen_202 rfl ?_
                refine px_iadd dX11_seen_204 ?_
                refine px_iload dX11_seen_205 rfl ?_
                refine px_fV2i dX11_seen_207 kX11_seen_91 (xol rfl) hm (Nat.le_of_ble_eq_true rfl) (c_X11_tells hm) ?_
                exact px_iret dX11_seen_210 rfl (by first | exact absurd h134 h166 | exact absurd h166 h134 | exact ⟨by rw [eS]; rfl, by rw [eS]; simp only [snA, e, oR, pSn, h134, if_true, if_false, reduceIte]; exact hk0.r.wI _ _ _⟩) (by first | rfl | exact hn40)
        · refine px_bipush dX11_seen_63 bp_m9 ?_
          exact px_iret dX11_seen_65 rfl (by have hno : ∀ f, f < n → ¬ gCov (aA B g) (aD B g) S.1 p f i j := (by rcases q2 i j (by omega) (by omega) with z | ⟨f, hf, ef, -⟩; exact z.2; rw [ef] at h60; exact absurd h60 (nI_ne9 (by omega))); exact ⟨by rw [sF_n hno]; rfl, by rw [sF_n hno]; exact hk0.r⟩) (by first | rfl | exact hn40)
      · refine px_iconst dX11_seen_36 ic_m1 ?_
        exact px_iret dX11_seen_37 rfl (by first | exact ⟨by simp only [aSen, h5, not_true_eq_false, not_false_eq_true, if_true, if_false, and_self, or_true, true_or, or_false, false_or, true_and, and_true, false_and, and_false, or_self, ite_true, ite_false, reduceIte, oC, oR], by simp only [aSen, h5, not_true_eq_false, not_false_eq_true, if_true, if_false, and_self, or_true, true_or, or_false, false_or, true_and, and_true, false_and, and_false, or_self, ite_true, ite_false, reduceIte, oC, oR]; exact rS.rf _⟩ | exact ⟨by simp only [aSen, h5, h19, not_true_eq_false, not_false_eq_true, if_true, if_false, and_self, or_true, true_or, or_false, false_or, true_and, and_true, false_and, and_false, or_self, ite_true, ite_false, reduceIte, oC, oR], by simp only [aSen, h5, h19, not_true_eq_false, not_false_eq_true, if_true, if_false, and_self, or_true, true_or, or_false, false_or, true_and, and_true, false_and, and_false, or_self, ite_true, ite_false, reduceIte, oC, oR]; exact rS.rf _⟩ | exact ⟨by simp only [aSen, h5, h19, h33, not_true_eq_false, not_false_eq_true, if_true, if_false, and_self, or_true, true_or, or_false, false_or, true_and, and_true, false_and, and_false, or_self, ite_true, ite_false, reduceIte, oC, oR], by simp only [aSen, h5, h19, h33, not_true_eq_false, not_false_eq_true, if_true, if_false, and_self, or_true, true_or, or_false, false_or, true_and, and_true, false_and, and_false, or_self, ite_true, ite_false, reduceIte, oC, oR]; exact rS.rf _⟩) (by first | rfl | exact hn40)
