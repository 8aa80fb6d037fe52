/-! ===== write, class ===== -/
theorem fb8 (b : Int8) : fits .byte (.int b.toInt32) = true := by
  have h1 := b.le_toInt
  have h2 := b.toInt_lt
  have e1 : (-128 : Int32).toInt = -128 := rfl
  have e2 : (127 : Int32).toInt = 127 := rfl
  show (decide (-128 ≤ b.toInt32) && decide (b.toInt32 ≤ 127)) = true
  rw [Bool.and_eq_true, decide_eq_true_eq, decide_eq_true_eq, Int32.le_iff_toInt_le, Int32.le_iff_toInt_le, e1, e2, Int8.toInt_toInt32]
  omega
def bOk (s : aW) : Prop := ∀ i, i < s.1 → fits .byte (.int (s.2 i)) = true
theorem bOkC {s : aW} (h : bOk s) (c : Int32) : bOk (adC s c) := by
  intro i hi
  have hi2 : i < s.1 + 1 := hi
  show fits .byte (.int (if i = s.1 then c.toInt8.toInt32 else s.2 i)) = true
  by_cases e : i = s.1
  · rw [if_pos e]; exact fb8 _
  · rw [if_neg e]; exact h i (by omega)
theorem bOkN {s : aW} (h : bOk s) (x : Int32) : bOk (adN s x) := by
  unfold adN
  by_cases e : x < 10
  · rw [if_pos e]; exact bOkC (bOkC h _) _
  · rw [if_neg e]; exact bOkC (bOkC (bOkC h _) _) _
theorem bOkWn {s : aW} (h : bOk s) (i : Nat) : ∀ k, bOk (adWn s i k)
  | 0 => h
  | k + 1 => bOkC (bOkWn h i k) _
theorem bOkNs {s : aW} (h : bOk s) (g : Nat → Nat) : ∀ k, bOk (adNs s g k)
  | 0 => h
  | k + 1 => bOkN (bOkNs h g k) _
theorem bOkFs {s : aW} (h : bOk s) (g : Nat → Nat → Nat) : ∀ k, bOk (adFs s g k)
  | 0 => h
  | k + 1 => bOkC (bOkNs (bOkWn (bOkFs h g k) _ _) _ _) _
theorem bOkS (n W H B : Nat) (g : Nat → Nat → Nat) : bOk (adS n W H B g) := by
  have h0 : bOk (0, fun _ => 0) := fun i hi => absurd hi (Nat.not_lt_zero i)
  have h1 := bOkC (bOkN (bOkN (bOkWn h0 0 (xslen.getD 0 0)) (nI W)) (nI H)) 59
  refine bOkFs ?_ g n
  unfold adH
  by_cases e : B = 0
  · rw [if_pos e]; exact h1
  · rw [if_neg e]; exact bOkC (bOkN (bOkWn h1 1 _) (nI B)) 59
theorem adS_b {n W H B : Nat} {g : Nat → Nat → Nat} (ho : okSh n W H B g) : (adS n W H B g).1 < 1000 := by
  have h1 := adFs_b (adH W H B) g n (fun f hf => (ho.2.2.2.2.2 f hf).1)
  have h8 := ho.1
  have hH : (adH W H B).1 ≤ 100 := by
    unfold adH
    have b1 := adW_b ((0, fun _ => 0) : aW) (i := 0) (by decide)
    have b2 := adN_b (adW ((0, fun _ => 0) : aW) 0) (nI W)
    have b3 := adN_b (adN (adW ((0, fun _ => 0) : aW) 0) (nI W)) (nI H)
    have b0 : ((0, fun _ => 0) : aW).1 = 0 := rfl
    by_cases e : B = 0
    · rw [if_pos e]
      show (adN (adN (adW ((0, fun _ => 0) : aW) 0) (nI W)) (nI H)).1 + 1 ≤ 100
      omega
    · rw [if_neg e]
      have b4 : (adC (adN (adN (adW ((0, fun _ => 0) : aW) 0) (nI W)) (nI H)) 59).1 = (adN (adN (adW ((0, fun _ => 0) : aW) 0) (nI W)) (nI H)).1 + 1 := rfl
      have b5 := adW_b (adC (adN (adN (adW ((0, fun _ => 0) : aW) 0) (nI W)) (nI H)) 59) (i := 1) (by decide)
      have b6 := adN_b (adW (adC (adN (adN (adW ((0, fun _ => 0) : aW) 0) (nI W)) (nI H)) 59) 1) (nI B)
      show (adN (adW (adC (adN (adN (adW ((0, fun _ => 0) : aW) 0) (nI W)) (nI H)) 59) 1) (nI B)).1 + 1 ≤ 100
      omega
  unfold adS
  omega

set_option maxRecDepth 100000 in
theorem c_X9_takeOver {E : xE} {M : xMem} {a N : Nat} (ha : xob a 9) (hM : xNT ≤ xN M) (hW : xWire M.2.1) (hN : N ≤ 120) (hft : ∀ i, i < N → fits .byte (.int (M.1 23 i)) = true) : Cf E mX9_takeOver [.ref a, .ref 23, .int (nI N)] M none (wF (wI M a 1 (nI N)) (a + 1) (va_cpy (M.1 23) (M.1 (a + 1)) 0 0 N)) := by
  refine Ct.of (lo := [some (.ref a), some (.ref 23), some (.int (nI N))]) pln_X9 (Nat.le_of_ble_eq_true rfl) rfl (Nat.le_refl _) ?_
  refine px_aload_n dX9_takeOver_0 rfl rfl ?_
  refine px_iconst dX9_takeOver_1 ic_0 ?_
  refine px_iload_n dX9_takeOver_2 rfl rfl ?_
  refine px_aload_n dX9_takeOver_3 rfl rfl ?_
  refine px_alen dX9_takeOver_4 (xal (a := 23) (k := 21) (n := 120) rfl) rfl hM ?_
  refine px_bipush dX9_takeOver_5 bp_120 ?_
  refine px_min dX9_takeOver_7 kX9_takeOver_19 (Nat.le_of_ble_eq_true rfl) ?_
  refine px_top (y := nI 120) rfl ?_
  refine px_min dX9_takeOver_10 kX9_takeOver_19 (Nat.le_of_ble_eq_true rfl) ?_
  refine px_top (y := nI N) (if_neg (fun z => by rw [nI_ltI (by decide) (by omega)] at z; omega)) ?_
  refine px_max dX9_takeOver_13 kX9_takeOver_25 (Nat.le_of_ble_eq_true rfl) ?_
  refine px_top (y := nI N) (by by_cases z : (0 : Int32) < nI N; (rw [if_pos z]); (rw [if_neg z]; rw [show (0 : Int32) = nI 0 from rfl, nI_ltI (by decide) (by omega)] at z; rw [show N = 0 by omega]; rfl)) ?_
  refine px_putI dX9_takeOver_16 fX9_15 p9_1 ha hM rfl ?_
  refine px_aload_n dX9_takeOver_19 rfl rfl ?_
  refine px_iconst dX9_takeOver_20 ic_0 ?_
  refine px_aload_n dX9_takeOver_21 rfl rfl ?_
  refine px_getR dX9_takeOver_22 fX9_9 ha hM rfl (wr_9_0 hW ha) (Nat.succ_pos _) ?_
  refine px_iconst dX9_takeOver_25 ic_0 ?_
  refine px_aload_n dX9_takeOver_26 rfl rfl ?_
  refine px_getI dX9_takeOver_27 fX9_15 ha hM rfl ?_
  refine px_top (y := nI N) (wI_self _ _ _ _) ?_
  refine px_copy (a0 := 23) (a := a + 1) (kk := 21) (t0 := 1) (ty := .byte) dX9_takeOver_30 kX9_takeOver_28 (xal (n := 120) rfl) (ar_9 ha) ⟨by decide, by decide⟩ (fun _ => rfl) rfl hM (show ¬ (0 : Int32) < 0 by decide) (show ¬ (0 : Int32) < 0 by decide) (nI_pos (by omega)) (by rw [nI_clamp (by omega), show (0 : Int32).toNatClampNeg = 0 from rfl]; omega) (by rw [nI_clamp (by omega), show (0 : Int32).toNatClampNeg = 0 from rfl]; omega) (fun i hi => by rw [nI_clamp (by omega)] at hi; rw [xI_wI, if_neg (fun z => by have := xob_9 ha; omega), show (0 : Int32).toNatClampNeg + i = i from Nat.zero_add i]; exact hft i hi) (Nat.le_of_ble_eq_true rfl) ?_
  exact px_ret dX9_takeOver_33 rfl ⟨rfl, by rw [nI_clamp (by omega), show (wI M a 1 (nI N)).1 23 = M.1 23 from by funext k; rw [xI_wI, if_neg (fun z => by have := xob_9 ha; omega)], show (wI M a 1 (nI N)).1 (a + 1) = M.1 (a + 1) from by funext k; rw [xI_wI, if_neg (fun z => by omega)]]; rfl⟩ (rfl)

def wOk (v : Int32) (n : Nat) (w : aW) : Prop := (0 ≤ v ∧ v < 4) ∧ ¬ n = 0 ∧ w.1 ≤ 120
def aWri (v : Int32) (n : Nat) (w : aW) : Int32 := if ¬ (0 ≤ v ∧ v < 4) then -1 else if n = 0 then -4 else if 120 < w.1 then -6 else nI w.1

set_option maxRecDepth 100000 in
theorem c_X10_write {E : xE} {M : xMem} {s n W H B dd : Nat} {g : Nat → Nat → Nat} {S : gLay × Nat} {P : Nat → gLay × Nat} (hc : cHy M s n W H B g dd S P) {v : Int32} : Ct E mX10_write [.ref 1, .int v] M (xN M) (fun r m => r = some (.int (aWri v n (adS n W H B g))) ∧ (¬ wOk v n (adS n W H B g) → wrG 22 1 23 M m) ∧ (wOk v n (adS n W H B g) → m.2 = M.2 ∧ (∀ a, a ≠ 22 → a ≠ 23 → a ≠ tA v → a ≠ tA v + 1 → m.1 a = M.1 a) ∧ m.1 (tA v) 1 = nI (adS n W H B g).1 ∧ ∀ i, i < (adS n W H B g).1 → m.1 (tA v + 1) i = (adS n W H B g).2 i)) := by
  obtain ⟨hM, hW, hs, hcu, hsh, hok, hst, hly, hru⟩ := hc
  have hp0 : 0 < s := hs.1
  have h8 : n ≤ 8 := hok.1
  have hb : lyB S.1 := (hsh.s hok).b hly
  have hl : lyC (M.1 8) S.1 := hst.2.2.1
  have hpg := pgL_le hb 8
  refine Ct.of (lo := [some (.ref 1), some (.int v)]) pln_X10 (Nat.le_of_ble_eq_true rfl) rfl (Nat.le_refl _) ?_
  refine px_iload_n dX10_write_0 rfl rfl ?_
  refine px_iconst dX10_write_1 ic_4 ?_
  refine px_fS2i dX10_write_2 kX10_write_84 (Nat.le_of_ble_eq_true rfl) (c_X10_isBelow) ?_
  refine px_zif_ne 10 dX10_write_5 rfl (fun h5 => ?_) (fun h5 => ?_)
  · refine px_aload_n dX10_write_10 rfl rfl ?_
    refine px_fV0i dX10_write_11 kX10_write_141 (xol rfl) hM (Nat.le_of_ble_eq_true rfl) (c_X10_hasNoSheet hM hs hcu hp0) ?_
    refine px_top (y := zb (n = 0)) (by rw [hsh.1]; exact no_c h8) ?_
    refine px_zif_eq 20 dX10_write_14 rfl (fun h14 => ?_) (fun h14 => ?_)
    · have hwb := adS_b hok
      have hbo := bOkS n W H B g
      refine px_aload_n dX10_write_20 rfl rfl ?_
      refine px_getR dX10_write_21 fX10_46 (xol rfl) hM rfl (wr_10_6 hW (xol rfl)) (Nat.succ_pos _) ?_
      refine px_aload_n dX10_write_24 rfl rfl ?_
      refine px_getR dX10_write_25 fX10_71 (xol rfl) hM rfl (by assumption) (by assumption) ?_
      refine px_gV1 dX10_write_28 kX10_write_144 (xol rfl) hM (Nat.le_of_ble_eq_true rfl) (c_X6_writeSheet hM hW hs hsh hok) (fun r28 M28 hq28 hn28 => ?_)
      obtain ⟨rfl, q28, s28⟩ := hq28
      have hM : xNT ≤ xN M28 := by rw [hn28]; exact hM
      have hW : xWire M28.2.1 := by rw [q28.1]; exact hW
      refine px_aload_n dX10_write_31 rfl rfl ?_
      refine px_getR dX10_write_32 fX10_46 (xol rfl) hM rfl (wr_10_6 hW (xol rfl)) (Nat.succ_pos _) ?_
      refine px_getI dX10_write_35 fX10_148 (xol rfl) hM rfl ?_
      refine px_top (y := nI (adS n W H B g).1) s28.1 ?_
      refine px_bipush dX10_write_38 bp_120 ?_
      refine px_icmp_le 46 dX10_write_40 rfl (fun h40 => ?_) (fun h40 => ?_)
      · have tl : v.toNatClampNeg < 4 := r_lt (k := 4) rfl h5
        have htx : xob (tA v) 9 := ob_text tl
        have h99 := xob_9 htx
        have hle : (adS n W H B g).1 ≤ 120 := by rw [show (120 : Int32) = nI 120 from rfl, nI_leI (by omega) (by decide)] at h40; exact h40
        refine px_aload_n dX10_write_46 rfl rfl ?_
        refine px_getR dX10_write_47 fX10_17 (xol rfl) hM rfl (wr_10_1 hW (xol rfl)) (Nat.succ_pos _) ?_
        refine px_iload_n dX10_write_50 rfl rfl ?_
        refine px_aald (t0 := 4) dX10_write_51 (xal (n := 4) rfl) (by decide) (fun _ => rfl) hM (i_idx h5.1 h5.2 (by decide)) (wa_3 hW tl) (by omega) ?_
        refine px_aload_n dX10_write_52 rfl rfl ?_
        refine px_getR dX10_write_53 fX10_46 (xol rfl) hM rfl (wr_10_6 hW (xol rfl)) (Nat.succ_pos _) ?_
        refine px_getR dX10_write_56 fX10_149 (xol rfl) hM rfl (wr_6_0 hW (xol rfl)) (Nat.succ_pos _) ?_
        refine px_aload_n dX10_write_59 rfl rfl ?_
        refine px_getR dX10_write_60 fX10_46 (xol rfl) hM rfl (wr_10_6 hW (xol rfl)) (Nat.succ_pos _) ?_
        refine px_getI dX10_write_63 fX10_148 (xol rfl) hM rfl ?_
        refine px_top (y := nI (adS n W H B g).1) s28.1 ?_
        refine px_fV2v dX10_write_66 kX10_write_150 htx hM (Nat.le_of_ble_eq_true rfl) (c_X9_takeOver htx hM hW hle (fun i hi => by rw [s28.2 i hi (by omega)]; exact hbo i hi)) ?_
        refine px_aload_n dX10_write_69 rfl rfl ?_
        refine px_getR dX10_write_70 fX10_46 (xol rfl) hM rfl (wr_10_6 hW (xol rfl)) (Nat.succ_pos _) ?_
        refine px_getI dX10_write_73 fX10_148 (xol rfl) hM rfl ?_
        refine px_top (y := nI (adS n W H B g).1) (by rw [xI_wF, if_neg (by omega), xI_wI, if_neg (fun z => by omega)]; exact s28.1) ?_
        exact px_iret dX10_write_76 rfl (by
              refine ⟨by unfold aWri; rw [if_neg (not_not_intro h5), if_neg h14, if_neg (by omega)], fun z => absurd ⟨h5, h14, hle⟩ z, fun _ => ⟨q28.1, fun a a1 a2 a3 a4 => ?_, ?_, fun i hi => ?_⟩⟩
              · rw [← q28.2.1 a a1 a2]; funext k; rw [xI_wF, if_neg a4, xI_wI, if_neg (fun z => a3 z.1)]
              · rw [xI_wF, if_neg (by omega), wI_self]
              · rw [xI_wF, if_pos rfl]
                rw [pk_cpy_in (by omega) (by omega)]
                show M28.1 23 (0 + (i - 0)) = _
                rw [show 0 + (i - 0) = i by omega]
                exact s28.2 i (by omega) (by omega)) (by first | rfl | exact hn28)
      · have hgt : 120 < (adS n W H B g).1 := by rw [show (120 : Int32) = nI 120 from rfl, nI_leI (by omega) (by decide)] at h40; omega
        refine px_bipush dX10_write_43 bp_m6 ?_
        exact px_iret dX10_write_45 rfl ⟨by unfold aWri; rw [if_neg (not_not_intro h5), if_neg h14, if_pos hgt], fun _ => q28, fun z => absurd z.2.2 (by omega)⟩ (by first | rfl | exact hn28)
    · refine px_bipush dX10_write_17 bp_m4 ?_
      exact px_iret dX10_write_19 rfl ⟨by unfold aWri; rw [if_neg (not_not_intro h5), if_pos h14], fun _ => wrGrf _ _ _ _, fun z => absurd h14 z.2.1⟩ (by first | rfl | exact hn28)
  · refine px_iconst dX10_write_8 ic_m1 ?_
    exact px_iret dX10_write_9 rfl ⟨by unfold aWri; rw [if_pos h5], fun _ => wrGrf _ _ _ _, fun z => absurd z.1 h5⟩ (by first | rfl | exact hn28)
