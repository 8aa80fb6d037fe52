/-! ===== the reference: rows and texts ===== -/
abbrev mref (M : xMem) (f : Int32) : xMem := wI (wI M 74 1 f) 75 f.toNatClampNeg (M.1 75 f.toNatClampNeg + 1)
abbrev mtel (M : xMem) (v : Int32) : xMem := wI M 74 0 v
theorem ix_ma {c : Nat} {r i : Int32} (h1 : 0 ≤ r) (h2 : 0 ≤ i) : nI c * r + i = nI (c * r.toNatClampNeg + i.toNatClampNeg) := by
  rw [← nI_add, ← pk_mul, i_cl (i_n0 h1), i_cl (i_n0 h2)]
theorem ix_m {c : Nat} {r : Int32} (h1 : 0 ≤ r) : nI c * r = nI (c * r.toNatClampNeg) := by
  rw [← pk_mul, i_cl (i_n0 h1)]
theorem n_lt {x k : Int32} {K : Nat} (hk : k.toNatClampNeg = K) (h : x ≤ k) : x.toNatClampNeg ≤ K := by
  rw [← hk]
  have e : x.toNatClampNeg = x.toInt.toNat := rfl
  have e2 : k.toNatClampNeg = k.toInt.toNat := rfl
  simp only [Int32.le_iff_toInt_le] at h
  omega
theorem nz_ge {x : Int32} (h : ¬ x < 0) : 0 ≤ x := by
  simp only [Int32.le_iff_toInt_le, Int32.lt_iff_toInt_lt] at *; omega

set_option maxRecDepth 100000 in
theorem c_X11_in {E : xE} {M : xMem} {v l h : Int32} : Cf E mX11_in [.int v, .int l, .int h] M (some (.int (zb (l ≤ v ∧ v ≤ h)))) M := by
  refine Ct.of (lo := [some (.int v), some (.int l), some (.int h)]) pln_X11 (Nat.le_of_ble_eq_true rfl) rfl (Nat.le_refl _) ?_
  refine px_iload_n dX11_in_0 rfl rfl ?_
  refine px_iload_n dX11_in_1 rfl rfl ?_
  refine px_icmp_lt 14 dX11_in_2 rfl (fun h2 => ?_) (fun h2 => ?_)
  · refine px_iconst dX11_in_14 ic_0 ?_
    exact px_zret dX11_in_15 rfl (by first | rfl | exact zb_nar) (by first | exact ⟨z1 (by (simp only [Int32.le_iff_toInt_le, Int32.lt_iff_toInt_lt, ← Int32.toInt_inj, Int32.reduceToInt] at *; omega)), rfl⟩ | exact ⟨z0 (by (simp only [Int32.le_iff_toInt_le, Int32.lt_iff_toInt_lt, ← Int32.toInt_inj, Int32.reduceToInt] at *; omega)), rfl⟩) (rfl)
  · refine px_iload_n dX11_in_5 rfl rfl ?_
    refine px_iload_n dX11_in_6 rfl rfl ?_
    refine px_icmp_gt 14 dX11_in_7 rfl (fun h7 => ?_) (fun h7 => ?_)
    · refine px_iconst dX11_in_14 ic_0 ?_
      exact px_zret dX11_in_15 rfl (by first | rfl | exact zb_nar) (by first | exact ⟨z1 (by (simp only [Int32.le_iff_toInt_le, Int32.lt_iff_toInt_lt, ← Int32.toInt_inj, Int32.reduceToInt] at *; omega)), rfl⟩ | exact ⟨z0 (by (simp only [Int32.le_iff_toInt_le, Int32.lt_iff_toInt_lt, ← Int32.toInt_inj, Int32.reduceToInt] at *; omega)), rfl⟩) (rfl)
    · refine px_iconst dX11_in_10 ic_1 ?_
      refine px_goto 15 dX11_in_11 rfl ?_
      exact px_zret dX11_in_15 rfl (by first | rfl | exact zb_nar) (by first | exact ⟨z1 (by (simp only [Int32.le_iff_toInt_le, Int32.lt_iff_toInt_lt, ← Int32.toInt_inj, Int32.reduceToInt] at *; omega)), rfl⟩ | exact ⟨z0 (by (simp only [Int32.le_iff_toInt_le, Int32.lt_iff_toInt_lt, ← Int32.toInt_inj, Int32.reduceToInt] at *; omega)), rfl⟩) (rfl)

set_option maxRecDepth 100000 in
theorem c_X11_tells {E : xE} {M : xMem} {v w : Int32} (hM : xNT ≤ xN M) : Cf E mX11_tells [.ref 74, .int v, .int w] M (some (.int w)) (mtel M v) := by
  refine Ct.of (lo := [some (.ref 74), some (.int v), some (.int w)]) pln_X11 (Nat.le_of_ble_eq_true rfl) rfl (Nat.le_refl _) ?_
  refine px_aload_n dX11_tells_0 rfl rfl ?_
  refine px_iload_n dX11_tells_1 rfl rfl ?_
  refine px_putI dX11_tells_2 fX11_72 p11_0 (xol rfl) hM rfl ?_
  refine px_iload_n dX11_tells_5 rfl rfl ?_
  exact px_iret dX11_tells_6 rfl ⟨rfl, rfl⟩ (rfl)

set_option maxRecDepth 100000 in
theorem c_X11_found {E : xE} {M : xMem} {f : Int32} (hM : xNT ≤ xN M) (hW : xWire M.2.1) (hf : vp_in f 6) : Cf E mX11_found [.ref 74, .int f] M (some (.int (-3))) (mref M f) := by
  refine Ct.of (lo := [some (.ref 74), some (.int f)]) pln_X11 (Nat.le_of_ble_eq_true rfl) rfl (Nat.le_refl _) ?_
  refine px_aload_n dX11_found_0 rfl rfl ?_
  refine px_iload_n dX11_found_1 rfl rfl ?_
  refine px_putI dX11_found_2 fX11_68 p11_1 (xol rfl) hM rfl ?_
  refine px_aload_n dX11_found_5 rfl rfl ?_
  refine px_getR dX11_found_6 fX11_7 (xol rfl) hM rfl (wr_11_2 hW (xol rfl)) (Nat.succ_pos _) ?_
  refine px_iload_n dX11_found_9 rfl rfl ?_
  refine px_dup2 dX11_found_10 ?_
  refine px_iald dX11_found_11 (xal (n := 6) rfl) hM (by assumption) ?_
  refine px_iconst dX11_found_12 ic_1 ?_
  refine px_iadd dX11_found_13 ?_
  refine px_iast dX11_found_14 (xal (n := 6) rfl) hM (by assumption) ?_
  refine px_bipush dX11_found_15 bp_m3 ?_
  exact px_iret dX11_found_17 rfl ⟨rfl, by rw [xI_wI, if_neg (by simp)]⟩ (rfl)

set_option maxRecDepth 100000 in
theorem c_X11_asked {E : xE} {M : xMem} (hM : xNT ≤ xN M) : Cf E mX11_asked [.ref 74] M (some (.int (M.1 74 0))) M := by
  refine Ct.of (lo := [some (.ref 74)]) pln_X11 (Nat.le_of_ble_eq_true rfl) rfl (Nat.le_refl _) ?_
  refine px_aload_n dX11_asked_0 rfl rfl ?_
  refine px_getI dX11_asked_1 fX11_72 (xol rfl) hM rfl ?_
  exact px_iret dX11_asked_4 rfl ⟨rfl, rfl⟩ (rfl)

set_option maxRecDepth 100000 in
theorem c_X11_finding {E : xE} {M : xMem} (hM : xNT ≤ xN M) : Cf E mX11_finding [.ref 74] M (some (.int (M.1 74 1))) M := by
  refine Ct.of (lo := [some (.ref 74)]) pln_X11 (Nat.le_of_ble_eq_true rfl) rfl (Nat.le_refl _) ?_
  refine px_aload_n dX11_finding_0 rfl rfl ?_
  refine px_getI dX11_finding_1 fX11_68 (xol rfl) hM rfl ?_
  exact px_iret dX11_finding_4 rfl ⟨rfl, rfl⟩ (rfl)

set_option maxRecDepth 100000 in
theorem c_X11_findings {E : xE} {M : xMem} {f : Int32} (hM : xNT ≤ xN M) (hW : xWire M.2.1) : Cf E mX11_findings [.ref 74, .int f] M (some (.int (if 1 ≤ f ∧ f ≤ 5 then M.1 75 f.toNatClampNeg else -1))) M := by
  refine Ct.of (lo := [some (.ref 74), some (.int f)]) pln_X11 (Nat.le_of_ble_eq_true rfl) rfl (Nat.le_refl _) ?_
  refine px_iload_n dX11_findings_0 rfl rfl ?_
  refine px_iconst dX11_findings_1 ic_1 ?_
  refine px_iconst dX11_findings_2 ic_5 ?_
  refine px_fS3i dX11_findings_3 kX11_findings_75 (Nat.le_of_ble_eq_true rfl) (c_X11_in) ?_
  refine px_zif_eq 18 dX11_findings_6 rfl (fun h6 => ?_) (fun h6 => ?_)
  · refine px_iconst dX11_findings_18 ic_m1 ?_
    exact px_iret dX11_findings_19 rfl ⟨by first | rfl | (simp only [h6, not_true_eq_false, not_false_eq_true, if_true, if_false, and_self, or_true, true_or, or_false, false_or, true_and, and_true, false_and, and_false, reduceIte]), by first | rfl | (simp only [h6, not_true_eq_false, not_false_eq_true, if_true, if_false, and_self, or_true, true_or, or_false, false_or, true_and, and_true, false_and, and_false, reduceIte])⟩ (rfl)
  · have hf : vp_in f 6 := i_idx (n := 6) (by (simp only [Int32.le_iff_toInt_le, Int32.lt_iff_toInt_lt, ← Int32.toInt_inj, Int32.reduceToInt] at *; omega)) (by (simp only [Int32.le_iff_toInt_le, Int32.lt_iff_toInt_lt, ← Int32.toInt_inj, Int32.reduceToInt] at *; omega)) (by decide)
    refine px_aload_n dX11_findings_9 rfl rfl ?_
    refine px_getR dX11_findings_10 fX11_7 (xol rfl) hM rfl (wr_11_2 hW (xol rfl)) (Nat.succ_pos _) ?_
    refine px_iload_n dX11_findings_13 rfl rfl ?_
    refine px_iald dX11_findings_14 (xal (n := 6) rfl) hM hf ?_
    refine px_goto 19 dX11_findings_15 rfl ?_
    exact px_iret dX11_findings_19 rfl ⟨by first | rfl | (simp only [h6, not_true_eq_false, not_false_eq_true, if_true, if_false, and_self, or_true, true_or, or_false, false_or, true_and, and_true, false_and, and_false, reduceIte]), by first | rfl | (simp only [h6, not_true_eq_false, not_false_eq_true, if_true, if_false, and_self, or_true, true_or, or_false, false_or, true_and, and_true, false_and, and_false, reduceIte])⟩ (rfl)

set_option maxRecDepth 100000 in
theorem c_X11_isRow {E : xE} {M : xMem} {r : Int32} : Cf E mX11_isRow [.int r] M (some (.int (zb (0 ≤ r ∧ r ≤ 5)))) M := by
  refine Ct.of (lo := [some (.int r)]) pln_X11 (Nat.le_of_ble_eq_true rfl) rfl (Nat.le_refl _) ?_
  refine px_iload_n dX11_isRow_0 rfl rfl ?_
  refine px_iconst dX11_isRow_1 ic_0 ?_
  refine px_iconst dX11_isRow_2 ic_5 ?_
  refine px_fS3i dX11_isRow_3 kX11_isRow_75 (Nat.le_of_ble_eq_true rfl) (c_X11_in) ?_
  exact px_zret dX11_isRow_6 rfl (by first | rfl | exact zb_nar) ⟨rfl, rfl⟩ (rfl)

set_option maxRecDepth 100000 in
theorem c_X11_isText {E : xE} {M : xMem} {r : Int32} : Cf E mX11_isText [.int r] M (some (.int (zb (0 ≤ r ∧ r ≤ 3)))) M := by
  refine Ct.of (lo := [some (.int r)]) pln_X11 (Nat.le_of_ble_eq_true rfl) rfl (Nat.le_refl _) ?_
  refine px_iload_n dX11_isText_0 rfl rfl ?_
  refine px_iconst dX11_isText_1 ic_0 ?_
  refine px_iconst dX11_isText_2 ic_3 ?_
  refine px_fS3i dX11_isText_3 kX11_isText_75 (Nat.le_of_ble_eq_true rfl) (c_X11_in) ?_
  exact px_zret dX11_isText_6 rfl (by first | rfl | exact zb_nar) ⟨rfl, rfl⟩ (rfl)

set_option maxRecDepth 100000 in
theorem c_X11_rowAt {E : xE} {M : xMem} {r i : Int32} (hM : xNT ≤ xN M) (hW : xWire M.2.1) (h1 : 0 ≤ r) (h2 : 0 ≤ i) (h3 : 40 * r.toNatClampNeg + i.toNatClampNeg < 240) : Cf E mX11_rowAt [.ref 74, .int r, .int i] M (some (.int (M.1 77 (40 * r.toNatClampNeg + i.toNatClampNeg)))) M := by
  refine Ct.of (lo := [some (.ref 74), some (.int r), some (.int i)]) pln_X11 (Nat.le_of_ble_eq_true rfl) rfl (Nat.le_refl _) ?_
  refine px_aload_n dX11_rowAt_0 rfl rfl ?_
  refine px_getR dX11_rowAt_1 fX11_16 (xol rfl) hM rfl (wr_11_4 hW (xol rfl)) (Nat.succ_pos _) ?_
  refine px_bipush dX11_rowAt_4 bp_40 ?_
  refine px_iload_n dX11_rowAt_6 rfl rfl ?_
  refine px_imul dX11_rowAt_7 ?_
  refine px_iload_n dX11_rowAt_8 rfl rfl ?_
  refine px_iadd dX11_rowAt_9 ?_
  refine px_top (ix_ma (c := 40) h1 h2) ?_
  refine px_iald dX11_rowAt_10 (xal (n := 240) rfl) hM (vp_in_nI h3 (by decide)) ?_
  exact px_iret dX11_rowAt_11 rfl ⟨by rw [nI_clamp (by omega)], rfl⟩ (rfl)

def mrenM (M : xMem) (b : Nat) (k n : Nat) (v : Int32) : xMem := wF M b (fun j => if k ≤ j ∧ j < k + n then v else M.1 b j)
theorem mren_0 (M : xMem) (b k : Nat) (v : Int32) : mrenM M b k 0 v = M := by
  unfold mrenM
  have : (fun j => if k ≤ j ∧ j < k + 0 then v else M.1 b j) = M.1 b := by funext j; rw [if_neg (by omega)]
  rw [this, wF_id]
theorem mren_s (M : xMem) (b k n : Nat) (v : Int32) : wI (mrenM M b k n v) b (k + n) v = mrenM M b k (n + 1) v := by
  unfold mrenM
  rw [wI_wF]
  congr 1
  funext j
  by_cases h : j = k + n
  · rw [if_pos h, if_pos (by omega)]
  · rw [if_neg h]
    by_cases h2 : k ≤ j ∧ j < k + n
    · rw [if_pos h2, if_pos (by omega)]
    · rw [if_neg h2, if_neg (by omega)]

set_option maxRecDepth 100000 in
theorem l_X11_row {E : xE} {M : xMem} {r n : Int32} (hM : xNT ≤ xN M) (hW : xWire M.2.1) (h1 : 0 ≤ r) (rl : r.toNatClampNeg ≤ 5) : PR E mX11_row (xN M) 34 [some (.ref 74), some (.int r), some (.int n), some (.int (nI 0))] [] (mrenM M 77 (40 * r.toNatClampNeg) 0 0) (fun r' m => r' = some (.int n) ∧ m = mrenM M 77 (40 * r.toNatClampNeg) 40 0) := by
  refine px_for (P := fun i => PR E mX11_row (xN M) 34 [some (.ref 74), some (.int r), some (.int n), some (.int (nI i))] [] (mrenM M 77 (40 * r.toNatClampNeg) i 0) (fun r' m => r' = some (.int n) ∧ m = mrenM M 77 (40 * r.toNatClampNeg) 40 0)) (40) (fun i hi nx => ?_) (0) (by omega)
  refine px_iload_n dX11_row_34 rfl rfl ?_
  refine px_bipush dX11_row_35 bp_40 ?_
  refine px_icmp_ge 58 dX11_row_37 rfl (fun h37 => ?_) (fun h37 => ?_)
  · have hi2 : i = 40 := by have h37 : nI 40 ≤ nI i := h37; rw [nI_leI (by omega) (by omega)] at h37; omega
    refine px_iload_n dX11_row_58 rfl rfl ?_
    exact px_iret dX11_row_59 rfl ⟨rfl, by rw [hi2]⟩ (rfl)
  · have hlt : i < 40 := by have h37 : ¬ nI 40 ≤ nI i := h37; rw [nI_leI (by omega) (by omega)] at h37; omega
    refine px_aload_n dX11_row_40 rfl rfl ?_
    refine px_getR dX11_row_41 fX11_16 (xol rfl) hM rfl (wr_11_4 hW (xol rfl)) (Nat.succ_pos _) ?_
    refine px_bipush dX11_row_44 bp_40 ?_
    refine px_iload_n dX11_row_46 rfl rfl ?_
    refine px_imul dX11_row_47 ?_
    refine px_iload_n dX11_row_48 rfl rfl ?_
    refine px_iadd dX11_row_49 ?_
    refine px_top (y := nI (40 * r.toNatClampNeg + i)) (by rw [show (40 : Int32) = nI 40 from rfl, ix_m h1, nI_add]) ?_
    refine px_iconst dX11_row_50 ic_0 ?_
    refine px_iast dX11_row_51 (xal (n := 240) rfl) hM (vp_in_nI (by omega) (by decide)) ?_
    refine px_inc_3 dX11_row_52 rfl ic_1 ?_
    refine px_goto 34 dX11_row_55 rfl ?_
    exact px_eq (by rw [nI_1]) (by rw [nI_clamp (by omega)]; exact mren_s _ _ _ _ _) (nx hlt)

set_option maxRecDepth 100000 in
theorem c_X11_row {E : xE} {M : xMem} {r n : Int32} (hM : xNT ≤ xN M) (hW : xWire M.2.1) : Cf E mX11_row [.ref 74, .int r, .int n] M (some (.int (if ¬ (0 ≤ r ∧ r ≤ 5) then -1 else if ¬ n ≤ 40 then -1 else if ¬ 0 ≤ n then -3 else n))) (if ¬ (0 ≤ r ∧ r ≤ 5) then M else if ¬ n ≤ 40 then M else if ¬ 0 ≤ n then mref M 5 else mrenM (wI M 76 r.toNatClampNeg n) 77 (40 * r.toNatClampNeg) 40 0) := by
  refine Ct.of (lo := [some (.ref 74), some (.int r), some (.int n), none]) pln_X11 (Nat.le_of_ble_eq_true rfl) rfl (Nat.le_refl _) ?_
  refine px_iload_n dX11_row_0 rfl rfl ?_
  refine px_fS1i dX11_row_1 kX11_row_79 (Nat.le_of_ble_eq_true rfl) (c_X11_isRow) ?_
  refine px_zif_eq 13 dX11_row_4 rfl (fun h4 => ?_) (fun h4 => ?_)
  · refine px_iconst dX11_row_13 ic_m1 ?_
    exact px_iret dX11_row_14 rfl ⟨by first | rfl | (simp only [h4, not_true_eq_false, not_false_eq_true, if_true, if_false, and_self, or_true, true_or, or_false, false_or, true_and, and_true, false_and, and_false, reduceIte]), by first | rfl | (simp only [h4, not_true_eq_false, not_false_eq_true, if_true, if_false, and_self, or_true, true_or, or_false, false_or, true_and, and_true, false_and, and_false, reduceIte])⟩ (rfl)
  · refine px_iload_n dX11_row_7 rfl rfl ?_
    refine px_bipush dX11_row_8 bp_40 ?_
    refine px_icmp_le 15 dX11_row_10 rfl (fun h10 => ?_) (fun h10 => ?_)
    · refine px_iload_n dX11_row_15 rfl rfl ?_
      refine px_if_ge 25 dX11_row_16 rfl (fun h16 => ?_) (fun h16 => ?_)
      · have rl : r.toNatClampNeg ≤ 5 := n_lt (k := 5) rfl h4.2
        have hri : vp_in r 6 := i_idx (n := 6) h4.1 (by have := h4.2; (simp only [Int32.le_iff_toInt_le, Int32.lt_iff_toInt_lt, ← Int32.toInt_inj, Int32.reduceToInt] at *; omega)) (by decide)
        refine px_aload_n dX11_row_25 rfl rfl ?_
        refine px_getR dX11_row_26 fX11_13 (xol rfl) hM rfl (wr_11_3 hW (xol rfl)) (Nat.succ_pos _) ?_
        refine px_iload_n dX11_row_29 rfl rfl ?_
        refine px_iload_n dX11_row_30 rfl rfl ?_
        refine px_iast dX11_row_31 (xal (n := 6) rfl) hM hri ?_
        refine px_iconst dX11_row_32 ic_0 ?_
        refine px_si_3 dX11_row_33 rfl ?_
        have k := l_X11_row (E := E) (M := wI M 76 r.toNatClampNeg n) (n := n) hM hW h4.1 rl
        rw [mren_0] at k
        exact px_q (fun _ _ q => ⟨by rw [q.1, if_neg (not_not_intro h4), if_neg (not_not_intro h10), if_neg (not_not_intro h16)], by rw [q.2, if_neg (not_not_intro h4), if_neg (not_not_intro h10), if_neg (not_not_intro h16)]⟩) k
      · refine px_aload_n dX11_row_19 rfl rfl ?_
        refine px_iconst dX11_row_20 ic_5 ?_
        refine px_fV1i dX11_row_21 kX11_row_83 (xol rfl) hM (Nat.le_of_ble_eq_true rfl) (c_X11_found hM hW (by unfold vp_in; decide)) ?_
        exact px_iret dX11_row_24 rfl ⟨by first | rfl | (simp only [h4, h10, h16, not_true_eq_false, not_false_eq_true, if_true, if_false, and_self, or_true, true_or, or_false, false_or, true_and, and_true, false_and, and_false, reduceIte]), by first | rfl | (simp only [h4, h10, h16, not_true_eq_false, not_false_eq_true, if_true, if_false, and_self, or_true, true_or, or_false, false_or, true_and, and_true, false_and, and_false, reduceIte])⟩ (rfl)
    · refine px_iconst dX11_row_13 ic_m1 ?_
      exact px_iret dX11_row_14 rfl ⟨by first | rfl | (simp only [h4, h10, not_true_eq_false, not_false_eq_true, if_true, if_false, and_self, or_true, true_or, or_false, false_or, true_and, and_true, false_and, and_false, reduceIte]), by first | rfl | (simp only [h4, h10, not_true_eq_false, not_false_eq_true, if_true, if_false, and_self, or_true, true_or, or_false, false_or, true_and, and_true, false_and, and_false, reduceIte])⟩ (rfl)

set_option maxRecDepth 100000 in
theorem l_X11_text {E : xE} {M : xMem} {t n : Int32} (hM : xNT ≤ xN M) (hW : xWire M.2.1) (h1 : 0 ≤ t) (rl : t.toNatClampNeg ≤ 3) : PR E mX11_text (xN M) 34 [some (.ref 74), some (.int t), some (.int n), some (.int (nI 0))] [] (mrenM M 80 (120 * t.toNatClampNeg) 0 32) (fun r' m => r' = some (.int n) ∧ m = mrenM M 80 (120 * t.toNatClampNeg) 120 32) := by
  refine px_for (P := fun i => PR E mX11_text (xN M) 34 [some (.ref 74), some (.int t), some (.int n), some (.int (nI i))] [] (mrenM M 80 (120 * t.toNatClampNeg) i 32) (fun r' m => r' = some (.int n) ∧ m = mrenM M 80 (120 * t.toNatClampNeg) 120 32)) (120) (fun i hi nx => ?_) (0) (by omega)
  refine px_iload_n dX11_text_34 rfl rfl ?_
  refine px_bipush dX11_text_35 bp_120 ?_
  refine px_icmp_ge 59 dX11_text_37 rfl (fun h37 => ?_) (fun h37 => ?_)
  · have hi2 : i = 120 := by have h37 : nI 120 ≤ nI i := h37; rw [nI_leI (by omega) (by omega)] at h37; omega
    refine px_iload_n dX11_text_59 rfl rfl ?_
    exact px_iret dX11_text_60 rfl ⟨rfl, by rw [hi2]⟩ (rfl)
  · have hlt : i < 120 := by have h37 : ¬ nI 120 ≤ nI i := h37; rw [nI_leI (by omega) (by omega)] at h37; omega
    refine px_aload_n dX11_text_40 rfl rfl ?_
    refine px_getR dX11_text_41 fX11_25 (xol rfl) hM rfl (wr_11_7 hW (xol rfl)) (Nat.succ_pos _) ?_
    refine px_bipush dX11_text_44 bp_120 ?_
    refine px_iload_n dX11_text_46 rfl rfl ?_
    refine px_imul dX11_text_47 ?_
    refine px_iload_n dX11_text_48 rfl rfl ?_
    refine px_iadd dX11_text_49 ?_
    refine px_top (y := nI (120 * t.toNatClampNeg + i)) (by rw [show (120 : Int32) = nI 120 from rfl, ix_m h1, nI_add]) ?_
    refine px_bipush dX11_text_50 bp_32 ?_
    refine px_bast dX11_text_52 (xal (n := 480) rfl) hM (vp_in_nI (by omega) (by decide)) ?_
    refine px_inc_3 dX11_text_53 rfl ic_1 ?_
    refine px_goto 34 dX11_text_56 rfl ?_
    exact px_eq (by rw [nI_1]) (by rw [nI_clamp (by omega)]; exact mren_s _ _ _ _ _) (nx hlt)

set_option maxRecDepth 100000 in
theorem c_X11_text {E : xE} {M : xMem} {t n : Int32} (hM : xNT ≤ xN M) (hW : xWire M.2.1) : Cf E mX11_text [.ref 74, .int t, .int n] M (some (.int (if ¬ (0 ≤ t ∧ t ≤ 3) then -1 else if ¬ n ≤ 120 then -1 else if ¬ 0 ≤ n then -3 else n))) (if ¬ (0 ≤ t ∧ t ≤ 3) then M else if ¬ n ≤ 120 then M else if ¬ 0 ≤ n then mref M 5 else mrenM (wI M 79 t.toNatClampNeg n) 80 (120 * t.toNatClampNeg) 120 32) := by
  refine Ct.of (lo := [some (.ref 74), some (.int t), some (.int n), none]) pln_X11 (Nat.le_of_ble_eq_true rfl) rfl (Nat.le_refl _) ?_
  refine px_iload_n dX11_text_0 rfl rfl ?_
  refine px_fS1i dX11_text_1 kX11_text_94 (Nat.le_of_ble_eq_true rfl) (c_X11_isText) ?_
  refine px_zif_eq 13 dX11_text_4 rfl (fun h4 => ?_) (fun h4 => ?_)
  · refine px_iconst dX11_text_13 ic_m1 ?_
    exact px_iret dX11_text_14 rfl ⟨by first | rfl | (simp only [h4, not_true_eq_false, not_false_eq_true, if_true, if_false, and_self, or_true, true_or, or_false, false_or, true_and, and_true, false_and, and_false, reduceIte]), by first | rfl | (simp only [h4, not_true_eq_false, not_false_eq_true, if_true, if_false, and_self, or_true, true_or, or_false, false_or, true_and, and_true, false_and, and_false, reduceIte])⟩ (rfl)
  · refine px_iload_n dX11_text_7 rfl rfl ?_
    refine px_bipush dX11_text_8 bp_120 ?_
    refine px_icmp_le 15 dX11_text_10 rfl (fun h10 => ?_) (fun h10 => ?_)
    · refine px_iload_n dX11_text_15 rfl rfl ?_
      refine px_if_ge 25 dX11_text_16 rfl (fun h16 => ?_) (fun h16 => ?_)
      · have tl : t.toNatClampNeg ≤ 3 := n_lt (k := 3) rfl h4.2
        have hti : vp_in t 4 := i_idx (n := 4) h4.1 (by have := h4.2; (simp only [Int32.le_iff_toInt_le, Int32.lt_iff_toInt_lt, ← Int32.toInt_inj, Int32.reduceToInt] at *; omega)) (by decide)
        refine px_aload_n dX11_text_25 rfl rfl ?_
        refine px_getR dX11_text_26 fX11_22 (xol rfl) hM rfl (wr_11_6 hW (xol rfl)) (Nat.succ_pos _) ?_
        refine px_iload_n dX11_text_29 rfl rfl ?_
        refine px_iload_n dX11_text_30 rfl rfl ?_
        refine px_iast dX11_text_31 (xal (n := 4) rfl) hM hti ?_
        refine px_iconst dX11_text_32 ic_0 ?_
        refine px_si_3 dX11_text_33 rfl ?_
        have k := l_X11_text (E := E) (M := wI M 79 t.toNatClampNeg n) (n := n) hM hW h4.1 tl
        rw [mren_0] at k
        exact px_q (fun _ _ q => ⟨by rw [q.1, if_neg (not_not_intro h4), if_neg (not_not_intro h10), if_neg (not_not_intro h16)], by rw [q.2, if_neg (not_not_intro h4), if_neg (not_not_intro h10), if_neg (not_not_intro h16)]⟩) k
      · refine px_aload_n dX11_text_19 rfl rfl ?_
        refine px_iconst dX11_text_20 ic_5 ?_
        refine px_fV1i dX11_text_21 kX11_text_83 (xol rfl) hM (Nat.le_of_ble_eq_true rfl) (c_X11_found hM hW (by unfold vp_in; decide)) ?_
        exact px_iret dX11_text_24 rfl ⟨by first | rfl | (simp only [h4, h10, h16, not_true_eq_false, not_false_eq_true, if_true, if_false, and_self, or_true, true_or, or_false, false_or, true_and, and_true, false_and, and_false, reduceIte]), by first | rfl | (simp only [h4, h10, h16, not_true_eq_false, not_false_eq_true, if_true, if_false, and_self, or_true, true_or, or_false, false_or, true_and, and_true, false_and, and_false, reduceIte])⟩ (rfl)
    · refine px_iconst dX11_text_13 ic_m1 ?_
      exact px_iret dX11_text_14 rfl ⟨by first | rfl | (simp only [h4, h10, not_true_eq_false, not_false_eq_true, if_true, if_false, and_self, or_true, true_or, or_false, false_or, true_and, and_true, false_and, and_false, reduceIte]), by first | rfl | (simp only [h4, h10, not_true_eq_false, not_false_eq_true, if_true, if_false, and_self, or_true, true_or, or_false, false_or, true_and, and_true, false_and, and_false, reduceIte])⟩ (rfl)
