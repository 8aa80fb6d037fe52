/-- the reference's sizes -/
def mszOK (M : xMem) : Prop := (∀ r, r < 6 → M.1 76 r = -1 ∨ ∃ n, n ≤ 40 ∧ M.1 76 r = nI n) ∧ ∀ t, t < 4 → M.1 79 t = -1 ∨ ∃ n, n ≤ 120 ∧ M.1 79 t = nI n
theorem m_in {x i : Int32} {N : Nat} (hs : x = -1 ∨ ∃ n, n ≤ N ∧ x = nI n) (hN : N < 2 ^ 31) (h : 0 ≤ i ∧ i ≤ x - 1) : 0 ≤ i ∧ i.toNatClampNeg < N ∧ i < x := by
  obtain ⟨h1, h2⟩ := h
  rcases hs with rfl | ⟨n, hn, rfl⟩
  · exfalso; revert h1 h2; simp only [Int32.le_iff_toInt_le, Int32.reduceToInt, Int32.reduceSub]; omega
  · cases n with
    | zero => exfalso; revert h1 h2; simp only [nI_0, Int32.le_iff_toInt_le, Int32.reduceToInt, Int32.reduceSub]; omega
    | succ n =>
      rw [nI_pred] at h2
      obtain ⟨j, hj, rfl⟩ := nI_of (i_n0 h1)
      rw [nI_leI hj (by omega)] at h2
      refine ⟨h1, by rw [nI_clamp hj]; omega, nI_lt (by omega) (by omega)⟩

set_option maxRecDepth 100000 in
theorem c_X11_lay {E : xE} {M : xMem} {r i v : Int32} (hM : xNT ≤ xN M) (hW : xWire M.2.1) (hz : mszOK M) : Cf E mX11_lay [.ref 74, .int r, .int i, .int v] M (some (.int (if ¬ (0 ≤ r ∧ r ≤ 5) then -1 else if ¬ 0 ≤ M.1 76 r.toNatClampNeg then -3 else if ¬ (0 ≤ i ∧ i ≤ M.1 76 r.toNatClampNeg - 1) then -3 else 1))) (if ¬ (0 ≤ r ∧ r ≤ 5) then M else if ¬ 0 ≤ M.1 76 r.toNatClampNeg then mref M 1 else if ¬ (0 ≤ i ∧ i ≤ M.1 76 r.toNatClampNeg - 1) then mref M 2 else mtel (wI M 77 (40 * r.toNatClampNeg + i.toNatClampNeg) v) (M.1 77 (40 * r.toNatClampNeg + i.toNatClampNeg))) := by
  refine Ct.of (lo := [some (.ref 74), some (.int r), some (.int i), some (.int v), none]) pln_X11 (Nat.le_of_ble_eq_true rfl) rfl (Nat.le_refl _) ?_
  refine px_iload_n dX11_lay_0 rfl rfl ?_
  refine px_fS1i dX11_lay_1 kX11_lay_79 (Nat.le_of_ble_eq_true rfl) (c_X11_isRow) ?_
  refine px_zif_ne 9 dX11_lay_4 rfl (fun h4 => ?_) (fun h4 => ?_)
  · have rl : r.toNatClampNeg ≤ 5 := n_lt (k := 5) rfl h4.2
    have hri : vp_in r 6 := i_idx (n := 6) h4.1 (by have := h4.2; (simp only [Int32.le_iff_toInt_le, Int32.lt_iff_toInt_lt, ← Int32.toInt_inj, Int32.reduceToInt] at *; omega)) (by decide)
    refine px_aload_n dX11_lay_9 rfl rfl ?_
    refine px_getR dX11_lay_10 fX11_13 (xol rfl) hM rfl (wr_11_3 hW (xol rfl)) (Nat.succ_pos _) ?_
    refine px_iload_n dX11_lay_13 rfl rfl ?_
    refine px_iald dX11_lay_14 (xal (n := 6) rfl) hM hri ?_
    refine px_if_ge 24 dX11_lay_15 rfl (fun h15 => ?_) (fun h15 => ?_)
    · refine px_iload_n dX11_lay_24 rfl rfl ?_
      refine px_iconst dX11_lay_25 ic_0 ?_
      refine px_aload_n dX11_lay_26 rfl rfl ?_
      refine px_getR dX11_lay_27 fX11_13 (xol rfl) hM rfl (wr_11_3 hW (xol rfl)) (Nat.succ_pos _) ?_
      refine px_iload_n dX11_lay_30 rfl rfl ?_
      refine px_iald dX11_lay_31 (xal (n := 6) rfl) hM hri ?_
      refine px_iconst dX11_lay_32 ic_1 ?_
      refine px_isub dX11_lay_33 ?_
      refine px_fS3i dX11_lay_34 kX11_lay_75 (Nat.le_of_ble_eq_true rfl) (c_X11_in) ?_
      refine px_zif_ne 46 dX11_lay_37 rfl (fun h37 => ?_) (fun h37 => ?_)
      · have hi := m_in (hz.1 _ (by omega)) (by decide) h37
        refine px_aload_n dX11_lay_46 rfl rfl ?_
        refine px_iload_n dX11_lay_47 rfl rfl ?_
        refine px_iload_n dX11_lay_48 rfl rfl ?_
        refine px_fV2i dX11_lay_49 kX11_lay_87 (xol rfl) hM (Nat.le_of_ble_eq_true rfl) (c_X11_rowAt hM hW h4.1 h37.1 (by have := hi.2.1; omega)) ?_
        refine px_si_4 dX11_lay_52 rfl ?_
        refine px_aload_n dX11_lay_54 rfl rfl ?_
        refine px_getR dX11_lay_55 fX11_16 (xol rfl) hM rfl (wr_11_4 hW (xol rfl)) (Nat.succ_pos _) ?_
        refine px_bipush dX11_lay_58 bp_40 ?_
        refine px_iload_n dX11_lay_60 rfl rfl ?_
        refine px_imul dX11_lay_61 ?_
        refine px_iload_n dX11_lay_62 rfl rfl ?_
        refine px_iadd dX11_lay_63 ?_
        refine px_top (ix_ma (c := 40) h4.1 h37.1) ?_
        refine px_iload_n dX11_lay_64 rfl rfl ?_
        refine px_iast dX11_lay_65 (xal (n := 240) rfl) hM (vp_in_nI (by have := hi.2.1; omega) (by decide)) ?_
        refine px_aload_n dX11_lay_66 rfl rfl ?_
        refine px_iload dX11_lay_67 rfl ?_
        refine px_iconst dX11_lay_69 ic_1 ?_
        refine px_fV2i dX11_lay_70 kX11_lay_91 (xol rfl) hM (Nat.le_of_ble_eq_true rfl) (c_X11_tells hM) ?_
        exact px_iret dX11_lay_73 rfl ⟨by simp only [h4, h15, h37, not_true_eq_false, not_false_eq_true, if_true, if_false, and_self, or_true, true_or, or_false, false_or, true_and, and_true, false_and, and_false, reduceIte], by simp only [h4, h15, h37, not_true_eq_false, not_false_eq_true, if_true, if_false, and_self, or_true, true_or, or_false, false_or, true_and, and_true, false_and, and_false, reduceIte]; rw [nI_clamp (by have := hi.2.1; omega)]⟩ (rfl)
      · refine px_aload_n dX11_lay_40 rfl rfl ?_
        refine px_iconst dX11_lay_41 ic_2 ?_
        refine px_fV1i dX11_lay_42 kX11_lay_83 (xol rfl) hM (Nat.le_of_ble_eq_true rfl) (c_X11_found hM hW (by unfold vp_in; decide)) ?_
        exact px_iret dX11_lay_45 rfl ⟨by first | rfl | (simp only [h4, h15, h37, not_true_eq_false, not_false_eq_true, if_true, if_false, and_self, or_true, true_or, or_false, false_or, true_and, and_true, false_and, and_false, reduceIte]), by first | rfl | (simp only [h4, h15, h37, not_true_eq_false, not_false_eq_true, if_true, if_false, and_self, or_true, true_or, or_false, false_or, true_and, and_true, false_and, and_false, reduceIte])⟩ (rfl)
    · refine px_aload_n dX11_lay_18 rfl rfl ?_
      refine px_iconst dX11_lay_19 ic_1 ?_
      refine px_fV1i dX11_lay_20 kX11_lay_83 (xol rfl) hM (Nat.le_of_ble_eq_true rfl) (c_X11_found hM hW (by unfold vp_in; decide)) ?_
      exact px_iret dX11_lay_23 rfl ⟨by first | rfl | (simp only [h4, h15, not_true_eq_false, not_false_eq_true, if_true, if_false, and_self, or_true, true_or, or_false, false_or, true_and, and_true, false_and, and_false, reduceIte]), by first | rfl | (simp only [h4, h15, not_true_eq_false, not_false_eq_true, if_true, if_false, and_self, or_true, true_or, or_false, false_or, true_and, and_true, false_and, and_false, reduceIte])⟩ (rfl)
  · refine px_iconst dX11_lay_7 ic_m1 ?_
    exact px_iret dX11_lay_8 rfl ⟨by first | rfl | (simp only [h4, not_true_eq_false, not_false_eq_true, if_true, if_false, and_self, or_true, true_or, or_false, false_or, true_and, and_true, false_and, and_false, reduceIte]), by first | rfl | (simp only [h4, not_true_eq_false, not_false_eq_true, if_true, if_false, and_self, or_true, true_or, or_false, false_or, true_and, and_true, false_and, and_false, reduceIte])⟩ (rfl)

set_option maxRecDepth 100000 in
theorem c_X11_at {E : xE} {M : xMem} {r i : Int32} (hM : xNT ≤ xN M) (hW : xWire M.2.1) (hz : mszOK M) : Cf E mX11_at [.ref 74, .int r, .int i] M (some (.int (if ¬ (0 ≤ r ∧ r ≤ 5) then -1 else if ¬ 0 ≤ M.1 76 r.toNatClampNeg then -3 else if ¬ (0 ≤ i ∧ i ≤ M.1 76 r.toNatClampNeg - 1) then -3 else 1))) (if ¬ (0 ≤ r ∧ r ≤ 5) then M else if ¬ 0 ≤ M.1 76 r.toNatClampNeg then mref M 1 else if ¬ (0 ≤ i ∧ i ≤ M.1 76 r.toNatClampNeg - 1) then mref M 2 else mtel M (M.1 77 (40 * r.toNatClampNeg + i.toNatClampNeg))) := by
  refine Ct.of (lo := [some (.ref 74), some (.int r), some (.int i)]) pln_X11 (Nat.le_of_ble_eq_true rfl) rfl (Nat.le_refl _) ?_
  refine px_iload_n dX11_at_0 rfl rfl ?_
  refine px_fS1i dX11_at_1 kX11_at_79 (Nat.le_of_ble_eq_true rfl) (c_X11_isRow) ?_
  refine px_zif_ne 9 dX11_at_4 rfl (fun h4 => ?_) (fun h4 => ?_)
  · have rl : r.toNatClampNeg ≤ 5 := n_lt (k := 5) rfl h4.2
    have hri : vp_in r 6 := i_idx (n := 6) h4.1 (by have := h4.2; (simp only [Int32.le_iff_toInt_le, Int32.lt_iff_toInt_lt, ← Int32.toInt_inj, Int32.reduceToInt] at *; omega)) (by decide)
    refine px_aload_n dX11_at_9 rfl rfl ?_
    refine px_getR dX11_at_10 fX11_13 (xol rfl) hM rfl (wr_11_3 hW (xol rfl)) (Nat.succ_pos _) ?_
    refine px_iload_n dX11_at_13 rfl rfl ?_
    refine px_iald dX11_at_14 (xal (n := 6) rfl) hM hri ?_
    refine px_if_ge 24 dX11_at_15 rfl (fun h15 => ?_) (fun h15 => ?_)
    · refine px_iload_n dX11_at_24 rfl rfl ?_
      refine px_iconst dX11_at_25 ic_0 ?_
      refine px_aload_n dX11_at_26 rfl rfl ?_
      refine px_getR dX11_at_27 fX11_13 (xol rfl) hM rfl (wr_11_3 hW (xol rfl)) (Nat.succ_pos _) ?_
      refine px_iload_n dX11_at_30 rfl rfl ?_
      refine px_iald dX11_at_31 (xal (n := 6) rfl) hM hri ?_
      refine px_iconst dX11_at_32 ic_1 ?_
      refine px_isub dX11_at_33 ?_
      refine px_fS3i dX11_at_34 kX11_at_75 (Nat.le_of_ble_eq_true rfl) (c_X11_in) ?_
      refine px_zif_eq 54 dX11_at_37 rfl (fun h37 => ?_) (fun h37 => ?_)
      · refine px_aload_n dX11_at_54 rfl rfl ?_
        refine px_iconst dX11_at_55 ic_2 ?_
        refine px_fV1i dX11_at_56 kX11_at_83 (xol rfl) hM (Nat.le_of_ble_eq_true rfl) (c_X11_found hM hW (by unfold vp_in; decide)) ?_
        exact px_iret dX11_at_59 rfl ⟨by first | rfl | (simp only [h4, h15, h37, not_true_eq_false, not_false_eq_true, if_true, if_false, and_self, or_true, true_or, or_false, false_or, true_and, and_true, false_and, and_false, reduceIte]), by first | rfl | (simp only [h4, h15, h37, not_true_eq_false, not_false_eq_true, if_true, if_false, and_self, or_true, true_or, or_false, false_or, true_and, and_true, false_and, and_false, reduceIte])⟩ (rfl)
      · have hi := m_in (hz.1 _ (by omega)) (by decide) h37
        refine px_aload_n dX11_at_40 rfl rfl ?_
        refine px_aload_n dX11_at_41 rfl rfl ?_
        refine px_iload_n dX11_at_42 rfl rfl ?_
        refine px_iload_n dX11_at_43 rfl rfl ?_
        refine px_fV2i dX11_at_44 kX11_at_87 (xol rfl) hM (Nat.le_of_ble_eq_true rfl) (c_X11_rowAt hM hW h4.1 h37.1 (by have := hi.2.1; omega)) ?_
        refine px_iconst dX11_at_47 ic_1 ?_
        refine px_fV2i dX11_at_48 kX11_at_91 (xol rfl) hM (Nat.le_of_ble_eq_true rfl) (c_X11_tells hM) ?_
        refine px_goto 59 dX11_at_51 rfl ?_
        exact px_iret dX11_at_59 rfl ⟨by first | rfl | (simp only [h4, h15, h37, not_true_eq_false, not_false_eq_true, if_true, if_false, and_self, or_true, true_or, or_false, false_or, true_and, and_true, false_and, and_false, reduceIte]), by first | rfl | (simp only [h4, h15, h37, not_true_eq_false, not_false_eq_true, if_true, if_false, and_self, or_true, true_or, or_false, false_or, true_and, and_true, false_and, and_false, reduceIte])⟩ (rfl)
    · refine px_aload_n dX11_at_18 rfl rfl ?_
      refine px_iconst dX11_at_19 ic_1 ?_
      refine px_fV1i dX11_at_20 kX11_at_83 (xol rfl) hM (Nat.le_of_ble_eq_true rfl) (c_X11_found hM hW (by unfold vp_in; decide)) ?_
      exact px_iret dX11_at_23 rfl ⟨by first | rfl | (simp only [h4, h15, not_true_eq_false, not_false_eq_true, if_true, if_false, and_self, or_true, true_or, or_false, false_or, true_and, and_true, false_and, and_false, reduceIte]), by first | rfl | (simp only [h4, h15, not_true_eq_false, not_false_eq_true, if_true, if_false, and_self, or_true, true_or, or_false, false_or, true_and, and_true, false_and, and_false, reduceIte])⟩ (rfl)
  · refine px_iconst dX11_at_7 ic_m1 ?_
    exact px_iret dX11_at_8 rfl ⟨by first | rfl | (simp only [h4, not_true_eq_false, not_false_eq_true, if_true, if_false, and_self, or_true, true_or, or_false, false_or, true_and, and_true, false_and, and_false, reduceIte]), by first | rfl | (simp only [h4, not_true_eq_false, not_false_eq_true, if_true, if_false, and_self, or_true, true_or, or_false, false_or, true_and, and_true, false_and, and_false, reduceIte])⟩ (rfl)

set_option maxRecDepth 100000 in
theorem c_X11_tear {E : xE} {M : xMem} {r : Int32} (hM : xNT ≤ xN M) (hW : xWire M.2.1) : Cf E mX11_tear [.ref 74, .int r] M (some (.int (if ¬ (0 ≤ r ∧ r ≤ 5) then -1 else if ¬ 0 ≤ M.1 76 r.toNatClampNeg then -3 else 1))) (if ¬ (0 ≤ r ∧ r ≤ 5) then M else if ¬ 0 ≤ M.1 76 r.toNatClampNeg then mref M 1 else wI M 76 r.toNatClampNeg (-1)) := by
  refine Ct.of (lo := [some (.ref 74), some (.int r)]) pln_X11 (Nat.le_of_ble_eq_true rfl) rfl (Nat.le_refl _) ?_
  refine px_iload_n dX11_tear_0 rfl rfl ?_
  refine px_fS1i dX11_tear_1 kX11_tear_79 (Nat.le_of_ble_eq_true rfl) (c_X11_isRow) ?_
  refine px_zif_ne 9 dX11_tear_4 rfl (fun h4 => ?_) (fun h4 => ?_)
  · have rl : r.toNatClampNeg ≤ 5 := n_lt (k := 5) rfl h4.2
    have hri : vp_in r 6 := i_idx (n := 6) h4.1 (by have := h4.2; (simp only [Int32.le_iff_toInt_le, Int32.lt_iff_toInt_lt, ← Int32.toInt_inj, Int32.reduceToInt] at *; omega)) (by decide)
    refine px_aload_n dX11_tear_9 rfl rfl ?_
    refine px_getR dX11_tear_10 fX11_13 (xol rfl) hM rfl (wr_11_3 hW (xol rfl)) (Nat.succ_pos _) ?_
    refine px_iload_n dX11_tear_13 rfl rfl ?_
    refine px_iald dX11_tear_14 (xal (n := 6) rfl) hM hri ?_
    refine px_if_ge 24 dX11_tear_15 rfl (fun h15 => ?_) (fun h15 => ?_)
    · refine px_aload_n dX11_tear_24 rfl rfl ?_
      refine px_getR dX11_tear_25 fX11_13 (xol rfl) hM rfl (wr_11_3 hW (xol rfl)) (Nat.succ_pos _) ?_
      refine px_iload_n dX11_tear_28 rfl rfl ?_
      refine px_iconst dX11_tear_29 ic_m1 ?_
      refine px_iast dX11_tear_30 (xal (n := 6) rfl) hM hri ?_
      refine px_iconst dX11_tear_31 ic_1 ?_
      exact px_iret dX11_tear_32 rfl ⟨by first | rfl | (simp only [h4, h15, not_true_eq_false, not_false_eq_true, if_true, if_false, and_self, or_true, true_or, or_false, false_or, true_and, and_true, false_and, and_false, reduceIte]), by first | rfl | (simp only [h4, h15, not_true_eq_false, not_false_eq_true, if_true, if_false, and_self, or_true, true_or, or_false, false_or, true_and, and_true, false_and, and_false, reduceIte])⟩ (rfl)
    · refine px_aload_n dX11_tear_18 rfl rfl ?_
      refine px_iconst dX11_tear_19 ic_1 ?_
      refine px_fV1i dX11_tear_20 kX11_tear_83 (xol rfl) hM (Nat.le_of_ble_eq_true rfl) (c_X11_found hM hW (by unfold vp_in; decide)) ?_
      exact px_iret dX11_tear_23 rfl ⟨by first | rfl | (simp only [h4, h15, not_true_eq_false, not_false_eq_true, if_true, if_false, and_self, or_true, true_or, or_false, false_or, true_and, and_true, false_and, and_false, reduceIte]), by first | rfl | (simp only [h4, h15, not_true_eq_false, not_false_eq_true, if_true, if_false, and_self, or_true, true_or, or_false, false_or, true_and, and_true, false_and, and_false, reduceIte])⟩ (rfl)
  · refine px_iconst dX11_tear_7 ic_m1 ?_
    exact px_iret dX11_tear_8 rfl ⟨by first | rfl | (simp only [h4, not_true_eq_false, not_false_eq_true, if_true, if_false, and_self, or_true, true_or, or_false, false_or, true_and, and_true, false_and, and_false, reduceIte]), by first | rfl | (simp only [h4, not_true_eq_false, not_false_eq_true, if_true, if_false, and_self, or_true, true_or, or_false, false_or, true_and, and_true, false_and, and_false, reduceIte])⟩ (rfl)

set_option maxRecDepth 100000 in
theorem c_X11_put {E : xE} {M : xMem} {t i v : Int32} (hM : xNT ≤ xN M) (hW : xWire M.2.1) (hz : mszOK M) : Cf E mX11_put [.ref 74, .int t, .int i, .int v] M (some (.int (if ¬ (0 ≤ t ∧ t ≤ 3) then -1 else if ¬ 0 ≤ M.1 79 t.toNatClampNeg then -3 else if ¬ (0 ≤ i ∧ i ≤ M.1 79 t.toNatClampNeg - 1) then -3 else 1000 + M.1 80 (120 * t.toNatClampNeg + i.toNatClampNeg)))) (if ¬ (0 ≤ t ∧ t ≤ 3) then M else if ¬ 0 ≤ M.1 79 t.toNatClampNeg then mref M 1 else if ¬ (0 ≤ i ∧ i ≤ M.1 79 t.toNatClampNeg - 1) then mref M 2 else wI M 80 (120 * t.toNatClampNeg + i.toNatClampNeg) v.toInt8.toInt32) := by
  refine Ct.of (lo := [some (.ref 74), some (.int t), some (.int i), some (.int v), none]) pln_X11 (Nat.le_of_ble_eq_true rfl) rfl (Nat.le_refl _) ?_
  refine px_iload_n dX11_put_0 rfl rfl ?_
  refine px_fS1i dX11_put_1 kX11_put_94 (Nat.le_of_ble_eq_true rfl) (c_X11_isText) ?_
  refine px_zif_ne 9 dX11_put_4 rfl (fun h4 => ?_) (fun h4 => ?_)
  · have tl : t.toNatClampNeg ≤ 3 := n_lt (k := 3) rfl h4.2
    have hti : vp_in t 4 := i_idx (n := 4) h4.1 (by have := h4.2; (simp only [Int32.le_iff_toInt_le, Int32.lt_iff_toInt_lt, ← Int32.toInt_inj, Int32.reduceToInt] at *; omega)) (by decide)
    refine px_aload_n dX11_put_9 rfl rfl ?_
    refine px_getR dX11_put_10 fX11_22 (xol rfl) hM rfl (wr_11_6 hW (xol rfl)) (Nat.succ_pos _) ?_
    refine px_iload_n dX11_put_13 rfl rfl ?_
    refine px_iald dX11_put_14 (xal (n := 4) rfl) hM hti ?_
    refine px_if_ge 24 dX11_put_15 rfl (fun h15 => ?_) (fun h15 => ?_)
    · refine px_iload_n dX11_put_24 rfl rfl ?_
      refine px_iconst dX11_put_25 ic_0 ?_
      refine px_aload_n dX11_put_26 rfl rfl ?_
      refine px_getR dX11_put_27 fX11_22 (xol rfl) hM rfl (wr_11_6 hW (xol rfl)) (Nat.succ_pos _) ?_
      refine px_iload_n dX11_put_30 rfl rfl ?_
      refine px_iald dX11_put_31 (xal (n := 4) rfl) hM hti ?_
      refine px_iconst dX11_put_32 ic_1 ?_
      refine px_isub dX11_put_33 ?_
      refine px_fS3i dX11_put_34 kX11_put_75 (Nat.le_of_ble_eq_true rfl) (c_X11_in) ?_
      refine px_zif_ne 46 dX11_put_37 rfl (fun h37 => ?_) (fun h37 => ?_)
      · have hi := m_in (hz.2 _ (by omega)) (by decide) h37
        refine px_aload_n dX11_put_46 rfl rfl ?_
        refine px_getR dX11_put_47 fX11_25 (xol rfl) hM rfl (wr_11_7 hW (xol rfl)) (Nat.succ_pos _) ?_
        refine px_bipush dX11_put_50 bp_120 ?_
        refine px_iload_n dX11_put_52 rfl rfl ?_
        refine px_imul dX11_put_53 ?_
        refine px_iload_n dX11_put_54 rfl rfl ?_
        refine px_iadd dX11_put_55 ?_
        refine px_top (ix_ma (c := 120) h4.1 h37.1) ?_
        refine px_bald dX11_put_56 (xal (n := 480) rfl) hM (vp_in_nI (by have := hi.2.1; omega) (by decide)) ?_
        refine px_si_4 dX11_put_57 rfl ?_
        refine px_aload_n dX11_put_59 rfl rfl ?_
        refine px_getR dX11_put_60 fX11_25 (xol rfl) hM rfl (wr_11_7 hW (xol rfl)) (Nat.succ_pos _) ?_
        refine px_bipush dX11_put_63 bp_120 ?_
        refine px_iload_n dX11_put_65 rfl rfl ?_
        refine px_imul dX11_put_66 ?_
        refine px_iload_n dX11_put_67 rfl rfl ?_
        refine px_iadd dX11_put_68 ?_
        refine px_top (ix_ma (c := 120) h4.1 h37.1) ?_
        refine px_iload_n dX11_put_69 rfl rfl ?_
        refine px_i2b dX11_put_70 ?_
        refine px_bast dX11_put_71 (xal (n := 480) rfl) hM (vp_in_nI (by have := hi.2.1; omega) (by decide)) ?_
        refine px_sipush dX11_put_72 sp_1000 ?_
        refine px_iload dX11_put_75 rfl ?_
        refine px_iadd dX11_put_77 ?_
        exact px_iret dX11_put_78 rfl ⟨by simp only [h4, h15, h37, not_true_eq_false, not_false_eq_true, if_true, if_false, and_self, or_true, true_or, or_false, false_or, true_and, and_true, false_and, and_false, reduceIte]; rw [nI_clamp (by have := hi.2.1; omega)], by simp only [h4, h15, h37, not_true_eq_false, not_false_eq_true, if_true, if_false, and_self, or_true, true_or, or_false, false_or, true_and, and_true, false_and, and_false, reduceIte]; rw [pk_vb, nI_clamp (by have := hi.2.1; omega)]⟩ (rfl)
      · refine px_aload_n dX11_put_40 rfl rfl ?_
        refine px_iconst dX11_put_41 ic_2 ?_
        refine px_fV1i dX11_put_42 kX11_put_83 (xol rfl) hM (Nat.le_of_ble_eq_true rfl) (c_X11_found hM hW (by unfold vp_in; decide)) ?_
        exact px_iret dX11_put_45 rfl ⟨by first | rfl | (simp only [h4, h15, h37, not_true_eq_false, not_false_eq_true, if_true, if_false, and_self, or_true, true_or, or_false, false_or, true_and, and_true, false_and, and_false, reduceIte]), by first | rfl | (simp only [h4, h15, h37, not_true_eq_false, not_false_eq_true, if_true, if_false, and_self, or_true, true_or, or_false, false_or, true_and, and_true, false_and, and_false, reduceIte])⟩ (rfl)
    · refine px_aload_n dX11_put_18 rfl rfl ?_
      refine px_iconst dX11_put_19 ic_1 ?_
      refine px_fV1i dX11_put_20 kX11_put_83 (xol rfl) hM (Nat.le_of_ble_eq_true rfl) (c_X11_found hM hW (by unfold vp_in; decide)) ?_
      exact px_iret dX11_put_23 rfl ⟨by first | rfl | (simp only [h4, h15, not_true_eq_false, not_false_eq_true, if_true, if_false, and_self, or_true, true_or, or_false, false_or, true_and, and_true, false_and, and_false, reduceIte]), by first | rfl | (simp only [h4, h15, not_true_eq_false, not_false_eq_true, if_true, if_false, and_self, or_true, true_or, or_false, false_or, true_and, and_true, false_and, and_false, reduceIte])⟩ (rfl)
  · refine px_iconst dX11_put_7 ic_m1 ?_
    exact px_iret dX11_put_8 rfl ⟨by first | rfl | (simp only [h4, not_true_eq_false, not_false_eq_true, if_true, if_false, and_self, or_true, true_or, or_false, false_or, true_and, and_true, false_and, and_false, reduceIte]), by first | rfl | (simp only [h4, not_true_eq_false, not_false_eq_true, if_true, if_false, and_self, or_true, true_or, or_false, false_or, true_and, and_true, false_and, and_false, reduceIte])⟩ (rfl)

set_option maxRecDepth 100000 in
theorem l_X11_mean {E : xE} {M : xMem} {r : Int32} {N : Nat} (hM : xNT ≤ xN M) (hW : xWire M.2.1) (h1 : 0 ≤ r) (rl : r.toNatClampNeg ≤ 5) (hri : vp_in r 6) (hN : N ≤ 40) (hs : M.1 76 r.toNatClampNeg = nI N) (h0 : ¬ nI N = 0) : PR E mX11_mean (xN M) 44 [some (.ref 74), some (.int r), some (.long (sumL (fun k => M.1 77 (40 * r.toNatClampNeg + k)) 0)), none, some (.int (nI 0))] [] (M) (fun r' m => r' = some (.int 1) ∧ m = mtel M (sumL (fun k => M.1 77 (40 * r.toNatClampNeg + k)) N / (nI N).toInt64).toInt32) := by
  refine px_for (P := fun i => PR E mX11_mean (xN M) 44 [some (.ref 74), some (.int r), some (.long (sumL (fun k => M.1 77 (40 * r.toNatClampNeg + k)) i)), none, some (.int (nI i))] [] (M) (fun r' m => r' = some (.int 1) ∧ m = mtel M (sumL (fun k => M.1 77 (40 * r.toNatClampNeg + k)) N / (nI N).toInt64).toInt32)) (N) (fun i hi nx => ?_) (0) (by omega)
  refine px_iload dX11_mean_44 rfl ?_
  refine px_aload_n dX11_mean_46 rfl rfl ?_
  refine px_getR dX11_mean_47 fX11_13 (xol rfl) hM rfl (wr_11_3 hW (xol rfl)) (Nat.succ_pos _) ?_
  refine px_iload_n dX11_mean_50 rfl rfl ?_
  refine px_iald dX11_mean_51 (xal (n := 6) rfl) hM hri ?_
  rw [hs]
  refine px_icmp_ge 72 dX11_mean_52 rfl (fun h52 => ?_) (fun h52 => ?_)
  · have hi2 : i = N := by rw [nI_leI (by omega) (by omega)] at h52; omega
    refine px_aload_n dX11_mean_72 rfl rfl ?_
    refine px_lload_n dX11_mean_73 rfl rfl ?_
    refine px_aload_n dX11_mean_74 rfl rfl ?_
    refine px_getR dX11_mean_75 fX11_13 (xol rfl) hM rfl (wr_11_3 hW (xol rfl)) (Nat.succ_pos _) ?_
    refine px_iload_n dX11_mean_78 rfl rfl ?_
    refine px_iald dX11_mean_79 (xal (n := 6) rfl) hM hri ?_
    rw [hs]
    refine px_i2l dX11_mean_80 ?_
    refine px_ldiv dX11_mean_81 (nz64 (by omega) h0) ?_
    refine px_l2i dX11_mean_82 ?_
    refine px_iconst dX11_mean_83 ic_1 ?_
    refine px_fV2i dX11_mean_84 kX11_mean_91 (xol rfl) hM (Nat.le_of_ble_eq_true rfl) (c_X11_tells hM) ?_
    exact px_iret dX11_mean_87 rfl ⟨rfl, by rw [hi2]⟩ (rfl)
  · have hlt : i < N := by rw [nI_leI (by omega) (by omega)] at h52; omega
    refine px_lload_n dX11_mean_55 rfl rfl ?_
    refine px_aload_n dX11_mean_56 rfl rfl ?_
    refine px_iload_n dX11_mean_57 rfl rfl ?_
    refine px_iload dX11_mean_58 rfl ?_
    refine px_fV2i dX11_mean_60 kX11_mean_87 (xol rfl) hM (Nat.le_of_ble_eq_true rfl) (c_X11_rowAt (i := nI i) hM hW h1 (nI_pos' (by omega)) (by rw [nI_clamp (by omega)]; omega)) ?_
    refine px_i2l dX11_mean_63 ?_
    refine px_ladd dX11_mean_64 ?_
    refine px_sl_2 dX11_mean_65 rfl ?_
    refine px_inc_4 dX11_mean_66 rfl ic_1 ?_
    refine px_goto 44 dX11_mean_69 rfl ?_
    exact px_eq (by rw [nI_1, nI_clamp (by omega)]; rfl) rfl (nx hlt)

set_option maxRecDepth 100000 in
theorem c_X11_mean {E : xE} {M : xMem} {r : Int32} (hM : xNT ≤ xN M) (hW : xWire M.2.1) (hz : mszOK M) : Cf E mX11_mean [.ref 74, .int r] M (some (.int (if ¬ (0 ≤ r ∧ r ≤ 5) then -1 else if ¬ 0 ≤ M.1 76 r.toNatClampNeg then -3 else if M.1 76 r.toNatClampNeg = 0 then -3 else 1))) (if ¬ (0 ≤ r ∧ r ≤ 5) then M else if ¬ 0 ≤ M.1 76 r.toNatClampNeg then mref M 1 else if M.1 76 r.toNatClampNeg = 0 then mref M 4 else mtel M (sumL (fun k => M.1 77 (40 * r.toNatClampNeg + k)) (M.1 76 r.toNatClampNeg).toNatClampNeg / (M.1 76 r.toNatClampNeg).toInt64).toInt32) := by
  refine Ct.of (lo := [some (.ref 74), some (.int r), none, none, none]) pln_X11 (Nat.le_of_ble_eq_true rfl) rfl (Nat.le_refl _) ?_
  refine px_iload_n dX11_mean_0 rfl rfl ?_
  refine px_fS1i dX11_mean_1 kX11_mean_79 (Nat.le_of_ble_eq_true rfl) (c_X11_isRow) ?_
  refine px_zif_ne 9 dX11_mean_4 rfl (fun h4 => ?_) (fun h4 => ?_)
  · have rl : r.toNatClampNeg ≤ 5 := n_lt (k := 5) rfl h4.2
    have hri : vp_in r 6 := i_idx (n := 6) h4.1 (by have := h4.2; (simp only [Int32.le_iff_toInt_le, Int32.lt_iff_toInt_lt, ← Int32.toInt_inj, Int32.reduceToInt] at *; omega)) (by decide)
    refine px_aload_n dX11_mean_9 rfl rfl ?_
    refine px_getR dX11_mean_10 fX11_13 (xol rfl) hM rfl (wr_11_3 hW (xol rfl)) (Nat.succ_pos _) ?_
    refine px_iload_n dX11_mean_13 rfl rfl ?_
    refine px_iald dX11_mean_14 (xal (n := 6) rfl) hM hri ?_
    refine px_if_ge 24 dX11_mean_15 rfl (fun h15 => ?_) (fun h15 => ?_)
    · refine px_aload_n dX11_mean_24 rfl rfl ?_
      refine px_getR dX11_mean_25 fX11_13 (xol rfl) hM rfl (wr_11_3 hW (xol rfl)) (Nat.succ_pos _) ?_
      refine px_iload_n dX11_mean_28 rfl rfl ?_
      refine px_iald dX11_mean_29 (xal (n := 6) rfl) hM hri ?_
      refine px_if_ne 39 dX11_mean_30 rfl (fun h30 => ?_) (fun h30 => ?_)
      · refine px_lconst (v := 0) dX11_mean_39 (by decide) ?_
        refine px_sl_2 dX11_mean_40 rfl ?_
        refine px_iconst dX11_mean_41 ic_0 ?_
        refine px_si_4 dX11_mean_42 rfl ?_
        obtain ⟨N, hN, hs⟩ : ∃ n, n ≤ 40 ∧ M.1 76 r.toNatClampNeg = nI n := by
          rcases hz.1 r.toNatClampNeg (by omega) with e | e
          · rw [e] at h15; exact absurd h15 (by decide)
          · exact e
        exact px_q (fun _ _ q => ⟨by rw [q.1, if_neg (not_not_intro h4), if_neg (not_not_intro h15), if_neg h30], by rw [q.2, if_neg (not_not_intro h4), if_neg (not_not_intro h15), if_neg h30, hs, nI_clamp (by omega)]⟩) (l_X11_mean (E := E) hM hW h4.1 rl hri hN hs (by rw [← hs]; exact h30))
      · refine px_aload_n dX11_mean_33 rfl rfl ?_
        refine px_iconst dX11_mean_34 ic_4 ?_
        refine px_fV1i dX11_mean_35 kX11_mean_83 (xol rfl) hM (Nat.le_of_ble_eq_true rfl) (c_X11_found hM hW (by unfold vp_in; decide)) ?_
        exact px_iret dX11_mean_38 rfl ⟨by rw [if_neg (not_not_intro h4), if_neg (not_not_intro h15), if_pos h30], by rw [if_neg (not_not_intro h4), if_neg (not_not_intro h15), if_pos h30]⟩ (rfl)
    · refine px_aload_n dX11_mean_18 rfl rfl ?_
      refine px_iconst dX11_mean_19 ic_1 ?_
      refine px_fV1i dX11_mean_20 kX11_mean_83 (xol rfl) hM (Nat.le_of_ble_eq_true rfl) (c_X11_found hM hW (by unfold vp_in; decide)) ?_
      exact px_iret dX11_mean_23 rfl ⟨by first | rfl | (simp only [h4, h15, not_true_eq_false, not_false_eq_true, if_true, if_false, and_self, or_true, true_or, or_false, false_or, true_and, and_true, false_and, and_false, reduceIte]), by first | rfl | (simp only [h4, h15, not_true_eq_false, not_false_eq_true, if_true, if_false, and_self, or_true, true_or, or_false, false_or, true_and, and_true, false_and, and_false, reduceIte])⟩ (rfl)
  · refine px_iconst dX11_mean_7 ic_m1 ?_
    exact px_iret dX11_mean_8 rfl ⟨by first | rfl | (simp only [h4, not_true_eq_false, not_false_eq_true, if_true, if_false, and_self, or_true, true_or, or_false, false_or, true_and, and_true, false_and, and_false, reduceIte]), by first | rfl | (simp only [h4, not_true_eq_false, not_false_eq_true, if_true, if_false, and_self, or_true, true_or, or_false, false_or, true_and, and_true, false_and, and_false, reduceIte])⟩ (rfl)
