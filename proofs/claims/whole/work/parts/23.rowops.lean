/-! ===== the class's calls on rows and texts ===== -/
abbrev rA (r : Int32) : Nat := 42 + 2 * r.toNatClampNeg
abbrev tA (t : Int32) : Nat := 54 + 2 * t.toNatClampNeg
/-- rows and texts: their sizes -/
def szOK (M : xMem) : Prop := (∀ r, r < 6 → M.1 (42 + 2 * r) 1 = -1 ∨ ∃ n, n ≤ 40 ∧ M.1 (42 + 2 * r) 1 = nI n) ∧ ∀ t, t < 4 → M.1 (54 + 2 * t) 1 = -1 ∨ ∃ n, n ≤ 120 ∧ M.1 (54 + 2 * t) 1 = nI n
theorem r_lt {r : Int32} {k : Int32} {K : Nat} (hk : k.toNatClampNeg = K) (h : 0 ≤ r ∧ r < k) : r.toNatClampNeg < K := by rw [← hk]; exact i_lt h.1 h.2
theorem sz_in {M : xMem} {a : Nat} {N : Nat} {i : Int32} (hs : M.1 a 1 = -1 ∨ ∃ n, n ≤ N ∧ M.1 a 1 = nI n) (hN : N < 2 ^ 31) (h : 0 ≤ i ∧ i < M.1 a 1) : vp_in i N := by
  refine i_idx h.1 h.2 ?_
  rcases hs with e | ⟨n, hn, e⟩
  · rw [e]; exact Nat.zero_le _
  · rw [e, nI_clamp (by omega)]; exact hn
theorem n_le {a b : Int32} (h : a ≤ b) : ¬ b < a := by
  simp only [Int32.le_iff_toInt_le, Int32.lt_iff_toInt_lt] at *; omega

set_option maxRecDepth 100000 in
theorem c_X10_row {E : xE} {M : xMem} {r n : Int32} (hM : xNT ≤ xN M) (hW : xWire M.2.1) : Cf E mX10_row [.ref 1, .int r, .int n] M (some (.int (if ¬ (0 ≤ r ∧ r < 6) then -1 else if ¬ n ≤ 40 then -1 else if ¬ 0 ≤ n then -3 else n))) (if ¬ (0 ≤ r ∧ r < 6) then M else if ¬ n ≤ 40 then M else if ¬ 0 ≤ n then refM M 5 else renM M (rA r) n 0) := by
  refine Ct.of (lo := [some (.ref 1), some (.int r), some (.int n)]) pln_X10 (Nat.le_of_ble_eq_true rfl) rfl (Nat.le_refl _) ?_
  refine px_iload_n dX10_row_0 rfl rfl ?_
  refine px_bipush dX10_row_1 bp_6 ?_
  refine px_fS2i dX10_row_3 kX10_row_84 (Nat.le_of_ble_eq_true rfl) (c_X10_isBelow) ?_
  refine px_zif_eq 15 dX10_row_6 rfl (fun h6 => ?_) (fun h6 => ?_)
  · refine px_iconst dX10_row_15 ic_m1 ?_
    exact px_iret dX10_row_16 rfl ⟨by first | rfl | (simp only [h6, not_true_eq_false, not_false_eq_true, if_true, if_false, and_self, or_true, true_or, or_false, false_or, true_and, and_true, false_and, and_false, reduceIte]), by first | rfl | (simp only [h6, not_true_eq_false, not_false_eq_true, if_true, if_false, and_self, or_true, true_or, or_false, false_or, true_and, and_true, false_and, and_false, reduceIte])⟩ (rfl)
  · refine px_iload_n dX10_row_9 rfl rfl ?_
    refine px_bipush dX10_row_10 bp_40 ?_
    refine px_icmp_le 17 dX10_row_12 rfl (fun h12 => ?_) (fun h12 => ?_)
    · refine px_iload_n dX10_row_17 rfl rfl ?_
      refine px_if_ge 27 dX10_row_18 rfl (fun h18 => ?_) (fun h18 => ?_)
      · have rl : r.toNatClampNeg < 6 := r_lt (k := 6) rfl h6
        have hrow : xob (rA r) 5 := ob_row rl
        refine px_aload_n dX10_row_27 rfl rfl ?_
        refine px_getR dX10_row_28 fX10_11 (xol rfl) hM rfl (wr_10_0 hW (xol rfl)) (Nat.succ_pos _) ?_
        refine px_iload_n dX10_row_31 rfl rfl ?_
        refine px_aald (t0 := 3) dX10_row_32 (xal (n := 6) rfl) (by decide) (fun _ => rfl) hM (i_idx h6.1 h6.2 (by decide)) (wa_2 hW rl) (by omega) ?_
        refine px_iload_n dX10_row_33 rfl rfl ?_
        refine px_fV1v dX10_row_34 kX10_row_92 hrow hM (Nat.le_of_ble_eq_true rfl) (c_X5_renew hrow hM hW (n_le h18) (n_le h12)) ?_
        refine px_iload_n dX10_row_37 rfl rfl ?_
        exact px_iret dX10_row_38 rfl ⟨by first | rfl | (simp only [h6, h12, h18, not_true_eq_false, not_false_eq_true, if_true, if_false, and_self, or_true, true_or, or_false, false_or, true_and, and_true, false_and, and_false, reduceIte]), by first | rfl | (simp only [h6, h12, h18, not_true_eq_false, not_false_eq_true, if_true, if_false, and_self, or_true, true_or, or_false, false_or, true_and, and_true, false_and, and_false, reduceIte])⟩ (rfl)
      · refine px_aload_n dX10_row_21 rfl rfl ?_
        refine px_iconst dX10_row_22 ic_5 ?_
        refine px_fV1i dX10_row_23 kX10_row_88 (xol rfl) hM (Nat.le_of_ble_eq_true rfl) (c_X10_refuse hM hW (by unfold vp_in; decide)) ?_
        exact px_iret dX10_row_26 rfl ⟨by first | rfl | (simp only [h6, h12, h18, not_true_eq_false, not_false_eq_true, if_true, if_false, and_self, or_true, true_or, or_false, false_or, true_and, and_true, false_and, and_false, reduceIte]), by first | rfl | (simp only [h6, h12, h18, not_true_eq_false, not_false_eq_true, if_true, if_false, and_self, or_true, true_or, or_false, false_or, true_and, and_true, false_and, and_false, reduceIte])⟩ (rfl)
    · refine px_iconst dX10_row_15 ic_m1 ?_
      exact px_iret dX10_row_16 rfl ⟨by first | rfl | (simp only [h6, h12, not_true_eq_false, not_false_eq_true, if_true, if_false, and_self, or_true, true_or, or_false, false_or, true_and, and_true, false_and, and_false, reduceIte]), by first | rfl | (simp only [h6, h12, not_true_eq_false, not_false_eq_true, if_true, if_false, and_self, or_true, true_or, or_false, false_or, true_and, and_true, false_and, and_false, reduceIte])⟩ (rfl)

set_option maxRecDepth 100000 in
theorem c_X10_text {E : xE} {M : xMem} {t n : Int32} (hM : xNT ≤ xN M) (hW : xWire M.2.1) : Cf E mX10_text [.ref 1, .int t, .int n] M (some (.int (if ¬ (0 ≤ t ∧ t < 4) then -1 else if ¬ n ≤ 120 then -1 else if ¬ 0 ≤ n then -3 else n))) (if ¬ (0 ≤ t ∧ t < 4) then M else if ¬ n ≤ 120 then M else if ¬ 0 ≤ n then refM M 5 else renM M (tA t) n 32) := by
  refine Ct.of (lo := [some (.ref 1), some (.int t), some (.int n)]) pln_X10 (Nat.le_of_ble_eq_true rfl) rfl (Nat.le_refl _) ?_
  refine px_iload_n dX10_text_0 rfl rfl ?_
  refine px_iconst dX10_text_1 ic_4 ?_
  refine px_fS2i dX10_text_2 kX10_text_84 (Nat.le_of_ble_eq_true rfl) (c_X10_isBelow) ?_
  refine px_zif_eq 14 dX10_text_5 rfl (fun h5 => ?_) (fun h5 => ?_)
  · refine px_iconst dX10_text_14 ic_m1 ?_
    exact px_iret dX10_text_15 rfl ⟨by first | rfl | (simp only [h5, not_true_eq_false, not_false_eq_true, if_true, if_false, and_self, or_true, true_or, or_false, false_or, true_and, and_true, false_and, and_false, reduceIte]), by first | rfl | (simp only [h5, not_true_eq_false, not_false_eq_true, if_true, if_false, and_self, or_true, true_or, or_false, false_or, true_and, and_true, false_and, and_false, reduceIte])⟩ (rfl)
  · refine px_iload_n dX10_text_8 rfl rfl ?_
    refine px_bipush dX10_text_9 bp_120 ?_
    refine px_icmp_le 16 dX10_text_11 rfl (fun h11 => ?_) (fun h11 => ?_)
    · refine px_iload_n dX10_text_16 rfl rfl ?_
      refine px_if_ge 26 dX10_text_17 rfl (fun h17 => ?_) (fun h17 => ?_)
      · have tl : t.toNatClampNeg < 4 := r_lt (k := 4) rfl h5
        have htx : xob (tA t) 9 := ob_text tl
        refine px_aload_n dX10_text_26 rfl rfl ?_
        refine px_getR dX10_text_27 fX10_17 (xol rfl) hM rfl (wr_10_1 hW (xol rfl)) (Nat.succ_pos _) ?_
        refine px_iload_n dX10_text_30 rfl rfl ?_
        refine px_aald (t0 := 4) dX10_text_31 (xal (n := 4) rfl) (by decide) (fun _ => rfl) hM (i_idx h5.1 h5.2 (by decide)) (wa_3 hW tl) (by omega) ?_
        refine px_iload_n dX10_text_32 rfl rfl ?_
        refine px_fV1v dX10_text_33 kX10_text_122 htx hM (Nat.le_of_ble_eq_true rfl) (c_X9_renew htx hM hW (n_le h17) (n_le h11)) ?_
        refine px_iload_n dX10_text_36 rfl rfl ?_
        exact px_iret dX10_text_37 rfl ⟨by first | rfl | (simp only [h5, h11, h17, not_true_eq_false, not_false_eq_true, if_true, if_false, and_self, or_true, true_or, or_false, false_or, true_and, and_true, false_and, and_false, reduceIte]), by first | rfl | (simp only [h5, h11, h17, not_true_eq_false, not_false_eq_true, if_true, if_false, and_self, or_true, true_or, or_false, false_or, true_and, and_true, false_and, and_false, reduceIte])⟩ (rfl)
      · refine px_aload_n dX10_text_20 rfl rfl ?_
        refine px_iconst dX10_text_21 ic_5 ?_
        refine px_fV1i dX10_text_22 kX10_text_88 (xol rfl) hM (Nat.le_of_ble_eq_true rfl) (c_X10_refuse hM hW (by unfold vp_in; decide)) ?_
        exact px_iret dX10_text_25 rfl ⟨by first | rfl | (simp only [h5, h11, h17, not_true_eq_false, not_false_eq_true, if_true, if_false, and_self, or_true, true_or, or_false, false_or, true_and, and_true, false_and, and_false, reduceIte]), by first | rfl | (simp only [h5, h11, h17, not_true_eq_false, not_false_eq_true, if_true, if_false, and_self, or_true, true_or, or_false, false_or, true_and, and_true, false_and, and_false, reduceIte])⟩ (rfl)
    · refine px_iconst dX10_text_14 ic_m1 ?_
      exact px_iret dX10_text_15 rfl ⟨by first | rfl | (simp only [h5, h11, not_true_eq_false, not_false_eq_true, if_true, if_false, and_self, or_true, true_or, or_false, false_or, true_and, and_true, false_and, and_false, reduceIte]), by first | rfl | (simp only [h5, h11, not_true_eq_false, not_false_eq_true, if_true, if_false, and_self, or_true, true_or, or_false, false_or, true_and, and_true, false_and, and_false, reduceIte])⟩ (rfl)

set_option maxRecDepth 100000 in
theorem c_X10_lay {E : xE} {M : xMem} {r i v : Int32} (hM : xNT ≤ xN M) (hW : xWire M.2.1) (hz : szOK M) : Cf E mX10_lay [.ref 1, .int r, .int i, .int v] M (some (.int (if ¬ (0 ≤ r ∧ r < 6) then -1 else if M.1 (rA r) 1 = -1 then -3 else if ¬ (0 ≤ i ∧ i < M.1 (rA r) 1) then -3 else 1))) (if ¬ (0 ≤ r ∧ r < 6) then M else if M.1 (rA r) 1 = -1 then refM M 1 else if ¬ (0 ≤ i ∧ i < M.1 (rA r) 1) then refM M 2 else telM (wI M (rA r + 1) i.toNatClampNeg v) (M.1 (rA r + 1) i.toNatClampNeg)) := by
  refine Ct.of (lo := [some (.ref 1), some (.int r), some (.int i), some (.int v), none, none]) pln_X10 (Nat.le_of_ble_eq_true rfl) rfl (Nat.le_refl _) ?_
  refine px_iload_n dX10_lay_0 rfl rfl ?_
  refine px_bipush dX10_lay_1 bp_6 ?_
  refine px_fS2i dX10_lay_3 kX10_lay_84 (Nat.le_of_ble_eq_true rfl) (c_X10_isBelow) ?_
  refine px_zif_ne 11 dX10_lay_6 rfl (fun h6 => ?_) (fun h6 => ?_)
  · have rl : r.toNatClampNeg < 6 := r_lt (k := 6) rfl h6
    have hrow : xob (rA r) 5 := ob_row rl
    refine px_aload_n dX10_lay_11 rfl rfl ?_
    refine px_getR dX10_lay_12 fX10_11 (xol rfl) hM rfl (wr_10_0 hW (xol rfl)) (Nat.succ_pos _) ?_
    refine px_iload_n dX10_lay_15 rfl rfl ?_
    refine px_aald (t0 := 3) dX10_lay_16 (xal (n := 6) rfl) (by decide) (fun _ => rfl) hM (i_idx h6.1 h6.2 (by decide)) (wa_2 hW rl) (by omega) ?_
    refine px_sa_4 dX10_lay_17 rfl ?_
    refine px_aload dX10_lay_19 rfl ?_
    refine px_fV0i dX10_lay_21 kX10_lay_96 hrow hM (Nat.le_of_ble_eq_true rfl) (c_X5_isMissing hrow hM) ?_
    refine px_zif_eq 33 dX10_lay_24 rfl (fun h24 => ?_) (fun h24 => ?_)
    · refine px_iload_n dX10_lay_33 rfl rfl ?_
      refine px_aload dX10_lay_34 rfl ?_
      refine px_getI dX10_lay_36 fX10_100 hrow hM rfl ?_
      refine px_fS2i dX10_lay_39 kX10_lay_84 (Nat.le_of_ble_eq_true rfl) (c_X10_isBelow) ?_
      refine px_zif_ne 51 dX10_lay_42 rfl (fun h42 => ?_) (fun h42 => ?_)
      · have hi40 : vp_in i 40 := sz_in (hz.1 _ rl) (by decide) h42
        refine px_aload dX10_lay_51 rfl ?_
        refine px_getR dX10_lay_53 fX10_103 hrow hM rfl (wr_5_0 hW hrow) (Nat.succ_pos _) ?_
        refine px_iload_n dX10_lay_56 rfl rfl ?_
        refine px_iald dX10_lay_57 (ar_5 hrow) hM hi40 ?_
        refine px_si_5 dX10_lay_58 rfl ?_
        refine px_aload dX10_lay_60 rfl ?_
        refine px_getR dX10_lay_62 fX10_103 hrow hM rfl (wr_5_0 hW hrow) (Nat.succ_pos _) ?_
        refine px_iload_n dX10_lay_65 rfl rfl ?_
        refine px_iload_n dX10_lay_66 rfl rfl ?_
        refine px_iast dX10_lay_67 (ar_5 hrow) hM hi40 ?_
        refine px_aload_n dX10_lay_68 rfl rfl ?_
        refine px_iload dX10_lay_69 rfl ?_
        refine px_fV1i dX10_lay_71 kX10_lay_106 (xol rfl) hM (Nat.le_of_ble_eq_true rfl) (c_X10_tell hM) ?_
        exact px_iret dX10_lay_74 rfl ⟨by first | rfl | (simp only [h6, h24, h42, not_true_eq_false, not_false_eq_true, if_true, if_false, and_self, or_true, true_or, or_false, false_or, true_and, and_true, false_and, and_false, reduceIte]), by first | rfl | (simp only [h6, h24, h42, not_true_eq_false, not_false_eq_true, if_true, if_false, and_self, or_true, true_or, or_false, false_or, true_and, and_true, false_and, and_false, reduceIte])⟩ (rfl)
      · refine px_aload_n dX10_lay_45 rfl rfl ?_
        refine px_iconst dX10_lay_46 ic_2 ?_
        refine px_fV1i dX10_lay_47 kX10_lay_88 (xol rfl) hM (Nat.le_of_ble_eq_true rfl) (c_X10_refuse hM hW (by unfold vp_in; decide)) ?_
        exact px_iret dX10_lay_50 rfl ⟨by first | rfl | (simp only [h6, h24, h42, not_true_eq_false, not_false_eq_true, if_true, if_false, and_self, or_true, true_or, or_false, false_or, true_and, and_true, false_and, and_false, reduceIte]), by first | rfl | (simp only [h6, h24, h42, not_true_eq_false, not_false_eq_true, if_true, if_false, and_self, or_true, true_or, or_false, false_or, true_and, and_true, false_and, and_false, reduceIte])⟩ (rfl)
    · refine px_aload_n dX10_lay_27 rfl rfl ?_
      refine px_iconst dX10_lay_28 ic_1 ?_
      refine px_fV1i dX10_lay_29 kX10_lay_88 (xol rfl) hM (Nat.le_of_ble_eq_true rfl) (c_X10_refuse hM hW (by unfold vp_in; decide)) ?_
      exact px_iret dX10_lay_32 rfl ⟨by first | rfl | (simp only [h6, h24, not_true_eq_false, not_false_eq_true, if_true, if_false, and_self, or_true, true_or, or_false, false_or, true_and, and_true, false_and, and_false, reduceIte]), by first | rfl | (simp only [h6, h24, not_true_eq_false, not_false_eq_true, if_true, if_false, and_self, or_true, true_or, or_false, false_or, true_and, and_true, false_and, and_false, reduceIte])⟩ (rfl)
  · refine px_iconst dX10_lay_9 ic_m1 ?_
    exact px_iret dX10_lay_10 rfl ⟨by first | rfl | (simp only [h6, not_true_eq_false, not_false_eq_true, if_true, if_false, and_self, or_true, true_or, or_false, false_or, true_and, and_true, false_and, and_false, reduceIte]), by first | rfl | (simp only [h6, not_true_eq_false, not_false_eq_true, if_true, if_false, and_self, or_true, true_or, or_false, false_or, true_and, and_true, false_and, and_false, reduceIte])⟩ (rfl)

set_option maxRecDepth 100000 in
theorem c_X10_at {E : xE} {M : xMem} {r i : Int32} (hM : xNT ≤ xN M) (hW : xWire M.2.1) (hz : szOK M) : Cf E mX10_at [.ref 1, .int r, .int i] M (some (.int (if ¬ (0 ≤ r ∧ r < 6) then -1 else if M.1 (rA r) 1 = -1 then -3 else if ¬ (0 ≤ i ∧ i < M.1 (rA r) 1) then -3 else 1))) (if ¬ (0 ≤ r ∧ r < 6) then M else if M.1 (rA r) 1 = -1 then refM M 1 else if ¬ (0 ≤ i ∧ i < M.1 (rA r) 1) then refM M 2 else telM M (M.1 (rA r + 1) i.toNatClampNeg)) := by
  refine Ct.of (lo := [some (.ref 1), some (.int r), some (.int i), none]) pln_X10 (Nat.le_of_ble_eq_true rfl) rfl (Nat.le_refl _) ?_
  refine px_iload_n dX10_at_0 rfl rfl ?_
  refine px_bipush dX10_at_1 bp_6 ?_
  refine px_fS2i dX10_at_3 kX10_at_84 (Nat.le_of_ble_eq_true rfl) (c_X10_isBelow) ?_
  refine px_zif_ne 11 dX10_at_6 rfl (fun h6 => ?_) (fun h6 => ?_)
  · have rl : r.toNatClampNeg < 6 := r_lt (k := 6) rfl h6
    have hrow : xob (rA r) 5 := ob_row rl
    refine px_aload_n dX10_at_11 rfl rfl ?_
    refine px_getR dX10_at_12 fX10_11 (xol rfl) hM rfl (wr_10_0 hW (xol rfl)) (Nat.succ_pos _) ?_
    refine px_iload_n dX10_at_15 rfl rfl ?_
    refine px_aald (t0 := 3) dX10_at_16 (xal (n := 6) rfl) (by decide) (fun _ => rfl) hM (i_idx h6.1 h6.2 (by decide)) (wa_2 hW rl) (by omega) ?_
    refine px_sa_3 dX10_at_17 rfl ?_
    refine px_aload_n dX10_at_18 rfl rfl ?_
    refine px_fV0i dX10_at_19 kX10_at_96 hrow hM (Nat.le_of_ble_eq_true rfl) (c_X5_isMissing hrow hM) ?_
    refine px_zif_eq 31 dX10_at_22 rfl (fun h22 => ?_) (fun h22 => ?_)
    · refine px_iload_n dX10_at_31 rfl rfl ?_
      refine px_aload_n dX10_at_32 rfl rfl ?_
      refine px_getI dX10_at_33 fX10_100 hrow hM rfl ?_
      refine px_fS2i dX10_at_36 kX10_at_84 (Nat.le_of_ble_eq_true rfl) (c_X10_isBelow) ?_
      refine px_zif_ne 48 dX10_at_39 rfl (fun h39 => ?_) (fun h39 => ?_)
      · have hi40 : vp_in i 40 := sz_in (hz.1 _ rl) (by decide) h39
        refine px_aload_n dX10_at_48 rfl rfl ?_
        refine px_aload_n dX10_at_49 rfl rfl ?_
        refine px_getR dX10_at_50 fX10_103 hrow hM rfl (wr_5_0 hW hrow) (Nat.succ_pos _) ?_
        refine px_iload_n dX10_at_53 rfl rfl ?_
        refine px_iald dX10_at_54 (ar_5 hrow) hM hi40 ?_
        refine px_fV1i dX10_at_55 kX10_at_106 (xol rfl) hM (Nat.le_of_ble_eq_true rfl) (c_X10_tell hM) ?_
        exact px_iret dX10_at_58 rfl ⟨by first | rfl | (simp only [h6, h22, h39, not_true_eq_false, not_false_eq_true, if_true, if_false, and_self, or_true, true_or, or_false, false_or, true_and, and_true, false_and, and_false, reduceIte]), by first | rfl | (simp only [h6, h22, h39, not_true_eq_false, not_false_eq_true, if_true, if_false, and_self, or_true, true_or, or_false, false_or, true_and, and_true, false_and, and_false, reduceIte])⟩ (rfl)
      · refine px_aload_n dX10_at_42 rfl rfl ?_
        refine px_iconst dX10_at_43 ic_2 ?_
        refine px_fV1i dX10_at_44 kX10_at_88 (xol rfl) hM (Nat.le_of_ble_eq_true rfl) (c_X10_refuse hM hW (by unfold vp_in; decide)) ?_
        exact px_iret dX10_at_47 rfl ⟨by first | rfl | (simp only [h6, h22, h39, not_true_eq_false, not_false_eq_true, if_true, if_false, and_self, or_true, true_or, or_false, false_or, true_and, and_true, false_and, and_false, reduceIte]), by first | rfl | (simp only [h6, h22, h39, not_true_eq_false, not_false_eq_true, if_true, if_false, and_self, or_true, true_or, or_false, false_or, true_and, and_true, false_and, and_false, reduceIte])⟩ (rfl)
    · refine px_aload_n dX10_at_25 rfl rfl ?_
      refine px_iconst dX10_at_26 ic_1 ?_
      refine px_fV1i dX10_at_27 kX10_at_88 (xol rfl) hM (Nat.le_of_ble_eq_true rfl) (c_X10_refuse hM hW (by unfold vp_in; decide)) ?_
      exact px_iret dX10_at_30 rfl ⟨by first | rfl | (simp only [h6, h22, not_true_eq_false, not_false_eq_true, if_true, if_false, and_self, or_true, true_or, or_false, false_or, true_and, and_true, false_and, and_false, reduceIte]), by first | rfl | (simp only [h6, h22, not_true_eq_false, not_false_eq_true, if_true, if_false, and_self, or_true, true_or, or_false, false_or, true_and, and_true, false_and, and_false, reduceIte])⟩ (rfl)
  · refine px_iconst dX10_at_9 ic_m1 ?_
    exact px_iret dX10_at_10 rfl ⟨by first | rfl | (simp only [h6, not_true_eq_false, not_false_eq_true, if_true, if_false, and_self, or_true, true_or, or_false, false_or, true_and, and_true, false_and, and_false, reduceIte]), by first | rfl | (simp only [h6, not_true_eq_false, not_false_eq_true, if_true, if_false, and_self, or_true, true_or, or_false, false_or, true_and, and_true, false_and, and_false, reduceIte])⟩ (rfl)

set_option maxRecDepth 100000 in
theorem c_X10_tear {E : xE} {M : xMem} {r : Int32} (hM : xNT ≤ xN M) (hW : xWire M.2.1) : Cf E mX10_tear [.ref 1, .int r] M (some (.int (if ¬ (0 ≤ r ∧ r < 6) then -1 else if M.1 (rA r) 1 = -1 then -3 else 1))) (if ¬ (0 ≤ r ∧ r < 6) then M else if M.1 (rA r) 1 = -1 then refM M 1 else wI M (rA r) 1 (-1)) := by
  refine Ct.of (lo := [some (.ref 1), some (.int r)]) pln_X10 (Nat.le_of_ble_eq_true rfl) rfl (Nat.le_refl _) ?_
  refine px_iload_n dX10_tear_0 rfl rfl ?_
  refine px_bipush dX10_tear_1 bp_6 ?_
  refine px_fS2i dX10_tear_3 kX10_tear_84 (Nat.le_of_ble_eq_true rfl) (c_X10_isBelow) ?_
  refine px_zif_ne 11 dX10_tear_6 rfl (fun h6 => ?_) (fun h6 => ?_)
  · have rl : r.toNatClampNeg < 6 := r_lt (k := 6) rfl h6
    have hrow : xob (rA r) 5 := ob_row rl
    refine px_aload_n dX10_tear_11 rfl rfl ?_
    refine px_getR dX10_tear_12 fX10_11 (xol rfl) hM rfl (wr_10_0 hW (xol rfl)) (Nat.succ_pos _) ?_
    refine px_iload_n dX10_tear_15 rfl rfl ?_
    refine px_aald (t0 := 3) dX10_tear_16 (xal (n := 6) rfl) (by decide) (fun _ => rfl) hM (i_idx h6.1 h6.2 (by decide)) (wa_2 hW rl) (by omega) ?_
    refine px_fV0i dX10_tear_17 kX10_tear_96 hrow hM (Nat.le_of_ble_eq_true rfl) (c_X5_isMissing hrow hM) ?_
    refine px_zif_eq 29 dX10_tear_20 rfl (fun h20 => ?_) (fun h20 => ?_)
    · refine px_aload_n dX10_tear_29 rfl rfl ?_
      refine px_getR dX10_tear_30 fX10_11 (xol rfl) hM rfl (wr_10_0 hW (xol rfl)) (Nat.succ_pos _) ?_
      refine px_iload_n dX10_tear_33 rfl rfl ?_
      refine px_aald (t0 := 3) dX10_tear_34 (xal (n := 6) rfl) (by decide) (fun _ => rfl) hM (i_idx h6.1 h6.2 (by decide)) (wa_2 hW rl) (by omega) ?_
      refine px_iconst dX10_tear_35 ic_m1 ?_
      refine px_putI dX10_tear_36 fX10_100 p5_1 hrow hM rfl ?_
      refine px_iconst dX10_tear_39 ic_1 ?_
      exact px_iret dX10_tear_40 rfl ⟨by first | rfl | (simp only [h6, h20, not_true_eq_false, not_false_eq_true, if_true, if_false, and_self, or_true, true_or, or_false, false_or, true_and, and_true, false_and, and_false, reduceIte]), by first | rfl | (simp only [h6, h20, not_true_eq_false, not_false_eq_true, if_true, if_false, and_self, or_true, true_or, or_false, false_or, true_and, and_true, false_and, and_false, reduceIte])⟩ (rfl)
    · refine px_aload_n dX10_tear_23 rfl rfl ?_
      refine px_iconst dX10_tear_24 ic_1 ?_
      refine px_fV1i dX10_tear_25 kX10_tear_88 (xol rfl) hM (Nat.le_of_ble_eq_true rfl) (c_X10_refuse hM hW (by unfold vp_in; decide)) ?_
      exact px_iret dX10_tear_28 rfl ⟨by first | rfl | (simp only [h6, h20, not_true_eq_false, not_false_eq_true, if_true, if_false, and_self, or_true, true_or, or_false, false_or, true_and, and_true, false_and, and_false, reduceIte]), by first | rfl | (simp only [h6, h20, not_true_eq_false, not_false_eq_true, if_true, if_false, and_self, or_true, true_or, or_false, false_or, true_and, and_true, false_and, and_false, reduceIte])⟩ (rfl)
  · refine px_iconst dX10_tear_9 ic_m1 ?_
    exact px_iret dX10_tear_10 rfl ⟨by first | rfl | (simp only [h6, not_true_eq_false, not_false_eq_true, if_true, if_false, and_self, or_true, true_or, or_false, false_or, true_and, and_true, false_and, and_false, reduceIte]), by first | rfl | (simp only [h6, not_true_eq_false, not_false_eq_true, if_true, if_false, and_self, or_true, true_or, or_false, false_or, true_and, and_true, false_and, and_false, reduceIte])⟩ (rfl)

set_option maxRecDepth 100000 in
theorem c_X10_put {E : xE} {M : xMem} {t i v : Int32} (hM : xNT ≤ xN M) (hW : xWire M.2.1) (hz : szOK M) : Cf E mX10_put [.ref 1, .int t, .int i, .int v] M (some (.int (if ¬ (0 ≤ t ∧ t < 4) then -1 else if M.1 (tA t) 1 = -1 then -3 else if ¬ (0 ≤ i ∧ i < M.1 (tA t) 1) then -3 else 1000 + M.1 (tA t + 1) i.toNatClampNeg))) (if ¬ (0 ≤ t ∧ t < 4) then M else if M.1 (tA t) 1 = -1 then refM M 1 else if ¬ (0 ≤ i ∧ i < M.1 (tA t) 1) then refM M 2 else wI M (tA t + 1) i.toNatClampNeg v.toInt8.toInt32) := by
  refine Ct.of (lo := [some (.ref 1), some (.int t), some (.int i), some (.int v), none, none]) pln_X10 (Nat.le_of_ble_eq_true rfl) rfl (Nat.le_refl _) ?_
  refine px_iload_n dX10_put_0 rfl rfl ?_
  refine px_iconst dX10_put_1 ic_4 ?_
  refine px_fS2i dX10_put_2 kX10_put_84 (Nat.le_of_ble_eq_true rfl) (c_X10_isBelow) ?_
  refine px_zif_ne 10 dX10_put_5 rfl (fun h5 => ?_) (fun h5 => ?_)
  · have tl : t.toNatClampNeg < 4 := r_lt (k := 4) rfl h5
    have htx : xob (tA t) 9 := ob_text tl
    refine px_aload_n dX10_put_10 rfl rfl ?_
    refine px_getR dX10_put_11 fX10_17 (xol rfl) hM rfl (wr_10_1 hW (xol rfl)) (Nat.succ_pos _) ?_
    refine px_iload_n dX10_put_14 rfl rfl ?_
    refine px_aald (t0 := 4) dX10_put_15 (xal (n := 4) rfl) (by decide) (fun _ => rfl) hM (i_idx h5.1 h5.2 (by decide)) (wa_3 hW tl) (by omega) ?_
    refine px_sa_4 dX10_put_16 rfl ?_
    refine px_aload dX10_put_18 rfl ?_
    refine px_fV0i dX10_put_20 kX10_put_123 htx hM (Nat.le_of_ble_eq_true rfl) (c_X9_isMissing htx hM) ?_
    refine px_zif_eq 32 dX10_put_23 rfl (fun h23 => ?_) (fun h23 => ?_)
    · refine px_iload_n dX10_put_32 rfl rfl ?_
      refine px_aload dX10_put_33 rfl ?_
      refine px_getI dX10_put_35 fX10_124 htx hM rfl ?_
      refine px_fS2i dX10_put_38 kX10_put_84 (Nat.le_of_ble_eq_true rfl) (c_X10_isBelow) ?_
      refine px_zif_ne 50 dX10_put_41 rfl (fun h41 => ?_) (fun h41 => ?_)
      · have hi40 : vp_in i 120 := sz_in (hz.2 _ tl) (by decide) h41
        refine px_aload dX10_put_50 rfl ?_
        refine px_getR dX10_put_52 fX10_125 htx hM rfl (wr_9_0 hW htx) (Nat.succ_pos _) ?_
        refine px_iload_n dX10_put_55 rfl rfl ?_
        refine px_bald dX10_put_56 (ar_9 htx) hM hi40 ?_
        refine px_si_5 dX10_put_57 rfl ?_
        refine px_aload dX10_put_59 rfl ?_
        refine px_getR dX10_put_61 fX10_125 htx hM rfl (wr_9_0 hW htx) (Nat.succ_pos _) ?_
        refine px_iload_n dX10_put_64 rfl rfl ?_
        refine px_iload_n dX10_put_65 rfl rfl ?_
        refine px_i2b dX10_put_66 ?_
        refine px_bast dX10_put_67 (ar_9 htx) hM hi40 ?_
        refine px_sipush dX10_put_68 sp_1000 ?_
        refine px_iload dX10_put_71 rfl ?_
        refine px_iadd dX10_put_73 ?_
        exact px_iret dX10_put_74 rfl ⟨by simp only [h5, h23, h41, not_true_eq_false, not_false_eq_true, if_true, if_false, and_self, or_true, true_or, or_false, false_or, true_and, and_true, false_and, and_false, reduceIte], by simp only [h5, h23, h41, not_true_eq_false, not_false_eq_true, if_true, if_false, and_self, or_true, true_or, or_false, false_or, true_and, and_true, false_and, and_false, reduceIte]; rw [pk_vb]⟩ (rfl)
      · refine px_aload_n dX10_put_44 rfl rfl ?_
        refine px_iconst dX10_put_45 ic_2 ?_
        refine px_fV1i dX10_put_46 kX10_put_88 (xol rfl) hM (Nat.le_of_ble_eq_true rfl) (c_X10_refuse hM hW (by unfold vp_in; decide)) ?_
        exact px_iret dX10_put_49 rfl ⟨by first | rfl | (simp only [h5, h23, h41, not_true_eq_false, not_false_eq_true, if_true, if_false, and_self, or_true, true_or, or_false, false_or, true_and, and_true, false_and, and_false, reduceIte]), by first | rfl | (simp only [h5, h23, h41, not_true_eq_false, not_false_eq_true, if_true, if_false, and_self, or_true, true_or, or_false, false_or, true_and, and_true, false_and, and_false, reduceIte])⟩ (rfl)
    · refine px_aload_n dX10_put_26 rfl rfl ?_
      refine px_iconst dX10_put_27 ic_1 ?_
      refine px_fV1i dX10_put_28 kX10_put_88 (xol rfl) hM (Nat.le_of_ble_eq_true rfl) (c_X10_refuse hM hW (by unfold vp_in; decide)) ?_
      exact px_iret dX10_put_31 rfl ⟨by first | rfl | (simp only [h5, h23, not_true_eq_false, not_false_eq_true, if_true, if_false, and_self, or_true, true_or, or_false, false_or, true_and, and_true, false_and, and_false, reduceIte]), by first | rfl | (simp only [h5, h23, not_true_eq_false, not_false_eq_true, if_true, if_false, and_self, or_true, true_or, or_false, false_or, true_and, and_true, false_and, and_false, reduceIte])⟩ (rfl)
  · refine px_iconst dX10_put_8 ic_m1 ?_
    exact px_iret dX10_put_9 rfl ⟨by first | rfl | (simp only [h5, not_true_eq_false, not_false_eq_true, if_true, if_false, and_self, or_true, true_or, or_false, false_or, true_and, and_true, false_and, and_false, reduceIte]), by first | rfl | (simp only [h5, not_true_eq_false, not_false_eq_true, if_true, if_false, and_self, or_true, true_or, or_false, false_or, true_and, and_true, false_and, and_false, reduceIte])⟩ (rfl)

set_option maxRecDepth 100000 in
theorem c_X10_findings {E : xE} {M : xMem} {f : Int32} (hM : xNT ≤ xN M) (hW : xWire M.2.1) : Cf E mX10_findings [.ref 1, .int f] M (some (.int (if f < 1 then -1 else if ¬ f ≤ 5 then -1 else M.1 31 f.toNatClampNeg))) M := by
  refine Ct.of (lo := [some (.ref 1), some (.int f)]) pln_X10 (Nat.le_of_ble_eq_true rfl) rfl (Nat.le_refl _) ?_
  refine px_iload_n dX10_findings_0 rfl rfl ?_
  refine px_iconst dX10_findings_1 ic_1 ?_
  refine px_icmp_lt 10 dX10_findings_2 rfl (fun h2 => ?_) (fun h2 => ?_)
  · refine px_iconst dX10_findings_10 ic_m1 ?_
    exact px_iret dX10_findings_11 rfl ⟨by first | rfl | (simp only [h2, not_true_eq_false, not_false_eq_true, if_true, if_false, and_self, or_true, true_or, or_false, false_or, true_and, and_true, false_and, and_false, reduceIte]), by first | rfl | (simp only [h2, not_true_eq_false, not_false_eq_true, if_true, if_false, and_self, or_true, true_or, or_false, false_or, true_and, and_true, false_and, and_false, reduceIte])⟩ (rfl)
  · refine px_iload_n dX10_findings_5 rfl rfl ?_
    refine px_iconst dX10_findings_6 ic_5 ?_
    refine px_icmp_le 12 dX10_findings_7 rfl (fun h7 => ?_) (fun h7 => ?_)
    · have hf : vp_in f 6 := i_idx (n := 6) (by (simp only [Int32.le_iff_toInt_le, Int32.lt_iff_toInt_lt, ← Int32.toInt_inj, Int32.reduceToInt] at *; omega)) (by (simp only [Int32.le_iff_toInt_le, Int32.lt_iff_toInt_lt, ← Int32.toInt_inj, Int32.reduceToInt] at *; omega)) (by decide)
      refine px_aload_n dX10_findings_12 rfl rfl ?_
      refine px_getR dX10_findings_13 fX10_64 (xol rfl) hM rfl (wr_10_9 hW (xol rfl)) (Nat.succ_pos _) ?_
      refine px_iload_n dX10_findings_16 rfl rfl ?_
      refine px_iald dX10_findings_17 (xal (n := 6) rfl) hM hf ?_
      exact px_iret dX10_findings_18 rfl ⟨by first | rfl | (simp only [h2, h7, not_true_eq_false, not_false_eq_true, if_true, if_false, and_self, or_true, true_or, or_false, false_or, true_and, and_true, false_and, and_false, reduceIte]), by first | rfl | (simp only [h2, h7, not_true_eq_false, not_false_eq_true, if_true, if_false, and_self, or_true, true_or, or_false, false_or, true_and, and_true, false_and, and_false, reduceIte])⟩ (rfl)
    · refine px_iconst dX10_findings_10 ic_m1 ?_
      exact px_iret dX10_findings_11 rfl ⟨by first | rfl | (simp only [h2, h7, not_true_eq_false, not_false_eq_true, if_true, if_false, and_self, or_true, true_or, or_false, false_or, true_and, and_true, false_and, and_false, reduceIte]), by first | rfl | (simp only [h2, h7, not_true_eq_false, not_false_eq_true, if_true, if_false, and_self, or_true, true_or, or_false, false_or, true_and, and_true, false_and, and_false, reduceIte])⟩ (rfl)

/-- the sum of the first n of a row -/
def sumL (f : Nat → Int32) : Nat → Int64
  | 0 => 0
  | n + 1 => sumL f n + (f n).toInt64

set_option maxRecDepth 100000 in
theorem l_X5_sum {E : xE} {M : xMem} {a N : Nat} (ha : xob a 5) (hM : xNT ≤ xN M) (hW : xWire M.2.1) (hN : N ≤ 40) (hs : M.1 a 1 = nI N) : PR E mX5_sum (xN M) 4 [some (.ref a), some (.long (sumL (M.1 (a + 1)) 0)), none, some (.int (nI 0))] [] (M) (fun r m => r = some (.long (sumL (M.1 (a + 1)) N)) ∧ m = M) := by
  refine px_for (P := fun i => PR E mX5_sum (xN M) 4 [some (.ref a), some (.long (sumL (M.1 (a + 1)) i)), none, some (.int (nI i))] [] (M) (fun r m => r = some (.long (sumL (M.1 (a + 1)) N)) ∧ m = M)) (N) (fun i hi nx => ?_) (0) (by omega)
  refine px_iload_n dX5_sum_4 rfl rfl ?_
  refine px_aload_n dX5_sum_5 rfl rfl ?_
  refine px_getI dX5_sum_6 fX5_15 ha hM rfl ?_
  rw [hs]
  refine px_icmp_ge 28 dX5_sum_9 rfl (fun h9 => ?_) (fun h9 => ?_)
  · have hi2 : i = N := by rw [nI_leI (by omega) (by omega)] at h9; omega
    refine px_lload_n dX5_sum_28 rfl rfl ?_
    exact px_lret dX5_sum_29 rfl ⟨by rw [hi2], rfl⟩ (rfl)
  · have hlt : i < N := by rw [nI_leI (by omega) (by omega)] at h9; omega
    have hin : vp_in (nI i) 40 := vp_in_nI (by omega) (by omega)
    refine px_lload_n dX5_sum_12 rfl rfl ?_
    refine px_aload_n dX5_sum_13 rfl rfl ?_
    refine px_getR dX5_sum_14 fX5_9 ha hM rfl (wr_5_0 hW ha) (Nat.succ_pos _) ?_
    refine px_iload_n dX5_sum_17 rfl rfl ?_
    refine px_iald dX5_sum_18 (ar_5 ha) hM hin ?_
    refine px_i2l dX5_sum_19 ?_
    refine px_ladd dX5_sum_20 ?_
    refine px_sl_1 dX5_sum_21 rfl ?_
    refine px_inc_3 dX5_sum_22 rfl ic_1 ?_
    refine px_goto 4 dX5_sum_25 rfl ?_
    exact px_eq (by rw [nI_1, nI_clamp (by omega)]; rfl) rfl (nx hlt)

set_option maxRecDepth 100000 in
theorem c_X5_sum {E : xE} {M : xMem} {a N : Nat} (ha : xob a 5) (hM : xNT ≤ xN M) (hW : xWire M.2.1) (hN : N ≤ 40) (hs : M.1 a 1 = nI N) : Cf E mX5_sum [.ref a] M (some (.long (sumL (M.1 (a + 1)) N))) M := by
  refine Ct.of (lo := [some (.ref a), none, none, none]) pln_X5 (Nat.le_of_ble_eq_true rfl) rfl (Nat.le_refl _) ?_
  refine px_lconst (v := 0) dX5_sum_0 (by decide) ?_
  refine px_sl_1 dX5_sum_1 rfl ?_
  refine px_iconst dX5_sum_2 ic_0 ?_
  refine px_si_3 dX5_sum_3 rfl ?_
  exact l_X5_sum ha hM hW hN hs

theorem sz_pos {M : xMem} {a : Nat} {K : Nat} (hs : M.1 a 1 = -1 ∨ ∃ n, n ≤ K ∧ M.1 a 1 = nI n) (h1 : ¬ M.1 a 1 = -1) : ∃ n, n ≤ K ∧ M.1 a 1 = nI n := by
  rcases hs with h | h
  · exact absurd h h1
  · exact h
theorem nz64 {n : Nat} (hn : n < 2 ^ 31) (h : ¬ nI n = 0) : ¬ (nI n).toInt64 = 0 := by
  rw [nI_l hn]
  intro e
  have := (lN_eq hn (by decide : 0 < 2 ^ 31)).mp e
  exact h (by rw [this]; rfl)
theorem hold_nat {i n : Int32} {S : Nat} (hS : S < 2 ^ 31) (hn : 0 ≤ n) (h : 0 ≤ i ∧ i ≤ nI S ∧ n ≤ nI S - i) : i.toNatClampNeg + n.toNatClampNeg ≤ S := by
  obtain ⟨h1, h2, h3⟩ := h
  obtain ⟨j, hj, rfl⟩ := nI_of (n_le h1)
  obtain ⟨k, hk, rfl⟩ := nI_of (n_le hn)
  rw [nI_leI hj hS] at h2
  rw [pk_sub h2, nI_leI hk (by omega)] at h3
  rw [nI_clamp hj, nI_clamp hk]
  omega

set_option maxRecDepth 100000 in
theorem c_X10_mean {E : xE} {M : xMem} {r : Int32} (hM : xNT ≤ xN M) (hW : xWire M.2.1) (hz : szOK M) : Cf E mX10_mean [.ref 1, .int r] M (some (.int (if ¬ (0 ≤ r ∧ r < 6) then -1 else if M.1 (rA r) 1 = -1 then -3 else if M.1 (rA r) 1 = 0 then -3 else 1))) (if ¬ (0 ≤ r ∧ r < 6) then M else if M.1 (rA r) 1 = -1 then refM M 1 else if M.1 (rA r) 1 = 0 then refM M 4 else telM M (sumL (M.1 (rA r + 1)) (M.1 (rA r) 1).toNatClampNeg / (M.1 (rA r) 1).toInt64).toInt32) := by
  refine Ct.of (lo := [some (.ref 1), some (.int r), none]) pln_X10 (Nat.le_of_ble_eq_true rfl) rfl (Nat.le_refl _) ?_
  refine px_iload_n dX10_mean_0 rfl rfl ?_
  refine px_bipush dX10_mean_1 bp_6 ?_
  refine px_fS2i dX10_mean_3 kX10_mean_84 (Nat.le_of_ble_eq_true rfl) (c_X10_isBelow) ?_
  refine px_zif_ne 11 dX10_mean_6 rfl (fun h6 => ?_) (fun h6 => ?_)
  · have rl : r.toNatClampNeg < 6 := r_lt (k := 6) rfl h6
    have hrow : xob (rA r) 5 := ob_row rl
    refine px_aload_n dX10_mean_11 rfl rfl ?_
    refine px_getR dX10_mean_12 fX10_11 (xol rfl) hM rfl (wr_10_0 hW (xol rfl)) (Nat.succ_pos _) ?_
    refine px_iload_n dX10_mean_15 rfl rfl ?_
    refine px_aald (t0 := 3) dX10_mean_16 (xal (n := 6) rfl) (by decide) (fun _ => rfl) hM (i_idx h6.1 h6.2 (by decide)) (wa_2 hW rl) (by omega) ?_
    refine px_sa_2 dX10_mean_17 rfl ?_
    refine px_aload_n dX10_mean_18 rfl rfl ?_
    refine px_fV0i dX10_mean_19 kX10_mean_96 hrow hM (Nat.le_of_ble_eq_true rfl) (c_X5_isMissing hrow hM) ?_
    refine px_zif_eq 31 dX10_mean_22 rfl (fun h22 => ?_) (fun h22 => ?_)
    · refine px_aload_n dX10_mean_31 rfl rfl ?_
      refine px_getI dX10_mean_32 fX10_100 hrow hM rfl ?_
      refine px_if_ne 44 dX10_mean_35 rfl (fun h35 => ?_) (fun h35 => ?_)
      · obtain ⟨N, hN, hsz⟩ := sz_pos (hz.1 _ rl) h22
        refine px_aload_n dX10_mean_44 rfl rfl ?_
        refine px_aload_n dX10_mean_45 rfl rfl ?_
        refine px_fV0i dX10_mean_46 kX10_mean_118 hrow hM (Nat.le_of_ble_eq_true rfl) (c_X5_sum hrow hM hW hN hsz) ?_
        refine px_aload_n dX10_mean_49 rfl rfl ?_
        refine px_getI dX10_mean_50 fX10_100 hrow hM rfl ?_
        refine px_i2l dX10_mean_53 ?_
        refine px_ldiv dX10_mean_54 (by rw [hsz]; rw [hsz] at h35; exact nz64 (by omega) h35) ?_
        refine px_l2i dX10_mean_55 ?_
        refine px_fV1i dX10_mean_56 kX10_mean_106 (xol rfl) hM (Nat.le_of_ble_eq_true rfl) (c_X10_tell hM) ?_
        exact px_iret dX10_mean_59 rfl ⟨by simp only [h6, h22, h35, not_true_eq_false, not_false_eq_true, if_true, if_false, and_self, or_true, true_or, or_false, false_or, true_and, and_true, false_and, and_false, reduceIte], by simp only [h6, h22, h35, not_true_eq_false, not_false_eq_true, if_true, if_false, and_self, or_true, true_or, or_false, false_or, true_and, and_true, false_and, and_false, reduceIte]; rw [hsz, nI_clamp (by omega)]⟩ (rfl)
      · refine px_aload_n dX10_mean_38 rfl rfl ?_
        refine px_iconst dX10_mean_39 ic_4 ?_
        refine px_fV1i dX10_mean_40 kX10_mean_88 (xol rfl) hM (Nat.le_of_ble_eq_true rfl) (c_X10_refuse hM hW (by unfold vp_in; decide)) ?_
        exact px_iret dX10_mean_43 rfl ⟨by rw [if_neg (not_not_intro h6), if_neg h22, if_pos h35], by rw [if_neg (not_not_intro h6), if_neg h22, if_pos h35]⟩ (rfl)
    · refine px_aload_n dX10_mean_25 rfl rfl ?_
      refine px_iconst dX10_mean_26 ic_1 ?_
      refine px_fV1i dX10_mean_27 kX10_mean_88 (xol rfl) hM (Nat.le_of_ble_eq_true rfl) (c_X10_refuse hM hW (by unfold vp_in; decide)) ?_
      exact px_iret dX10_mean_30 rfl ⟨by first | rfl | (simp only [h6, h22, not_true_eq_false, not_false_eq_true, if_true, if_false, and_self, or_true, true_or, or_false, false_or, true_and, and_true, false_and, and_false, reduceIte]), by first | rfl | (simp only [h6, h22, not_true_eq_false, not_false_eq_true, if_true, if_false, and_self, or_true, true_or, or_false, false_or, true_and, and_true, false_and, and_false, reduceIte])⟩ (rfl)
  · refine px_iconst dX10_mean_9 ic_m1 ?_
    exact px_iret dX10_mean_10 rfl ⟨by first | rfl | (simp only [h6, not_true_eq_false, not_false_eq_true, if_true, if_false, and_self, or_true, true_or, or_false, false_or, true_and, and_true, false_and, and_false, reduceIte]), by first | rfl | (simp only [h6, not_true_eq_false, not_false_eq_true, if_true, if_false, and_self, or_true, true_or, or_false, false_or, true_and, and_true, false_and, and_false, reduceIte])⟩ (rfl)

set_option maxRecDepth 100000 in
theorem c_X10_copy {E : xE} {M : xMem} {r i to j n : Int32} (hM : xNT ≤ xN M) (hW : xWire M.2.1) (hz : szOK M) : Cf E mX10_copy [.ref 1, .int r, .int i, .int to, .int j, .int n] M (some (.int (if ¬ (0 ≤ r ∧ r < 6) then -1 else if ¬ (0 ≤ to ∧ to < 6) then -1 else if ¬ 0 ≤ n then -3 else if M.1 (rA r) 1 = -1 then -3 else if M.1 (rA to) 1 = -1 then -3 else if ¬ (0 ≤ i ∧ i ≤ M.1 (rA r) 1 ∧ n ≤ M.1 (rA r) 1 - i) then -3 else if ¬ (0 ≤ j ∧ j ≤ M.1 (rA to) 1 ∧ n ≤ M.1 (rA to) 1 - j) then -3 else 1))) (if ¬ (0 ≤ r ∧ r < 6) then M else if ¬ (0 ≤ to ∧ to < 6) then M else if ¬ 0 ≤ n then refM M 5 else if M.1 (rA r) 1 = -1 then refM M 1 else if M.1 (rA to) 1 = -1 then refM M 1 else if ¬ (0 ≤ i ∧ i ≤ M.1 (rA r) 1 ∧ n ≤ M.1 (rA r) 1 - i) then refM M 2 else if ¬ (0 ≤ j ∧ j ≤ M.1 (rA to) 1 ∧ n ≤ M.1 (rA to) 1 - j) then refM M 2 else wF M (rA to + 1) (va_cpy (M.1 (rA r + 1)) (M.1 (rA to + 1)) i.toNatClampNeg j.toNatClampNeg n.toNatClampNeg)) := by
  refine Ct.of (lo := [some (.ref 1), some (.int r), some (.int i), some (.int to), some (.int j), some (.int n), none, none]) pln_X10 (Nat.le_of_ble_eq_true rfl) rfl (Nat.le_refl _) ?_
  refine px_iload_n dX10_copy_0 rfl rfl ?_
  refine px_bipush dX10_copy_1 bp_6 ?_
  refine px_fS2i dX10_copy_3 kX10_copy_84 (Nat.le_of_ble_eq_true rfl) (c_X10_isBelow) ?_
  refine px_zif_eq 18 dX10_copy_6 rfl (fun h6 => ?_) (fun h6 => ?_)
  · refine px_iconst dX10_copy_18 ic_m1 ?_
    exact px_iret dX10_copy_19 rfl ⟨by first | rfl | (simp only [h6, not_true_eq_false, not_false_eq_true, if_true, if_false, and_self, or_true, true_or, or_false, false_or, true_and, and_true, false_and, and_false, reduceIte]), by first | rfl | (simp only [h6, not_true_eq_false, not_false_eq_true, if_true, if_false, and_self, or_true, true_or, or_false, false_or, true_and, and_true, false_and, and_false, reduceIte])⟩ (rfl)
  · refine px_iload_n dX10_copy_9 rfl rfl ?_
    refine px_bipush dX10_copy_10 bp_6 ?_
    refine px_fS2i dX10_copy_12 kX10_copy_84 (Nat.le_of_ble_eq_true rfl) (c_X10_isBelow) ?_
    refine px_zif_ne 20 dX10_copy_15 rfl (fun h15 => ?_) (fun h15 => ?_)
    · refine px_iload dX10_copy_20 rfl ?_
      refine px_if_ge 31 dX10_copy_22 rfl (fun h22 => ?_) (fun h22 => ?_)
      · have rl : r.toNatClampNeg < 6 := r_lt (k := 6) rfl h6
        have hrow : xob (rA r) 5 := ob_row rl
        have tol : to.toNatClampNeg < 6 := r_lt (k := 6) rfl h15
        have hto : xob (rA to) 5 := ob_row tol
        refine px_aload_n dX10_copy_31 rfl rfl ?_
        refine px_getR dX10_copy_32 fX10_11 (xol rfl) hM rfl (wr_10_0 hW (xol rfl)) (Nat.succ_pos _) ?_
        refine px_iload_n dX10_copy_35 rfl rfl ?_
        refine px_aald (t0 := 3) dX10_copy_36 (xal (n := 6) rfl) (by decide) (fun _ => rfl) hM (i_idx h6.1 h6.2 (by decide)) (wa_2 hW rl) (by omega) ?_
        refine px_sa_6 dX10_copy_37 rfl ?_
        refine px_aload_n dX10_copy_39 rfl rfl ?_
        refine px_getR dX10_copy_40 fX10_11 (xol rfl) hM rfl (wr_10_0 hW (xol rfl)) (Nat.succ_pos _) ?_
        refine px_iload_n dX10_copy_43 rfl rfl ?_
        refine px_aald (t0 := 3) dX10_copy_44 (xal (n := 6) rfl) (by decide) (fun _ => rfl) hM (i_idx h15.1 h15.2 (by decide)) (wa_2 hW tol) (by omega) ?_
        refine px_sa_7 dX10_copy_45 rfl ?_
        refine px_aload dX10_copy_47 rfl ?_
        refine px_fV0i dX10_copy_49 kX10_copy_96 hrow hM (Nat.le_of_ble_eq_true rfl) (c_X5_isMissing hrow hM) ?_
        refine px_zif_ne 63 dX10_copy_52 rfl (fun h52 => ?_) (fun h52 => ?_)
        · refine px_aload_n dX10_copy_63 rfl rfl ?_
          refine px_iconst dX10_copy_64 ic_1 ?_
          refine px_fV1i dX10_copy_65 kX10_copy_88 (xol rfl) hM (Nat.le_of_ble_eq_true rfl) (c_X10_refuse hM hW (by unfold vp_in; decide)) ?_
          exact px_iret dX10_copy_68 rfl ⟨by first | rfl | (simp only [h6, h15, h22, h52, not_true_eq_false, not_false_eq_true, if_true, if_false, and_self, or_true, true_or, or_false, false_or, true_and, and_true, false_and, and_false, reduceIte]), by first | rfl | (simp only [h6, h15, h22, h52, not_true_eq_false, not_false_eq_true, if_true, if_false, and_self, or_true, true_or, or_false, false_or, true_and, and_true, false_and, and_false, reduceIte])⟩ (rfl)
        · refine px_aload dX10_copy_55 rfl ?_
          refine px_fV0i dX10_copy_57 kX10_copy_96 hto hM (Nat.le_of_ble_eq_true rfl) (c_X5_isMissing hto hM) ?_
          refine px_zif_eq 69 dX10_copy_60 rfl (fun h60 => ?_) (fun h60 => ?_)
          · refine px_aload dX10_copy_69 rfl ?_
            refine px_iload_n dX10_copy_71 rfl rfl ?_
            refine px_iload dX10_copy_72 rfl ?_
            refine px_fV2i dX10_copy_74 kX10_copy_109 hrow hM (Nat.le_of_ble_eq_true rfl) (c_X5_holds hrow hM) ?_
            refine px_zif_eq 92 dX10_copy_77 rfl (fun h77 => ?_) (fun h77 => ?_)
            · refine px_aload_n dX10_copy_92 rfl rfl ?_
              refine px_iconst dX10_copy_93 ic_2 ?_
              refine px_fV1i dX10_copy_94 kX10_copy_88 (xol rfl) hM (Nat.le_of_ble_eq_true rfl) (c_X10_refuse hM hW (by unfold vp_in; decide)) ?_
              exact px_iret dX10_copy_97 rfl ⟨by first | rfl | (simp only [h6, h15, h22, h52, h60, h77, not_true_eq_false, not_false_eq_true, if_true, if_false, and_self, or_true, true_or, or_false, false_or, true_and, and_true, false_and, and_false, reduceIte]), by first | rfl | (simp only [h6, h15, h22, h52, h60, h77, not_true_eq_false, not_false_eq_true, if_true, if_false, and_self, or_true, true_or, or_false, false_or, true_and, and_true, false_and, and_false, reduceIte])⟩ (rfl)
            · refine px_aload dX10_copy_80 rfl ?_
              refine px_iload dX10_copy_82 rfl ?_
              refine px_iload dX10_copy_84 rfl ?_
              refine px_fV2i dX10_copy_86 kX10_copy_109 hto hM (Nat.le_of_ble_eq_true rfl) (c_X5_holds hto hM) ?_
              refine px_zif_ne 98 dX10_copy_89 rfl (fun h89 => ?_) (fun h89 => ?_)
              · obtain ⟨S1, hS1, e1⟩ := sz_pos (hz.1 _ rl) h52
                obtain ⟨S2, hS2, e2⟩ := sz_pos (hz.1 _ tol) h60
                have q1 : i.toNatClampNeg + n.toNatClampNeg ≤ S1 := hold_nat (by omega) h22 (by rw [← e1]; exact h77)
                have q2 : j.toNatClampNeg + n.toNatClampNeg ≤ S2 := hold_nat (by omega) h22 (by rw [← e2]; exact h89)
                refine px_aload dX10_copy_98 rfl ?_
                refine px_getR dX10_copy_100 fX10_103 hrow hM rfl (wr_5_0 hW hrow) (Nat.succ_pos _) ?_
                refine px_iload_n dX10_copy_103 rfl rfl ?_
                refine px_aload dX10_copy_104 rfl ?_
                refine px_getR dX10_copy_106 fX10_103 hto hM rfl (wr_5_0 hW hto) (Nat.succ_pos _) ?_
                refine px_iload dX10_copy_109 rfl ?_
                refine px_iload dX10_copy_111 rfl ?_
                refine px_copy (kk := 20) (t0 := 0) (ty := .int) dX10_copy_113 kX10_copy_112 (ar_5 hrow) (ar_5 hto) ⟨by decide, by decide⟩ (fun _ => rfl) rfl hM (n_le h77.1) (n_le h89.1) (n_le h22) (by omega) (by omega) (fun _ _ => rfl) (Nat.le_of_ble_eq_true rfl) ?_
                refine px_iconst dX10_copy_116 ic_1 ?_
                exact px_iret dX10_copy_117 rfl ⟨by first | rfl | (simp only [h6, h15, h22, h52, h60, h77, h89, not_true_eq_false, not_false_eq_true, if_true, if_false, and_self, or_true, true_or, or_false, false_or, true_and, and_true, false_and, and_false, reduceIte]), by first | rfl | (simp only [h6, h15, h22, h52, h60, h77, h89, not_true_eq_false, not_false_eq_true, if_true, if_false, and_self, or_true, true_or, or_false, false_or, true_and, and_true, false_and, and_false, reduceIte])⟩ (rfl)
              · refine px_aload_n dX10_copy_92 rfl rfl ?_
                refine px_iconst dX10_copy_93 ic_2 ?_
                refine px_fV1i dX10_copy_94 kX10_copy_88 (xol rfl) hM (Nat.le_of_ble_eq_true rfl) (c_X10_refuse hM hW (by unfold vp_in; decide)) ?_
                exact px_iret dX10_copy_97 rfl ⟨by first | rfl | (simp only [h6, h15, h22, h52, h60, h77, h89, not_true_eq_false, not_false_eq_true, if_true, if_false, and_self, or_true, true_or, or_false, false_or, true_and, and_true, false_and, and_false, reduceIte]), by first | rfl | (simp only [h6, h15, h22, h52, h60, h77, h89, not_true_eq_false, not_false_eq_true, if_true, if_false, and_self, or_true, true_or, or_false, false_or, true_and, and_true, false_and, and_false, reduceIte])⟩ (rfl)
          · refine px_aload_n dX10_copy_63 rfl rfl ?_
            refine px_iconst dX10_copy_64 ic_1 ?_
            refine px_fV1i dX10_copy_65 kX10_copy_88 (xol rfl) hM (Nat.le_of_ble_eq_true rfl) (c_X10_refuse hM hW (by unfold vp_in; decide)) ?_
            exact px_iret dX10_copy_68 rfl ⟨by first | rfl | (simp only [h6, h15, h22, h52, h60, not_true_eq_false, not_false_eq_true, if_true, if_false, and_self, or_true, true_or, or_false, false_or, true_and, and_true, false_and, and_false, reduceIte]), by first | rfl | (simp only [h6, h15, h22, h52, h60, not_true_eq_false, not_false_eq_true, if_true, if_false, and_self, or_true, true_or, or_false, false_or, true_and, and_true, false_and, and_false, reduceIte])⟩ (rfl)
      · refine px_aload_n dX10_copy_25 rfl rfl ?_
        refine px_iconst dX10_copy_26 ic_5 ?_
        refine px_fV1i dX10_copy_27 kX10_copy_88 (xol rfl) hM (Nat.le_of_ble_eq_true rfl) (c_X10_refuse hM hW (by unfold vp_in; decide)) ?_
        exact px_iret dX10_copy_30 rfl ⟨by first | rfl | (simp only [h6, h15, h22, not_true_eq_false, not_false_eq_true, if_true, if_false, and_self, or_true, true_or, or_false, false_or, true_and, and_true, false_and, and_false, reduceIte]), by first | rfl | (simp only [h6, h15, h22, not_true_eq_false, not_false_eq_true, if_true, if_false, and_self, or_true, true_or, or_false, false_or, true_and, and_true, false_and, and_false, reduceIte])⟩ (rfl)
    · refine px_iconst dX10_copy_18 ic_m1 ?_
      exact px_iret dX10_copy_19 rfl ⟨by first | rfl | (simp only [h6, h15, not_true_eq_false, not_false_eq_true, if_true, if_false, and_self, or_true, true_or, or_false, false_or, true_and, and_true, false_and, and_false, reduceIte]), by first | rfl | (simp only [h6, h15, not_true_eq_false, not_false_eq_true, if_true, if_false, and_self, or_true, true_or, or_false, false_or, true_and, and_true, false_and, and_false, reduceIte])⟩ (rfl)
