set_option maxRecDepth 100000 in
theorem c_X10_isBelow {E : xE} {M : xMem} {i b : Int32} : Cf E mX10_isBelow [.int i, .int b] M (some (.int (zb (0 ≤ i ∧ i < b)))) M := by
  refine Ct.of (lo := [some (.int i), some (.int b)]) pln_X10 (Nat.le_of_ble_eq_true rfl) rfl (Nat.le_refl _) ?_
  refine px_iload_n dX10_isBelow_0 rfl rfl ?_
  refine px_if_lt 13 dX10_isBelow_1 rfl (fun h1 => ?_) (fun h1 => ?_)
  · refine px_iconst dX10_isBelow_13 ic_0 ?_
    exact px_zret dX10_isBelow_14 rfl (by first | rfl | exact zb_nar) (by first | exact ⟨z1 (by (simp only [Int32.le_iff_toInt_le, Int32.lt_iff_toInt_lt, ← Int32.toInt_inj, Int32.reduceToInt] at *; omega)), rfl⟩ | exact ⟨z0 (by (simp only [Int32.le_iff_toInt_le, Int32.lt_iff_toInt_lt, ← Int32.toInt_inj, Int32.reduceToInt] at *; omega)), rfl⟩) (rfl)
  · refine px_iload_n dX10_isBelow_4 rfl rfl ?_
    refine px_iload_n dX10_isBelow_5 rfl rfl ?_
    refine px_icmp_ge 13 dX10_isBelow_6 rfl (fun h6 => ?_) (fun h6 => ?_)
    · refine px_iconst dX10_isBelow_13 ic_0 ?_
      exact px_zret dX10_isBelow_14 rfl (by first | rfl | exact zb_nar) (by first | exact ⟨z1 (by (simp only [Int32.le_iff_toInt_le, Int32.lt_iff_toInt_lt, ← Int32.toInt_inj, Int32.reduceToInt] at *; omega)), rfl⟩ | exact ⟨z0 (by (simp only [Int32.le_iff_toInt_le, Int32.lt_iff_toInt_lt, ← Int32.toInt_inj, Int32.reduceToInt] at *; omega)), rfl⟩) (rfl)
    · refine px_iconst dX10_isBelow_9 ic_1 ?_
      refine px_goto 14 dX10_isBelow_10 rfl ?_
      exact px_zret dX10_isBelow_14 rfl (by first | rfl | exact zb_nar) (by first | exact ⟨z1 (by (simp only [Int32.le_iff_toInt_le, Int32.lt_iff_toInt_lt, ← Int32.toInt_inj, Int32.reduceToInt] at *; omega)), rfl⟩ | exact ⟨z0 (by (simp only [Int32.le_iff_toInt_le, Int32.lt_iff_toInt_lt, ← Int32.toInt_inj, Int32.reduceToInt] at *; omega)), rfl⟩) (rfl)

set_option maxRecDepth 100000 in
theorem c_X10_tell {E : xE} {M : xMem} {v : Int32} (hM : xNT ≤ xN M) : Cf E mX10_tell [.ref 1, .int v] M (some (.int 1)) (wI M 1 11 v) := by
  refine Ct.of (lo := [some (.ref 1), some (.int v)]) pln_X10 (Nat.le_of_ble_eq_true rfl) rfl (Nat.le_refl _) ?_
  refine px_aload_n dX10_tell_0 rfl rfl ?_
  refine px_iload_n dX10_tell_1 rfl rfl ?_
  refine px_putI dX10_tell_2 fX10_75 p10_11 (by first | assumption | exact xol rfl) hM rfl ?_
  refine px_iconst dX10_tell_5 ic_1 ?_
  exact px_iret dX10_tell_6 rfl ⟨rfl, rfl⟩ (rfl)

set_option maxRecDepth 100000 in
theorem c_X10_asked {E : xE} {M : xMem} (hM : xNT ≤ xN M) : Cf E mX10_asked [.ref 1] M (some (.int (M.1 1 11))) M := by
  refine Ct.of (lo := [some (.ref 1)]) pln_X10 (Nat.le_of_ble_eq_true rfl) rfl (Nat.le_refl _) ?_
  refine px_aload_n dX10_asked_0 rfl rfl ?_
  refine px_getI dX10_asked_1 fX10_75 (by first | assumption | exact xol rfl) hM rfl ?_
  exact px_iret dX10_asked_4 rfl ⟨rfl, rfl⟩ (rfl)

set_option maxRecDepth 100000 in
theorem c_X10_finding {E : xE} {M : xMem} (hM : xNT ≤ xN M) : Cf E mX10_finding [.ref 1] M (some (.int (M.1 1 12))) M := by
  refine Ct.of (lo := [some (.ref 1)]) pln_X10 (Nat.le_of_ble_eq_true rfl) rfl (Nat.le_refl _) ?_
  refine px_aload_n dX10_finding_0 rfl rfl ?_
  refine px_getI dX10_finding_1 fX10_79 (by first | assumption | exact xol rfl) hM rfl ?_
  exact px_iret dX10_finding_4 rfl ⟨rfl, rfl⟩ (rfl)

set_option maxRecDepth 100000 in
theorem c_X10_refuse {E : xE} {M : xMem} {f : Int32} (hM : xNT ≤ xN M) (hW : xWire M.2.1) (hf : vp_in f 6) : Cf E mX10_refuse [.ref 1, .int f] M (some (.int (-3))) (wI (wI M 1 12 f) 31 f.toNatClampNeg (M.1 31 f.toNatClampNeg + 1)) := by
  refine Ct.of (lo := [some (.ref 1), some (.int f)]) pln_X10 (Nat.le_of_ble_eq_true rfl) rfl (Nat.le_refl _) ?_
  refine px_aload_n dX10_refuse_0 rfl rfl ?_
  refine px_iload_n dX10_refuse_1 rfl rfl ?_
  refine px_putI dX10_refuse_2 fX10_79 p10_12 (by first | assumption | exact xol rfl) hM rfl ?_
  refine px_aload_n dX10_refuse_5 rfl rfl ?_
  refine px_getR dX10_refuse_6 fX10_64 (by first | assumption | exact xol rfl) hM rfl (wr_10_9 hW (by first | assumption | exact xol rfl)) (Nat.succ_pos _) ?_
  refine px_iload_n dX10_refuse_9 rfl rfl ?_
  refine px_dup2 dX10_refuse_10 ?_
  refine px_iald dX10_refuse_11 (xal (n := 6) rfl) hM (by assumption) ?_
  refine px_iconst dX10_refuse_12 ic_1 ?_
  refine px_iadd dX10_refuse_13 ?_
  refine px_iast dX10_refuse_14 (xal (n := 6) rfl) hM (by assumption) ?_
  refine px_bipush dX10_refuse_15 bp_m3 ?_
  exact px_iret dX10_refuse_17 rfl ⟨rfl, by rw [xI_wI, if_neg (by simp)]⟩ (rfl)

set_option maxRecDepth 100000 in
theorem c_X5_isMissing {E : xE} {M : xMem} {a : Nat} (ha : xob a 5) (hM : xNT ≤ xN M) : Cf E mX5_isMissing [.ref a] M (some (.int (zb (M.1 a 1 = -1)))) M := by
  refine Ct.of (lo := [some (.ref a)]) pln_X5 (Nat.le_of_ble_eq_true rfl) rfl (Nat.le_refl _) ?_
  refine px_aload_n dX5_isMissing_0 rfl rfl ?_
  refine px_getI dX5_isMissing_1 fX5_15 (by first | assumption | exact xol rfl) hM rfl ?_
  refine px_iconst dX5_isMissing_4 ic_m1 ?_
  refine px_icmp_ne 12 dX5_isMissing_5 rfl (fun h5 => ?_) (fun h5 => ?_)
  · refine px_iconst dX5_isMissing_12 ic_0 ?_
    exact px_zret dX5_isMissing_13 rfl (by first | rfl | exact zb_nar) (by first | exact ⟨z1 (by (simp only [Int32.le_iff_toInt_le, Int32.lt_iff_toInt_lt, ← Int32.toInt_inj, Int32.reduceToInt] at *; omega)), rfl⟩ | exact ⟨z0 (by (simp only [Int32.le_iff_toInt_le, Int32.lt_iff_toInt_lt, ← Int32.toInt_inj, Int32.reduceToInt] at *; omega)), rfl⟩) (rfl)
  · refine px_iconst dX5_isMissing_8 ic_1 ?_
    refine px_goto 13 dX5_isMissing_9 rfl ?_
    exact px_zret dX5_isMissing_13 rfl (by first | rfl | exact zb_nar) (by first | exact ⟨z1 (by (simp only [Int32.le_iff_toInt_le, Int32.lt_iff_toInt_lt, ← Int32.toInt_inj, Int32.reduceToInt] at *; omega)), rfl⟩ | exact ⟨z0 (by (simp only [Int32.le_iff_toInt_le, Int32.lt_iff_toInt_lt, ← Int32.toInt_inj, Int32.reduceToInt] at *; omega)), rfl⟩) (rfl)

set_option maxRecDepth 100000 in
theorem c_X9_isMissing {E : xE} {M : xMem} {a : Nat} (ha : xob a 9) (hM : xNT ≤ xN M) : Cf E mX9_isMissing [.ref a] M (some (.int (zb (M.1 a 1 = -1)))) M := by
  refine Ct.of (lo := [some (.ref a)]) pln_X9 (Nat.le_of_ble_eq_true rfl) rfl (Nat.le_refl _) ?_
  refine px_aload_n dX9_isMissing_0 rfl rfl ?_
  refine px_getI dX9_isMissing_1 fX9_15 (by first | assumption | exact xol rfl) hM rfl ?_
  refine px_iconst dX9_isMissing_4 ic_m1 ?_
  refine px_icmp_ne 12 dX9_isMissing_5 rfl (fun h5 => ?_) (fun h5 => ?_)
  · refine px_iconst dX9_isMissing_12 ic_0 ?_
    exact px_zret dX9_isMissing_13 rfl (by first | rfl | exact zb_nar) (by first | exact ⟨z1 (by (simp only [Int32.le_iff_toInt_le, Int32.lt_iff_toInt_lt, ← Int32.toInt_inj, Int32.reduceToInt] at *; omega)), rfl⟩ | exact ⟨z0 (by (simp only [Int32.le_iff_toInt_le, Int32.lt_iff_toInt_lt, ← Int32.toInt_inj, Int32.reduceToInt] at *; omega)), rfl⟩) (rfl)
  · refine px_iconst dX9_isMissing_8 ic_1 ?_
    refine px_goto 13 dX9_isMissing_9 rfl ?_
    exact px_zret dX9_isMissing_13 rfl (by first | rfl | exact zb_nar) (by first | exact ⟨z1 (by (simp only [Int32.le_iff_toInt_le, Int32.lt_iff_toInt_lt, ← Int32.toInt_inj, Int32.reduceToInt] at *; omega)), rfl⟩ | exact ⟨z0 (by (simp only [Int32.le_iff_toInt_le, Int32.lt_iff_toInt_lt, ← Int32.toInt_inj, Int32.reduceToInt] at *; omega)), rfl⟩) (rfl)

set_option maxRecDepth 100000 in
theorem c_X5_holds {E : xE} {M : xMem} {a : Nat} {i n : Int32} (ha : xob a 5) (hM : xNT ≤ xN M) : Cf E mX5_holds [.ref a, .int i, .int n] M (some (.int (zb (0 ≤ i ∧ i ≤ M.1 a 1 ∧ n ≤ M.1 a 1 - i)))) M := by
  refine Ct.of (lo := [some (.ref a), some (.int i), some (.int n)]) pln_X5 (Nat.le_of_ble_eq_true rfl) rfl (Nat.le_refl _) ?_
  refine px_iload_n dX5_holds_0 rfl rfl ?_
  refine px_if_lt 26 dX5_holds_1 rfl (fun h1 => ?_) (fun h1 => ?_)
  · refine px_iconst dX5_holds_26 ic_0 ?_
    exact px_zret dX5_holds_27 rfl (by first | rfl | exact zb_nar) (by first | exact ⟨z1 (by (simp only [Int32.le_iff_toInt_le, Int32.lt_iff_toInt_lt, ← Int32.toInt_inj, Int32.reduceToInt] at *; omega)), rfl⟩ | exact ⟨z0 (by (simp only [Int32.le_iff_toInt_le, Int32.lt_iff_toInt_lt, ← Int32.toInt_inj, Int32.reduceToInt] at *; omega)), rfl⟩) (rfl)
  · refine px_iload_n dX5_holds_4 rfl rfl ?_
    refine px_aload_n dX5_holds_5 rfl rfl ?_
    refine px_getI dX5_holds_6 fX5_15 (by first | assumption | exact xol rfl) hM rfl ?_
    refine px_icmp_gt 26 dX5_holds_9 rfl (fun h9 => ?_) (fun h9 => ?_)
    · refine px_iconst dX5_holds_26 ic_0 ?_
      exact px_zret dX5_holds_27 rfl (by first | rfl | exact zb_nar) (by first | exact ⟨z1 (by (simp only [Int32.le_iff_toInt_le, Int32.lt_iff_toInt_lt, ← Int32.toInt_inj, Int32.reduceToInt] at *; omega)), rfl⟩ | exact ⟨z0 (by (simp only [Int32.le_iff_toInt_le, Int32.lt_iff_toInt_lt, ← Int32.toInt_inj, Int32.reduceToInt] at *; omega)), rfl⟩) (rfl)
    · refine px_iload_n dX5_holds_12 rfl rfl ?_
      refine px_aload_n dX5_holds_13 rfl rfl ?_
      refine px_getI dX5_holds_14 fX5_15 (by first | assumption | exact xol rfl) hM rfl ?_
      refine px_iload_n dX5_holds_17 rfl rfl ?_
      refine px_isub dX5_holds_18 ?_
      refine px_icmp_gt 26 dX5_holds_19 rfl (fun h19 => ?_) (fun h19 => ?_)
      · refine px_iconst dX5_holds_26 ic_0 ?_
        exact px_zret dX5_holds_27 rfl (by first | rfl | exact zb_nar) (by first | exact ⟨z1 (by (simp only [Int32.le_iff_toInt_le, Int32.lt_iff_toInt_lt, ← Int32.toInt_inj, Int32.reduceToInt] at *; omega)), rfl⟩ | exact ⟨z0 (by (simp only [Int32.le_iff_toInt_le, Int32.lt_iff_toInt_lt, ← Int32.toInt_inj, Int32.reduceToInt] at *; omega)), rfl⟩) (rfl)
      · refine px_iconst dX5_holds_22 ic_1 ?_
        refine px_goto 27 dX5_holds_23 rfl ?_
        exact px_zret dX5_holds_27 rfl (by first | rfl | exact zb_nar) (by first | exact ⟨z1 (by (simp only [Int32.le_iff_toInt_le, Int32.lt_iff_toInt_lt, ← Int32.toInt_inj, Int32.reduceToInt] at *; omega)), rfl⟩ | exact ⟨z0 (by (simp only [Int32.le_iff_toInt_le, Int32.lt_iff_toInt_lt, ← Int32.toInt_inj, Int32.reduceToInt] at *; omega)), rfl⟩) (rfl)
