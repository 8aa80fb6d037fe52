/-! ===== the reference's frames ===== -/
/-- what is given of frame f, its place now -/
abbrev mg (M : xMem) (f k : Nat) : Int32 := M.1 81 (7 * f + k)
abbrev mn (M : xMem) (f k : Nat) : Int32 := M.1 83 (4 * f + k)
abbrev mAcr (M : xMem) (f : Nat) : Int32 := if mg M f 0 = 3 then mg M f 1 else mg M f 1 - mg M f 3 - mg M f 5
abbrev mDn (M : xMem) (f : Nat) : Int32 := if mg M f 0 = 3 then mg M f 2 else mg M f 2 - mg M f 4 - mg M f 6
abbrev mLf (M : xMem) (f : Nat) : Int32 := if mg M f 0 = 3 then 0 else mg M f 3
abbrev mAb (M : xMem) (f : Nat) : Int32 := if mg M f 0 = 3 then 0 else mg M f 4
abbrev mEd (M : xMem) (f : Nat) : Int32 := M.1 74 10 + (if mg M f 0 = 2 then 1 else 0)
abbrev mNX (M : xMem) (f : Nat) (z : Int32) : Int32 := 2 * mEd M f + (if z = 0 then mAcr M f else mDn M f)
abbrev mNY (M : xMem) (f : Nat) (z : Int32) : Int32 := mNX M f (1 - z)
theorem ixA (c f k : Nat) : nI c * nI f + nI k = nI (c * f + k) := by rw [pk_mul, nI_add]
theorem ixM (c f : Nat) : nI c * nI f = nI (c * f + 0) := by rw [pk_mul, Nat.add_zero]

set_option maxRecDepth 100000 in
theorem c_X11_kindOf {E : xE} {M : xMem} {f : Nat} (hf : f < 8) (hM : xNT ≤ xN M) (hW : xWire M.2.1) : Cf E mX11_kindOf [.ref 74, .int (nI f)] M (some (.int (mg M f 0))) M := by
  refine Ct.of (lo := [some (.ref 74), some (.int (nI f))]) pln_X11 (Nat.le_of_ble_eq_true rfl) rfl (Nat.le_refl _) ?_
  refine px_aload_n dX11_kindOf_0 rfl rfl ?_
  refine px_getR dX11_kindOf_1 fX11_29 (xol rfl) hM rfl (wr_11_12 hW (xol rfl)) (Nat.succ_pos _) ?_
  refine px_bipush dX11_kindOf_4 bp_7 ?_
  refine px_iload_n dX11_kindOf_6 rfl rfl ?_
  refine px_imul dX11_kindOf_7 ?_
  refine px_top (ixM 7 f) ?_
  refine px_iald dX11_kindOf_8 (xal (n := 56) rfl) hM (vp_in_nI (by omega) (by decide)) ?_
  exact px_iret dX11_kindOf_9 rfl ⟨by rw [nI_clamp (by omega)], rfl⟩ (rfl)

set_option maxRecDepth 100000 in
theorem c_X11_of {E : xE} {M : xMem} {f k : Nat} (hf : f < 8) (hk : k < 7) (hM : xNT ≤ xN M) (hW : xWire M.2.1) : Cf E mX11_of [.ref 74, .int (nI f), .int (nI k)] M (some (.int (mg M f k))) M := by
  refine Ct.of (lo := [some (.ref 74), some (.int (nI f)), some (.int (nI k))]) pln_X11 (Nat.le_of_ble_eq_true rfl) rfl (Nat.le_refl _) ?_
  refine px_aload_n dX11_of_0 rfl rfl ?_
  refine px_getR dX11_of_1 fX11_29 (xol rfl) hM rfl (wr_11_12 hW (xol rfl)) (Nat.succ_pos _) ?_
  refine px_bipush dX11_of_4 bp_7 ?_
  refine px_iload_n dX11_of_6 rfl rfl ?_
  refine px_imul dX11_of_7 ?_
  refine px_iload_n dX11_of_8 rfl rfl ?_
  refine px_iadd dX11_of_9 ?_
  refine px_top (ixA 7 f k) ?_
  refine px_iald dX11_of_10 (xal (n := 56) rfl) hM (vp_in_nI (by omega) (by decide)) ?_
  exact px_iret dX11_of_11 rfl ⟨by rw [nI_clamp (by omega)], rfl⟩ (rfl)

set_option maxRecDepth 100000 in
theorem c_X11_leftOf {E : xE} {M : xMem} {f : Nat} (hf : f < 8) (hM : xNT ≤ xN M) (hW : xWire M.2.1) : Cf E mX11_leftOf [.ref 74, .int (nI f)] M (some (.int (mLf M f))) M := by
  refine Ct.of (lo := [some (.ref 74), some (.int (nI f))]) pln_X11 (Nat.le_of_ble_eq_true rfl) rfl (Nat.le_refl _) ?_
  refine px_aload_n dX11_leftOf_0 rfl rfl ?_
  refine px_iload_n dX11_leftOf_1 rfl rfl ?_
  refine px_fV1i dX11_leftOf_2 kX11_leftOf_201 (xol rfl) hM (Nat.le_of_ble_eq_true rfl) (c_X11_kindOf hf hM hW) ?_
  refine px_iconst dX11_leftOf_5 ic_3 ?_
  refine px_icmp_ne 13 dX11_leftOf_6 rfl (fun h6 => ?_) (fun h6 => ?_)
  · refine px_aload_n dX11_leftOf_13 rfl rfl ?_
    refine px_iload_n dX11_leftOf_14 rfl rfl ?_
    refine px_iconst dX11_leftOf_15 ic_3 ?_
    refine px_fV2i dX11_leftOf_16 kX11_leftOf_208 (xol rfl) hM (Nat.le_of_ble_eq_true rfl) (c_X11_of (k := 3) hf (by decide) hM hW) ?_
    exact px_iret dX11_leftOf_19 rfl ⟨by first | rfl | (simp only [h6, not_true_eq_false, not_false_eq_true, if_true, if_false, and_self, or_true, true_or, or_false, false_or, true_and, and_true, false_and, and_false, reduceIte]; done) | (simp only [mLf, mAb, mAcr, mDn, mEd, mNX, h6, not_true_eq_false, not_false_eq_true, if_true, if_false, and_self, or_true, true_or, or_false, false_or, true_and, and_true, false_and, and_false, reduceIte]; done) | (simp [h6, mLf, mAb, mAcr, mDn, mEd, mNX]; done) | (simp_all [mLf, mAb, mAcr, mDn, mEd, mNX]; done), by first | rfl | (simp only [mLf, mAb, mAcr, mDn, mEd, mNX, h6, not_true_eq_false, not_false_eq_true, if_true, if_false, and_self, or_true, true_or, or_false, false_or, true_and, and_true, false_and, and_false, reduceIte])⟩ (rfl)
  · refine px_iconst dX11_leftOf_9 ic_0 ?_
    refine px_goto 19 dX11_leftOf_10 rfl ?_
    exact px_iret dX11_leftOf_19 rfl ⟨by first | rfl | (simp only [h6, not_true_eq_false, not_false_eq_true, if_true, if_false, and_self, or_true, true_or, or_false, false_or, true_and, and_true, false_and, and_false, reduceIte]; done) | (simp only [mLf, mAb, mAcr, mDn, mEd, mNX, h6, not_true_eq_false, not_false_eq_true, if_true, if_false, and_self, or_true, true_or, or_false, false_or, true_and, and_true, false_and, and_false, reduceIte]; done) | (simp [h6, mLf, mAb, mAcr, mDn, mEd, mNX]; done) | (simp_all [mLf, mAb, mAcr, mDn, mEd, mNX]; done), by first | rfl | (simp only [mLf, mAb, mAcr, mDn, mEd, mNX, h6, not_true_eq_false, not_false_eq_true, if_true, if_false, and_self, or_true, true_or, or_false, false_or, true_and, and_true, false_and, and_false, reduceIte])⟩ (rfl)

set_option maxRecDepth 100000 in
theorem c_X11_aboveOf {E : xE} {M : xMem} {f : Nat} (hf : f < 8) (hM : xNT ≤ xN M) (hW : xWire M.2.1) : Cf E mX11_aboveOf [.ref 74, .int (nI f)] M (some (.int (mAb M f))) M := by
  refine Ct.of (lo := [some (.ref 74), some (.int (nI f))]) pln_X11 (Nat.le_of_ble_eq_true rfl) rfl (Nat.le_refl _) ?_
  refine px_aload_n dX11_aboveOf_0 rfl rfl ?_
  refine px_iload_n dX11_aboveOf_1 rfl rfl ?_
  refine px_fV1i dX11_aboveOf_2 kX11_aboveOf_201 (xol rfl) hM (Nat.le_of_ble_eq_true rfl) (c_X11_kindOf hf hM hW) ?_
  refine px_iconst dX11_aboveOf_5 ic_3 ?_
  refine px_icmp_ne 13 dX11_aboveOf_6 rfl (fun h6 => ?_) (fun h6 => ?_)
  · refine px_aload_n dX11_aboveOf_13 rfl rfl ?_
    refine px_iload_n dX11_aboveOf_14 rfl rfl ?_
    refine px_iconst dX11_aboveOf_15 ic_4 ?_
    refine px_fV2i dX11_aboveOf_16 kX11_aboveOf_208 (xol rfl) hM (Nat.le_of_ble_eq_true rfl) (c_X11_of (k := 4) hf (by decide) hM hW) ?_
    exact px_iret dX11_aboveOf_19 rfl ⟨by first | rfl | (simp only [h6, not_true_eq_false, not_false_eq_true, if_true, if_false, and_self, or_true, true_or, or_false, false_or, true_and, and_true, false_and, and_false, reduceIte]; done) | (simp only [mLf, mAb, mAcr, mDn, mEd, mNX, h6, not_true_eq_false, not_false_eq_true, if_true, if_false, and_self, or_true, true_or, or_false, false_or, true_and, and_true, false_and, and_false, reduceIte]; done) | (simp [h6, mLf, mAb, mAcr, mDn, mEd, mNX]; done) | (simp_all [mLf, mAb, mAcr, mDn, mEd, mNX]; done), by first | rfl | (simp only [mLf, mAb, mAcr, mDn, mEd, mNX, h6, not_true_eq_false, not_false_eq_true, if_true, if_false, and_self, or_true, true_or, or_false, false_or, true_and, and_true, false_and, and_false, reduceIte])⟩ (rfl)
  · refine px_iconst dX11_aboveOf_9 ic_0 ?_
    refine px_goto 19 dX11_aboveOf_10 rfl ?_
    exact px_iret dX11_aboveOf_19 rfl ⟨by first | rfl | (simp only [h6, not_true_eq_false, not_false_eq_true, if_true, if_false, and_self, or_true, true_or, or_false, false_or, true_and, and_true, false_and, and_false, reduceIte]; done) | (simp only [mLf, mAb, mAcr, mDn, mEd, mNX, h6, not_true_eq_false, not_false_eq_true, if_true, if_false, and_self, or_true, true_or, or_false, false_or, true_and, and_true, false_and, and_false, reduceIte]; done) | (simp [h6, mLf, mAb, mAcr, mDn, mEd, mNX]; done) | (simp_all [mLf, mAb, mAcr, mDn, mEd, mNX]; done), by first | rfl | (simp only [mLf, mAb, mAcr, mDn, mEd, mNX, h6, not_true_eq_false, not_false_eq_true, if_true, if_false, and_self, or_true, true_or, or_false, false_or, true_and, and_true, false_and, and_false, reduceIte])⟩ (rfl)

set_option maxRecDepth 100000 in
theorem c_X11_across {E : xE} {M : xMem} {f : Nat} (hf : f < 8) (hM : xNT ≤ xN M) (hW : xWire M.2.1) : Cf E mX11_across [.ref 74, .int (nI f)] M (some (.int (mAcr M f))) M := by
  refine Ct.of (lo := [some (.ref 74), some (.int (nI f))]) pln_X11 (Nat.le_of_ble_eq_true rfl) rfl (Nat.le_refl _) ?_
  refine px_aload_n dX11_across_0 rfl rfl ?_
  refine px_iload_n dX11_across_1 rfl rfl ?_
  refine px_fV1i dX11_across_2 kX11_across_201 (xol rfl) hM (Nat.le_of_ble_eq_true rfl) (c_X11_kindOf hf hM hW) ?_
  refine px_iconst dX11_across_5 ic_3 ?_
  refine px_icmp_ne 18 dX11_across_6 rfl (fun h6 => ?_) (fun h6 => ?_)
  · refine px_aload_n dX11_across_18 rfl rfl ?_
    refine px_iload_n dX11_across_19 rfl rfl ?_
    refine px_iconst dX11_across_20 ic_1 ?_
    refine px_fV2i dX11_across_21 kX11_across_208 (xol rfl) hM (Nat.le_of_ble_eq_true rfl) (c_X11_of (k := 1) hf (by decide) hM hW) ?_
    refine px_aload_n dX11_across_24 rfl rfl ?_
    refine px_iload_n dX11_across_25 rfl rfl ?_
    refine px_iconst dX11_across_26 ic_3 ?_
    refine px_fV2i dX11_across_27 kX11_across_208 (xol rfl) hM (Nat.le_of_ble_eq_true rfl) (c_X11_of (k := 3) hf (by decide) hM hW) ?_
    refine px_isub dX11_across_30 ?_
    refine px_aload_n dX11_across_31 rfl rfl ?_
    refine px_iload_n dX11_across_32 rfl rfl ?_
    refine px_iconst dX11_across_33 ic_5 ?_
    refine px_fV2i dX11_across_34 kX11_across_208 (xol rfl) hM (Nat.le_of_ble_eq_true rfl) (c_X11_of (k := 5) hf (by decide) hM hW) ?_
    refine px_isub dX11_across_37 ?_
    exact px_iret dX11_across_38 rfl ⟨by first | rfl | (simp only [h6, not_true_eq_false, not_false_eq_true, if_true, if_false, and_self, or_true, true_or, or_false, false_or, true_and, and_true, false_and, and_false, reduceIte]; done) | (simp only [mLf, mAb, mAcr, mDn, mEd, mNX, h6, not_true_eq_false, not_false_eq_true, if_true, if_false, and_self, or_true, true_or, or_false, false_or, true_and, and_true, false_and, and_false, reduceIte]; done) | (simp [h6, mLf, mAb, mAcr, mDn, mEd, mNX]; done) | (simp_all [mLf, mAb, mAcr, mDn, mEd, mNX]; done), by first | rfl | (simp only [mLf, mAb, mAcr, mDn, mEd, mNX, h6, not_true_eq_false, not_false_eq_true, if_true, if_false, and_self, or_true, true_or, or_false, false_or, true_and, and_true, false_and, and_false, reduceIte])⟩ (rfl)
  · refine px_aload_n dX11_across_9 rfl rfl ?_
    refine px_iload_n dX11_across_10 rfl rfl ?_
    refine px_iconst dX11_across_11 ic_1 ?_
    refine px_fV2i dX11_across_12 kX11_across_208 (xol rfl) hM (Nat.le_of_ble_eq_true rfl) (c_X11_of (k := 1) hf (by decide) hM hW) ?_
    refine px_goto 38 dX11_across_15 rfl ?_
    exact px_iret dX11_across_38 rfl ⟨by first | rfl | (simp only [h6, not_true_eq_false, not_false_eq_true, if_true, if_false, and_self, or_true, true_or, or_false, false_or, true_and, and_true, false_and, and_false, reduceIte]; done) | (simp only [mLf, mAb, mAcr, mDn, mEd, mNX, h6, not_true_eq_false, not_false_eq_true, if_true, if_false, and_self, or_true, true_or, or_false, false_or, true_and, and_true, false_and, and_false, reduceIte]; done) | (simp [h6, mLf, mAb, mAcr, mDn, mEd, mNX]; done) | (simp_all [mLf, mAb, mAcr, mDn, mEd, mNX]; done), by first | rfl | (simp only [mLf, mAb, mAcr, mDn, mEd, mNX, h6, not_true_eq_false, not_false_eq_true, if_true, if_false, and_self, or_true, true_or, or_false, false_or, true_and, and_true, false_and, and_false, reduceIte])⟩ (rfl)

set_option maxRecDepth 100000 in
theorem c_X11_down {E : xE} {M : xMem} {f : Nat} (hf : f < 8) (hM : xNT ≤ xN M) (hW : xWire M.2.1) : Cf E mX11_down [.ref 74, .int (nI f)] M (some (.int (mDn M f))) M := by
  refine Ct.of (lo := [some (.ref 74), some (.int (nI f))]) pln_X11 (Nat.le_of_ble_eq_true rfl) rfl (Nat.le_refl _) ?_
  refine px_aload_n dX11_down_0 rfl rfl ?_
  refine px_iload_n dX11_down_1 rfl rfl ?_
  refine px_fV1i dX11_down_2 kX11_down_201 (xol rfl) hM (Nat.le_of_ble_eq_true rfl) (c_X11_kindOf hf hM hW) ?_
  refine px_iconst dX11_down_5 ic_3 ?_
  refine px_icmp_ne 18 dX11_down_6 rfl (fun h6 => ?_) (fun h6 => ?_)
  · refine px_aload_n dX11_down_18 rfl rfl ?_
    refine px_iload_n dX11_down_19 rfl rfl ?_
    refine px_iconst dX11_down_20 ic_2 ?_
    refine px_fV2i dX11_down_21 kX11_down_208 (xol rfl) hM (Nat.le_of_ble_eq_true rfl) (c_X11_of (k := 2) hf (by decide) hM hW) ?_
    refine px_aload_n dX11_down_24 rfl rfl ?_
    refine px_iload_n dX11_down_25 rfl rfl ?_
    refine px_iconst dX11_down_26 ic_4 ?_
    refine px_fV2i dX11_down_27 kX11_down_208 (xol rfl) hM (Nat.le_of_ble_eq_true rfl) (c_X11_of (k := 4) hf (by decide) hM hW) ?_
    refine px_isub dX11_down_30 ?_
    refine px_aload_n dX11_down_31 rfl rfl ?_
    refine px_iload_n dX11_down_32 rfl rfl ?_
    refine px_bipush dX11_down_33 bp_6 ?_
    refine px_fV2i dX11_down_35 kX11_down_208 (xol rfl) hM (Nat.le_of_ble_eq_true rfl) (c_X11_of (k := 6) hf (by decide) hM hW) ?_
    refine px_isub dX11_down_38 ?_
    exact px_iret dX11_down_39 rfl ⟨by first | rfl | (simp only [h6, not_true_eq_false, not_false_eq_true, if_true, if_false, and_self, or_true, true_or, or_false, false_or, true_and, and_true, false_and, and_false, reduceIte]; done) | (simp only [mLf, mAb, mAcr, mDn, mEd, mNX, h6, not_true_eq_false, not_false_eq_true, if_true, if_false, and_self, or_true, true_or, or_false, false_or, true_and, and_true, false_and, and_false, reduceIte]; done) | (simp [h6, mLf, mAb, mAcr, mDn, mEd, mNX]; done) | (simp_all [mLf, mAb, mAcr, mDn, mEd, mNX]; done), by first | rfl | (simp only [mLf, mAb, mAcr, mDn, mEd, mNX, h6, not_true_eq_false, not_false_eq_true, if_true, if_false, and_self, or_true, true_or, or_false, false_or, true_and, and_true, false_and, and_false, reduceIte])⟩ (rfl)
  · refine px_aload_n dX11_down_9 rfl rfl ?_
    refine px_iload_n dX11_down_10 rfl rfl ?_
    refine px_iconst dX11_down_11 ic_2 ?_
    refine px_fV2i dX11_down_12 kX11_down_208 (xol rfl) hM (Nat.le_of_ble_eq_true rfl) (c_X11_of (k := 2) hf (by decide) hM hW) ?_
    refine px_goto 39 dX11_down_15 rfl ?_
    exact px_iret dX11_down_39 rfl ⟨by first | rfl | (simp only [h6, not_true_eq_false, not_false_eq_true, if_true, if_false, and_self, or_true, true_or, or_false, false_or, true_and, and_true, false_and, and_false, reduceIte]; done) | (simp only [mLf, mAb, mAcr, mDn, mEd, mNX, h6, not_true_eq_false, not_false_eq_true, if_true, if_false, and_self, or_true, true_or, or_false, false_or, true_and, and_true, false_and, and_false, reduceIte]; done) | (simp [h6, mLf, mAb, mAcr, mDn, mEd, mNX]; done) | (simp_all [mLf, mAb, mAcr, mDn, mEd, mNX]; done), by first | rfl | (simp only [mLf, mAb, mAcr, mDn, mEd, mNX, h6, not_true_eq_false, not_false_eq_true, if_true, if_false, and_self, or_true, true_or, or_false, false_or, true_and, and_true, false_and, and_false, reduceIte])⟩ (rfl)

set_option maxRecDepth 100000 in
theorem c_X11_edge {E : xE} {M : xMem} {f : Nat} (hf : f < 8) (hM : xNT ≤ xN M) (hW : xWire M.2.1) : Cf E mX11_edge [.ref 74, .int (nI f)] M (some (.int (mEd M f))) M := by
  refine Ct.of (lo := [some (.ref 74), some (.int (nI f))]) pln_X11 (Nat.le_of_ble_eq_true rfl) rfl (Nat.le_refl _) ?_
  refine px_aload_n dX11_edge_0 rfl rfl ?_
  refine px_getI dX11_edge_1 fX11_176 (xol rfl) hM rfl ?_
  refine px_aload_n dX11_edge_4 rfl rfl ?_
  refine px_iload_n dX11_edge_5 rfl rfl ?_
  refine px_fV1i dX11_edge_6 kX11_edge_201 (xol rfl) hM (Nat.le_of_ble_eq_true rfl) (c_X11_kindOf hf hM hW) ?_
  refine px_iconst dX11_edge_9 ic_2 ?_
  refine px_icmp_ne 17 dX11_edge_10 rfl (fun h10 => ?_) (fun h10 => ?_)
  · refine px_iconst dX11_edge_17 ic_0 ?_
    refine px_iadd dX11_edge_18 ?_
    exact px_iret dX11_edge_19 rfl ⟨by first | rfl | (simp only [h10, not_true_eq_false, not_false_eq_true, if_true, if_false, and_self, or_true, true_or, or_false, false_or, true_and, and_true, false_and, and_false, reduceIte]; done) | (simp only [mLf, mAb, mAcr, mDn, mEd, mNX, h10, not_true_eq_false, not_false_eq_true, if_true, if_false, and_self, or_true, true_or, or_false, false_or, true_and, and_true, false_and, and_false, reduceIte]; done) | (simp [h10, mLf, mAb, mAcr, mDn, mEd, mNX]; done) | (simp_all [mLf, mAb, mAcr, mDn, mEd, mNX]; done), by first | rfl | (simp only [mLf, mAb, mAcr, mDn, mEd, mNX, h10, not_true_eq_false, not_false_eq_true, if_true, if_false, and_self, or_true, true_or, or_false, false_or, true_and, and_true, false_and, and_false, reduceIte])⟩ (rfl)
  · refine px_iconst dX11_edge_13 ic_1 ?_
    refine px_goto 18 dX11_edge_14 rfl ?_
    refine px_iadd dX11_edge_18 ?_
    exact px_iret dX11_edge_19 rfl ⟨by first | rfl | (simp only [h10, not_true_eq_false, not_false_eq_true, if_true, if_false, and_self, or_true, true_or, or_false, false_or, true_and, and_true, false_and, and_false, reduceIte]; done) | (simp only [mLf, mAb, mAcr, mDn, mEd, mNX, h10, not_true_eq_false, not_false_eq_true, if_true, if_false, and_self, or_true, true_or, or_false, false_or, true_and, and_true, false_and, and_false, reduceIte]; done) | (simp [h10, mLf, mAb, mAcr, mDn, mEd, mNX]; done) | (simp_all [mLf, mAb, mAcr, mDn, mEd, mNX]; done), by first | rfl | (simp only [mLf, mAb, mAcr, mDn, mEd, mNX, h10, not_true_eq_false, not_false_eq_true, if_true, if_false, and_self, or_true, true_or, or_false, false_or, true_and, and_true, false_and, and_false, reduceIte])⟩ (rfl)

set_option maxRecDepth 100000 in
theorem c_X11_needX {E : xE} {M : xMem} {f : Nat} {z : Int32} (hf : f < 8) (hM : xNT ≤ xN M) (hW : xWire M.2.1) : Cf E mX11_needX [.ref 74, .int (nI f), .int z] M (some (.int (mNX M f z))) M := by
  refine Ct.of (lo := [some (.ref 74), some (.int (nI f)), some (.int z)]) pln_X11 (Nat.le_of_ble_eq_true rfl) rfl (Nat.le_refl _) ?_
  refine px_iconst dX11_needX_0 ic_2 ?_
  refine px_aload_n dX11_needX_1 rfl rfl ?_
  refine px_iload_n dX11_needX_2 rfl rfl ?_
  refine px_fV1i dX11_needX_3 kX11_needX_211 (xol rfl) hM (Nat.le_of_ble_eq_true rfl) (c_X11_edge hf hM hW) ?_
  refine px_imul dX11_needX_6 ?_
  refine px_iload_n dX11_needX_7 rfl rfl ?_
  refine px_if_ne 19 dX11_needX_8 rfl (fun h8 => ?_) (fun h8 => ?_)
  · refine px_aload_n dX11_needX_19 rfl rfl ?_
    refine px_iload_n dX11_needX_20 rfl rfl ?_
    refine px_fV1i dX11_needX_21 kX11_needX_217 (xol rfl) hM (Nat.le_of_ble_eq_true rfl) (c_X11_down hf hM hW) ?_
    refine px_iadd dX11_needX_24 ?_
    exact px_iret dX11_needX_25 rfl ⟨by first | rfl | (simp only [h8, not_true_eq_false, not_false_eq_true, if_true, if_false, and_self, or_true, true_or, or_false, false_or, true_and, and_true, false_and, and_false, reduceIte]; done) | (simp only [mLf, mAb, mAcr, mDn, mEd, mNX, h8, not_true_eq_false, not_false_eq_true, if_true, if_false, and_self, or_true, true_or, or_false, false_or, true_and, and_true, false_and, and_false, reduceIte]; done) | (simp [h8, mLf, mAb, mAcr, mDn, mEd, mNX]; done) | (simp_all [mLf, mAb, mAcr, mDn, mEd, mNX]; done), by first | rfl | (simp only [mLf, mAb, mAcr, mDn, mEd, mNX, h8, not_true_eq_false, not_false_eq_true, if_true, if_false, and_self, or_true, true_or, or_false, false_or, true_and, and_true, false_and, and_false, reduceIte])⟩ (rfl)
  · refine px_aload_n dX11_needX_11 rfl rfl ?_
    refine px_iload_n dX11_needX_12 rfl rfl ?_
    refine px_fV1i dX11_needX_13 kX11_needX_214 (xol rfl) hM (Nat.le_of_ble_eq_true rfl) (c_X11_across hf hM hW) ?_
    refine px_goto 24 dX11_needX_16 rfl ?_
    refine px_iadd dX11_needX_24 ?_
    exact px_iret dX11_needX_25 rfl ⟨by first | rfl | (simp only [h8, not_true_eq_false, not_false_eq_true, if_true, if_false, and_self, or_true, true_or, or_false, false_or, true_and, and_true, false_and, and_false, reduceIte]; done) | (simp only [mLf, mAb, mAcr, mDn, mEd, mNX, h8, not_true_eq_false, not_false_eq_true, if_true, if_false, and_self, or_true, true_or, or_false, false_or, true_and, and_true, false_and, and_false, reduceIte]; done) | (simp [h8, mLf, mAb, mAcr, mDn, mEd, mNX]; done) | (simp_all [mLf, mAb, mAcr, mDn, mEd, mNX]; done), by first | rfl | (simp only [mLf, mAb, mAcr, mDn, mEd, mNX, h8, not_true_eq_false, not_false_eq_true, if_true, if_false, and_self, or_true, true_or, or_false, false_or, true_and, and_true, false_and, and_false, reduceIte])⟩ (rfl)

set_option maxRecDepth 100000 in
theorem c_X11_needY {E : xE} {M : xMem} {f : Nat} {z : Int32} (hf : f < 8) (hM : xNT ≤ xN M) (hW : xWire M.2.1) : Cf E mX11_needY [.ref 74, .int (nI f), .int z] M (some (.int (mNY M f z))) M := by
  refine Ct.of (lo := [some (.ref 74), some (.int (nI f)), some (.int z)]) pln_X11 (Nat.le_of_ble_eq_true rfl) rfl (Nat.le_refl _) ?_
  refine px_aload_n dX11_needY_0 rfl rfl ?_
  refine px_iload_n dX11_needY_1 rfl rfl ?_
  refine px_iconst dX11_needY_2 ic_1 ?_
  refine px_iload_n dX11_needY_3 rfl rfl ?_
  refine px_isub dX11_needY_4 ?_
  refine px_fV2i dX11_needY_5 kX11_needY_220 (xol rfl) hM (Nat.le_of_ble_eq_true rfl) (c_X11_needX hf hM hW) ?_
  exact px_iret dX11_needY_8 rfl ⟨rfl, rfl⟩ (rfl)

set_option maxRecDepth 100000 in
theorem c_X11_isSet {E : xE} {M : xMem} {f : Nat} (hf : f < 8) (hM : xNT ≤ xN M) (hW : xWire M.2.1) : Cf E mX11_isSet [.ref 74, .int (nI f)] M (some (.int (zb (0 ≤ mn M f 0)))) M := by
  refine Ct.of (lo := [some (.ref 74), some (.int (nI f))]) pln_X11 (Nat.le_of_ble_eq_true rfl) rfl (Nat.le_refl _) ?_
  refine px_aload_n dX11_isSet_0 rfl rfl ?_
  refine px_getR dX11_isSet_1 fX11_35 (xol rfl) hM rfl (wr_11_23 hW (xol rfl)) (Nat.succ_pos _) ?_
  refine px_iconst dX11_isSet_4 ic_4 ?_
  refine px_iload_n dX11_isSet_5 rfl rfl ?_
  refine px_imul dX11_isSet_6 ?_
  refine px_iconst dX11_isSet_7 ic_0 ?_
  refine px_iadd dX11_isSet_8 ?_
  refine px_top (ixA 4 f 0) ?_
  refine px_iald dX11_isSet_9 (xal (n := 33) rfl) hM (vp_in_nI (by omega) (by decide)) ?_
  refine px_top (y := mn M f 0) (by rw [nI_clamp (by omega)]) ?_
  refine px_if_lt 17 dX11_isSet_10 rfl (fun h10 => ?_) (fun h10 => ?_)
  · refine px_iconst dX11_isSet_17 ic_0 ?_
    exact px_zret dX11_isSet_18 rfl (by first | rfl | exact zb_nar) (by first | exact ⟨z1 (by (simp only [Int32.le_iff_toInt_le, Int32.lt_iff_toInt_lt, ← Int32.toInt_inj, Int32.reduceToInt] at *; omega)), rfl⟩ | exact ⟨z0 (by (simp only [Int32.le_iff_toInt_le, Int32.lt_iff_toInt_lt, ← Int32.toInt_inj, Int32.reduceToInt] at *; omega)), rfl⟩) (rfl)
  · refine px_iconst dX11_isSet_13 ic_1 ?_
    refine px_goto 18 dX11_isSet_14 rfl ?_
    exact px_zret dX11_isSet_18 rfl (by first | rfl | exact zb_nar) (by first | exact ⟨z1 (by (simp only [Int32.le_iff_toInt_le, Int32.lt_iff_toInt_lt, ← Int32.toInt_inj, Int32.reduceToInt] at *; omega)), rfl⟩ | exact ⟨z0 (by (simp only [Int32.le_iff_toInt_le, Int32.lt_iff_toInt_lt, ← Int32.toInt_inj, Int32.reduceToInt] at *; omega)), rfl⟩) (rfl)

set_option maxRecDepth 100000 in
theorem c_X11_turns {E : xE} {M : xMem} {f : Nat} (hf : f < 8) (hM : xNT ≤ xN M) (hW : xWire M.2.1) : Cf E mX11_turns [.ref 74, .int (nI f)] M (some (.int (if mg M f 0 = 1 then 1 else if mg M f 0 = 3 then 1 else 2))) M := by
  refine Ct.of (lo := [some (.ref 74), some (.int (nI f))]) pln_X11 (Nat.le_of_ble_eq_true rfl) rfl (Nat.le_refl _) ?_
  refine px_aload_n dX11_turns_0 rfl rfl ?_
  refine px_iload_n dX11_turns_1 rfl rfl ?_
  refine px_fV1i dX11_turns_2 kX11_turns_201 (xol rfl) hM (Nat.le_of_ble_eq_true rfl) (c_X11_kindOf hf hM hW) ?_
  refine px_iconst dX11_turns_5 ic_1 ?_
  refine px_icmp_eq 18 dX11_turns_6 rfl (fun h6 => ?_) (fun h6 => ?_)
  · refine px_iconst dX11_turns_18 ic_1 ?_
    refine px_goto 23 dX11_turns_19 rfl ?_
    exact px_iret dX11_turns_23 rfl ⟨by first | rfl | (simp only [h6, not_true_eq_false, not_false_eq_true, if_true, if_false, and_self, or_true, true_or, or_false, false_or, true_and, and_true, false_and, and_false, reduceIte]; done) | (simp only [mLf, mAb, mAcr, mDn, mEd, mNX, h6, not_true_eq_false, not_false_eq_true, if_true, if_false, and_self, or_true, true_or, or_false, false_or, true_and, and_true, false_and, and_false, reduceIte]; done) | (simp [h6, mLf, mAb, mAcr, mDn, mEd, mNX]; done) | (simp_all [mLf, mAb, mAcr, mDn, mEd, mNX]; done), by first | rfl | (simp only [mLf, mAb, mAcr, mDn, mEd, mNX, h6, not_true_eq_false, not_false_eq_true, if_true, if_false, and_self, or_true, true_or, or_false, false_or, true_and, and_true, false_and, and_false, reduceIte])⟩ (rfl)
  · refine px_aload_n dX11_turns_9 rfl rfl ?_
    refine px_iload_n dX11_turns_10 rfl rfl ?_
    refine px_fV1i dX11_turns_11 kX11_turns_201 (xol rfl) hM (Nat.le_of_ble_eq_true rfl) (c_X11_kindOf hf hM hW) ?_
    refine px_iconst dX11_turns_14 ic_3 ?_
    refine px_icmp_ne 22 dX11_turns_15 rfl (fun h15 => ?_) (fun h15 => ?_)
    · refine px_iconst dX11_turns_22 ic_2 ?_
      exact px_iret dX11_turns_23 rfl ⟨by first | rfl | (simp only [h6, h15, not_true_eq_false, not_false_eq_true, if_true, if_false, and_self, or_true, true_or, or_false, false_or, true_and, and_true, false_and, and_false, reduceIte]; done) | (simp only [mLf, mAb, mAcr, mDn, mEd, mNX, h6, h15, not_true_eq_false, not_false_eq_true, if_true, if_false, and_self, or_true, true_or, or_false, false_or, true_and, and_true, false_and, and_false, reduceIte]; done) | (simp [h6, h15, mLf, mAb, mAcr, mDn, mEd, mNX]; done) | (simp_all [mLf, mAb, mAcr, mDn, mEd, mNX]; done), by first | rfl | (simp only [mLf, mAb, mAcr, mDn, mEd, mNX, h6, h15, not_true_eq_false, not_false_eq_true, if_true, if_false, and_self, or_true, true_or, or_false, false_or, true_and, and_true, false_and, and_false, reduceIte])⟩ (rfl)
    · refine px_iconst dX11_turns_18 ic_1 ?_
      refine px_goto 23 dX11_turns_19 rfl ?_
      exact px_iret dX11_turns_23 rfl ⟨by first | rfl | (simp only [h6, h15, not_true_eq_false, not_false_eq_true, if_true, if_false, and_self, or_true, true_or, or_false, false_or, true_and, and_true, false_and, and_false, reduceIte]; done) | (simp only [mLf, mAb, mAcr, mDn, mEd, mNX, h6, h15, not_true_eq_false, not_false_eq_true, if_true, if_false, and_self, or_true, true_or, or_false, false_or, true_and, and_true, false_and, and_false, reduceIte]; done) | (simp [h6, h15, mLf, mAb, mAcr, mDn, mEd, mNX]; done) | (simp_all [mLf, mAb, mAcr, mDn, mEd, mNX]; done), by first | rfl | (simp only [mLf, mAb, mAcr, mDn, mEd, mNX, h6, h15, not_true_eq_false, not_false_eq_true, if_true, if_false, and_self, or_true, true_or, or_false, false_or, true_and, and_true, false_and, and_false, reduceIte])⟩ (rfl)

set_option maxRecDepth 100000 in
theorem c_X11_frameTells {E : xE} {M : xMem} {f : Nat} {w : Int32} (hf : f < 8) (hM : xNT ≤ xN M) (hW : xWire M.2.1) : Cf E mX11_frameTells [.ref 74, .int (nI f), .int w] M (some (.int (if w = 0 then mg M f 0 else if w = 1 then mAcr M f else if w = 2 then mDn M f else if w = 3 then mNX M f 0 else mNY M f 0))) M := by
  refine Ct.of (lo := [some (.ref 74), some (.int (nI f)), some (.int w)]) pln_X11 (Nat.le_of_ble_eq_true rfl) rfl (Nat.le_refl _) ?_
  refine px_iload_n dX11_frameTells_0 rfl rfl ?_
  by_cases s1_0 : w = 0
  · refine px_tableIn (off := 31) 32 dX11_frameTells_1 (by rw [s1_0]; decide) (by rw [s1_0]; decide) (by rw [s1_0]; rfl) rfl ?_
    refine px_aload_n dX11_frameTells_32 rfl rfl ?_
    refine px_iload_n dX11_frameTells_33 rfl rfl ?_
    refine px_fV1i dX11_frameTells_34 kX11_frameTells_201 (xol rfl) hM (Nat.le_of_ble_eq_true rfl) (c_X11_kindOf hf hM hW) ?_
    exact px_iret dX11_frameTells_37 rfl ⟨by first | rfl | (simp only [s1_0, not_true_eq_false, not_false_eq_true, if_true, if_false, and_self, or_true, true_or, or_false, false_or, true_and, and_true, false_and, and_false, reduceIte]; done) | (simp only [mLf, mAb, mAcr, mDn, mEd, mNX, s1_0, not_true_eq_false, not_false_eq_true, if_true, if_false, and_self, or_true, true_or, or_false, false_or, true_and, and_true, false_and, and_false, reduceIte]; done) | (simp [s1_0, mLf, mAb, mAcr, mDn, mEd, mNX]; done) | (simp_all [mLf, mAb, mAcr, mDn, mEd, mNX]; done), by first | rfl | (simp only [mLf, mAb, mAcr, mDn, mEd, mNX, s1_0, not_true_eq_false, not_false_eq_true, if_true, if_false, and_self, or_true, true_or, or_false, false_or, true_and, and_true, false_and, and_false, reduceIte])⟩ (rfl)
  by_cases s1_1 : w = 1
  · refine px_tableIn (off := 37) 38 dX11_frameTells_1 (by rw [s1_1]; decide) (by rw [s1_1]; decide) (by rw [s1_1]; rfl) rfl ?_
    refine px_aload_n dX11_frameTells_38 rfl rfl ?_
    refine px_iload_n dX11_frameTells_39 rfl rfl ?_
    refine px_fV1i dX11_frameTells_40 kX11_frameTells_214 (xol rfl) hM (Nat.le_of_ble_eq_true rfl) (c_X11_across hf hM hW) ?_
    exact px_iret dX11_frameTells_43 rfl ⟨by first | rfl | (simp only [s1_0, s1_1, not_true_eq_false, not_false_eq_true, if_true, if_false, and_self, or_true, true_or, or_false, false_or, true_and, and_true, false_and, and_false, reduceIte]; done) | (simp only [mLf, mAb, mAcr, mDn, mEd, mNX, s1_0, s1_1, not_true_eq_false, not_false_eq_true, if_true, if_false, and_self, or_true, true_or, or_false, false_or, true_and, and_true, false_and, and_false, reduceIte]; done) | (simp [s1_0, s1_1, mLf, mAb, mAcr, mDn, mEd, mNX]; done) | (simp_all [mLf, mAb, mAcr, mDn, mEd, mNX]; done), by first | rfl | (simp only [mLf, mAb, mAcr, mDn, mEd, mNX, s1_0, s1_1, not_true_eq_false, not_false_eq_true, if_true, if_false, and_self, or_true, true_or, or_false, false_or, true_and, and_true, false_and, and_false, reduceIte])⟩ (rfl)
  by_cases s1_2 : w = 2
  · refine px_tableIn (off := 43) 44 dX11_frameTells_1 (by rw [s1_2]; decide) (by rw [s1_2]; decide) (by rw [s1_2]; rfl) rfl ?_
    refine px_aload_n dX11_frameTells_44 rfl rfl ?_
    refine px_iload_n dX11_frameTells_45 rfl rfl ?_
    refine px_fV1i dX11_frameTells_46 kX11_frameTells_217 (xol rfl) hM (Nat.le_of_ble_eq_true rfl) (c_X11_down hf hM hW) ?_
    exact px_iret dX11_frameTells_49 rfl ⟨by first | rfl | (simp only [s1_0, s1_1, s1_2, not_true_eq_false, not_false_eq_true, if_true, if_false, and_self, or_true, true_or, or_false, false_or, true_and, and_true, false_and, and_false, reduceIte]; done) | (simp only [mLf, mAb, mAcr, mDn, mEd, mNX, s1_0, s1_1, s1_2, not_true_eq_false, not_false_eq_true, if_true, if_false, and_self, or_true, true_or, or_false, false_or, true_and, and_true, false_and, and_false, reduceIte]; done) | (simp [s1_0, s1_1, s1_2, mLf, mAb, mAcr, mDn, mEd, mNX]; done) | (simp_all [mLf, mAb, mAcr, mDn, mEd, mNX]; done), by first | rfl | (simp only [mLf, mAb, mAcr, mDn, mEd, mNX, s1_0, s1_1, s1_2, not_true_eq_false, not_false_eq_true, if_true, if_false, and_self, or_true, true_or, or_false, false_or, true_and, and_true, false_and, and_false, reduceIte])⟩ (rfl)
  by_cases s1_3 : w = 3
  · refine px_tableIn (off := 49) 50 dX11_frameTells_1 (by rw [s1_3]; decide) (by rw [s1_3]; decide) (by rw [s1_3]; rfl) rfl ?_
    refine px_aload_n dX11_frameTells_50 rfl rfl ?_
    refine px_iload_n dX11_frameTells_51 rfl rfl ?_
    refine px_iconst dX11_frameTells_52 ic_0 ?_
    refine px_fV2i dX11_frameTells_53 kX11_frameTells_220 (xol rfl) hM (Nat.le_of_ble_eq_true rfl) (c_X11_needX hf hM hW) ?_
    exact px_iret dX11_frameTells_56 rfl ⟨by first | rfl | (simp only [s1_0, s1_1, s1_2, s1_3, not_true_eq_false, not_false_eq_true, if_true, if_false, and_self, or_true, true_or, or_false, false_or, true_and, and_true, false_and, and_false, reduceIte]; done) | (simp only [mLf, mAb, mAcr, mDn, mEd, mNX, s1_0, s1_1, s1_2, s1_3, not_true_eq_false, not_false_eq_true, if_true, if_false, and_self, or_true, true_or, or_false, false_or, true_and, and_true, false_and, and_false, reduceIte]; done) | (simp [s1_0, s1_1, s1_2, s1_3, mLf, mAb, mAcr, mDn, mEd, mNX]; done) | (simp_all [mLf, mAb, mAcr, mDn, mEd, mNX]; done), by first | rfl | (simp only [mLf, mAb, mAcr, mDn, mEd, mNX, s1_0, s1_1, s1_2, s1_3, not_true_eq_false, not_false_eq_true, if_true, if_false, and_self, or_true, true_or, or_false, false_or, true_and, and_true, false_and, and_false, reduceIte])⟩ (rfl)
  refine px_tableOut 57 dX11_frameTells_1 (by simp only [← Int32.toInt_inj, Int32.reduceToInt] at *; omega) rfl ?_
  refine px_aload_n dX11_frameTells_57 rfl rfl ?_
  refine px_iload_n dX11_frameTells_58 rfl rfl ?_
  refine px_iconst dX11_frameTells_59 ic_0 ?_
  refine px_fV2i dX11_frameTells_60 kX11_frameTells_229 (xol rfl) hM (Nat.le_of_ble_eq_true rfl) (c_X11_needY hf hM hW) ?_
  exact px_iret dX11_frameTells_63 rfl ⟨by first | rfl | (simp only [s1_0, s1_1, s1_2, s1_3, not_true_eq_false, not_false_eq_true, if_true, if_false, and_self, or_true, true_or, or_false, false_or, true_and, and_true, false_and, and_false, reduceIte]; done) | (simp only [mLf, mAb, mAcr, mDn, mEd, mNX, s1_0, s1_1, s1_2, s1_3, not_true_eq_false, not_false_eq_true, if_true, if_false, and_self, or_true, true_or, or_false, false_or, true_and, and_true, false_and, and_false, reduceIte]; done) | (simp [s1_0, s1_1, s1_2, s1_3, mLf, mAb, mAcr, mDn, mEd, mNX]; done) | (simp_all [mLf, mAb, mAcr, mDn, mEd, mNX]; done), by first | rfl | (simp only [mLf, mAb, mAcr, mDn, mEd, mNX, s1_0, s1_1, s1_2, s1_3, not_true_eq_false, not_false_eq_true, if_true, if_false, and_self, or_true, true_or, or_false, false_or, true_and, and_true, false_and, and_false, reduceIte])⟩ (rfl)

set_option maxRecDepth 100000 in
theorem c_X11_clamped {E : xE} {M : xMem} {v m : Int32} : Cf E mX11_clamped [.int v, .int m] M (some (.int (if 0 ≤ v then (if v ≤ m then v else m) else 0))) M := by
  refine Ct.of (lo := [some (.int v), some (.int m)]) pln_X11 (Nat.le_of_ble_eq_true rfl) rfl (Nat.le_refl _) ?_
  refine px_iload_n dX11_clamped_0 rfl rfl ?_
  refine px_if_ge 8 dX11_clamped_1 rfl (fun h1 => ?_) (fun h1 => ?_)
  · refine px_iload_n dX11_clamped_8 rfl rfl ?_
    refine px_iload_n dX11_clamped_9 rfl rfl ?_
    refine px_icmp_le 17 dX11_clamped_10 rfl (fun h10 => ?_) (fun h10 => ?_)
    · refine px_iload_n dX11_clamped_17 rfl rfl ?_
      exact px_iret dX11_clamped_18 rfl ⟨by first | rfl | (simp only [h1, h10, not_true_eq_false, not_false_eq_true, if_true, if_false, and_self, or_true, true_or, or_false, false_or, true_and, and_true, false_and, and_false, reduceIte]; done) | (simp only [mLf, mAb, mAcr, mDn, mEd, mNX, h1, h10, not_true_eq_false, not_false_eq_true, if_true, if_false, and_self, or_true, true_or, or_false, false_or, true_and, and_true, false_and, and_false, reduceIte]; done) | (simp [h1, h10, mLf, mAb, mAcr, mDn, mEd, mNX]; done) | (simp_all [mLf, mAb, mAcr, mDn, mEd, mNX]; done), by first | rfl | (simp only [mLf, mAb, mAcr, mDn, mEd, mNX, h1, h10, not_true_eq_false, not_false_eq_true, if_true, if_false, and_self, or_true, true_or, or_false, false_or, true_and, and_true, false_and, and_false, reduceIte])⟩ (rfl)
    · refine px_iload_n dX11_clamped_13 rfl rfl ?_
      refine px_goto 18 dX11_clamped_14 rfl ?_
      exact px_iret dX11_clamped_18 rfl ⟨by first | rfl | (simp only [h1, h10, not_true_eq_false, not_false_eq_true, if_true, if_false, and_self, or_true, true_or, or_false, false_or, true_and, and_true, false_and, and_false, reduceIte]; done) | (simp only [mLf, mAb, mAcr, mDn, mEd, mNX, h1, h10, not_true_eq_false, not_false_eq_true, if_true, if_false, and_self, or_true, true_or, or_false, false_or, true_and, and_true, false_and, and_false, reduceIte]; done) | (simp [h1, h10, mLf, mAb, mAcr, mDn, mEd, mNX]; done) | (simp_all [mLf, mAb, mAcr, mDn, mEd, mNX]; done), by first | rfl | (simp only [mLf, mAb, mAcr, mDn, mEd, mNX, h1, h10, not_true_eq_false, not_false_eq_true, if_true, if_false, and_self, or_true, true_or, or_false, false_or, true_and, and_true, false_and, and_false, reduceIte])⟩ (rfl)
  · refine px_iconst dX11_clamped_4 ic_0 ?_
    refine px_goto 18 dX11_clamped_5 rfl ?_
    exact px_iret dX11_clamped_18 rfl ⟨by first | rfl | (simp only [h1, not_true_eq_false, not_false_eq_true, if_true, if_false, and_self, or_true, true_or, or_false, false_or, true_and, and_true, false_and, and_false, reduceIte]; done) | (simp only [mLf, mAb, mAcr, mDn, mEd, mNX, h1, not_true_eq_false, not_false_eq_true, if_true, if_false, and_self, or_true, true_or, or_false, false_or, true_and, and_true, false_and, and_false, reduceIte]; done) | (simp [h1, mLf, mAb, mAcr, mDn, mEd, mNX]; done) | (simp_all [mLf, mAb, mAcr, mDn, mEd, mNX]; done), by first | rfl | (simp only [mLf, mAb, mAcr, mDn, mEd, mNX, h1, not_true_eq_false, not_false_eq_true, if_true, if_false, and_self, or_true, true_or, or_false, false_or, true_and, and_true, false_and, and_false, reduceIte])⟩ (rfl)

set_option maxRecDepth 100000 in
theorem c_X11_has {E : xE} {M : xMem} {s k : Int32} : Cf E mX11_has [.int s, .int k] M (some (.int (zb ((s >>> (k &&& 31)) &&& 1 = 1)))) M := by
  refine Ct.of (lo := [some (.int s), some (.int k)]) pln_X11 (Nat.le_of_ble_eq_true rfl) rfl (Nat.le_refl _) ?_
  refine px_iload_n dX11_has_0 rfl rfl ?_
  refine px_iload_n dX11_has_1 rfl rfl ?_
  refine px_ishr dX11_has_2 ?_
  refine px_iconst dX11_has_3 ic_1 ?_
  refine px_iand dX11_has_4 ?_
  refine px_iconst dX11_has_5 ic_1 ?_
  refine px_icmp_ne 13 dX11_has_6 rfl (fun h6 => ?_) (fun h6 => ?_)
  · refine px_iconst dX11_has_13 ic_0 ?_
    exact px_zret dX11_has_14 rfl (by first | rfl | exact zb_nar) (by first | exact ⟨z1 (by assumption), rfl⟩ | exact ⟨z0 (by assumption), rfl⟩) (rfl)
  · refine px_iconst dX11_has_9 ic_1 ?_
    refine px_goto 14 dX11_has_10 rfl ?_
    exact px_zret dX11_has_14 rfl (by first | rfl | exact zb_nar) (by first | exact ⟨z1 (by assumption), rfl⟩ | exact ⟨z0 (by assumption), rfl⟩) (rfl)

set_option maxRecDepth 100000 in
theorem c_X11_isFrame {E : xE} {M : xMem} {v : Int32} (hM : xNT ≤ xN M) : Cf E mX11_isFrame [.ref 74, .int v] M (some (.int (zb (0 ≤ v ∧ v ≤ M.1 74 11 - 1)))) M := by
  refine Ct.of (lo := [some (.ref 74), some (.int v)]) pln_X11 (Nat.le_of_ble_eq_true rfl) rfl (Nat.le_refl _) ?_
  refine px_iload_n dX11_isFrame_0 rfl rfl ?_
  refine px_iconst dX11_isFrame_1 ic_0 ?_
  refine px_aload_n dX11_isFrame_2 rfl rfl ?_
  refine px_getI dX11_isFrame_3 fX11_179 (xol rfl) hM rfl ?_
  refine px_iconst dX11_isFrame_6 ic_1 ?_
  refine px_isub dX11_isFrame_7 ?_
  refine px_fS3i dX11_isFrame_8 kX11_isFrame_75 (Nat.le_of_ble_eq_true rfl) (c_X11_in) ?_
  exact px_zret dX11_isFrame_11 rfl (by first | rfl | exact zb_nar) ⟨rfl, rfl⟩ (rfl)

set_option maxRecDepth 100000 in
theorem c_X11_weight {E : xE} {M : xMem} {f : Nat} {w : Int32} (hf : f < 8) (hM : xNT ≤ xN M) (hW : xWire M.2.1) : Cf E mX11_weight [.ref 74, .int (nI f), .int w] M (some (.int (if w = 0 then 0 else if w = 1 then mNX M f 0 * mNY M f 0 else if mNX M f 0 ≤ mNY M f 0 then mNY M f 0 else mNX M f 0))) M := by
  refine Ct.of (lo := [some (.ref 74), some (.int (nI f)), some (.int w), none, none]) pln_X11 (Nat.le_of_ble_eq_true rfl) rfl (Nat.le_refl _) ?_
  refine px_aload_n dX11_weight_0 rfl rfl ?_
  refine px_iload_n dX11_weight_1 rfl rfl ?_
  refine px_iconst dX11_weight_2 ic_0 ?_
  refine px_fV2i dX11_weight_3 kX11_weight_220 (xol rfl) hM (Nat.le_of_ble_eq_true rfl) (c_X11_needX hf hM hW) ?_
  refine px_si_3 dX11_weight_6 rfl ?_
  refine px_aload_n dX11_weight_7 rfl rfl ?_
  refine px_iload_n dX11_weight_8 rfl rfl ?_
  refine px_iconst dX11_weight_9 ic_0 ?_
  refine px_fV2i dX11_weight_10 kX11_weight_229 (xol rfl) hM (Nat.le_of_ble_eq_true rfl) (c_X11_needY hf hM hW) ?_
  refine px_si_4 dX11_weight_13 rfl ?_
  refine px_iload_n dX11_weight_15 rfl rfl ?_
  refine px_if_ne 23 dX11_weight_16 rfl (fun h16 => ?_) (fun h16 => ?_)
  · refine px_iload_n dX11_weight_23 rfl rfl ?_
    refine px_iconst dX11_weight_24 ic_1 ?_
    refine px_icmp_ne 35 dX11_weight_25 rfl (fun h25 => ?_) (fun h25 => ?_)
    · refine px_iload_n dX11_weight_35 rfl rfl ?_
      refine px_iload dX11_weight_36 rfl ?_
      refine px_icmp_le 45 dX11_weight_38 rfl (fun h38 => ?_) (fun h38 => ?_)
      · refine px_iload dX11_weight_45 rfl ?_
        exact px_iret dX11_weight_47 rfl ⟨by first | rfl | (simp only [h16, h25, h38, not_true_eq_false, not_false_eq_true, if_true, if_false, and_self, or_true, true_or, or_false, false_or, true_and, and_true, false_and, and_false, reduceIte]; done) | (simp only [mLf, mAb, mAcr, mDn, mEd, mNX, h16, h25, h38, not_true_eq_false, not_false_eq_true, if_true, if_false, and_self, or_true, true_or, or_false, false_or, true_and, and_true, false_and, and_false, reduceIte]; done) | (simp [h16, h25, h38, mLf, mAb, mAcr, mDn, mEd, mNX]; done) | (simp_all [mLf, mAb, mAcr, mDn, mEd, mNX]; done), by first | rfl | (simp only [mLf, mAb, mAcr, mDn, mEd, mNX, h16, h25, h38, not_true_eq_false, not_false_eq_true, if_true, if_false, and_self, or_true, true_or, or_false, false_or, true_and, and_true, false_and, and_false, reduceIte])⟩ (rfl)
      · refine px_iload_n dX11_weight_41 rfl rfl ?_
        refine px_goto 47 dX11_weight_42 rfl ?_
        exact px_iret dX11_weight_47 rfl ⟨by first | rfl | (simp only [h16, h25, h38, not_true_eq_false, not_false_eq_true, if_true, if_false, and_self, or_true, true_or, or_false, false_or, true_and, and_true, false_and, and_false, reduceIte]; done) | (simp only [mLf, mAb, mAcr, mDn, mEd, mNX, h16, h25, h38, not_true_eq_false, not_false_eq_true, if_true, if_false, and_self, or_true, true_or, or_false, false_or, true_and, and_true, false_and, and_false, reduceIte]; done) | (simp [h16, h25, h38, mLf, mAb, mAcr, mDn, mEd, mNX]; done) | (simp_all [mLf, mAb, mAcr, mDn, mEd, mNX]; done), by first | rfl | (simp only [mLf, mAb, mAcr, mDn, mEd, mNX, h16, h25, h38, not_true_eq_false, not_false_eq_true, if_true, if_false, and_self, or_true, true_or, or_false, false_or, true_and, and_true, false_and, and_false, reduceIte])⟩ (rfl)
    · refine px_iload_n dX11_weight_28 rfl rfl ?_
      refine px_iload dX11_weight_29 rfl ?_
      refine px_imul dX11_weight_31 ?_
      refine px_goto 47 dX11_weight_32 rfl ?_
      exact px_iret dX11_weight_47 rfl ⟨by first | rfl | (simp only [h16, h25, not_true_eq_false, not_false_eq_true, if_true, if_false, and_self, or_true, true_or, or_false, false_or, true_and, and_true, false_and, and_false, reduceIte]; done) | (simp only [mLf, mAb, mAcr, mDn, mEd, mNX, h16, h25, not_true_eq_false, not_false_eq_true, if_true, if_false, and_self, or_true, true_or, or_false, false_or, true_and, and_true, false_and, and_false, reduceIte]; done) | (simp [h16, h25, mLf, mAb, mAcr, mDn, mEd, mNX]; done) | (simp_all [mLf, mAb, mAcr, mDn, mEd, mNX]; done), by first | rfl | (simp only [mLf, mAb, mAcr, mDn, mEd, mNX, h16, h25, not_true_eq_false, not_false_eq_true, if_true, if_false, and_self, or_true, true_or, or_false, false_or, true_and, and_true, false_and, and_false, reduceIte])⟩ (rfl)
  · refine px_iconst dX11_weight_19 ic_0 ?_
    refine px_goto 47 dX11_weight_20 rfl ?_
    exact px_iret dX11_weight_47 rfl ⟨by first | rfl | (simp only [h16, not_true_eq_false, not_false_eq_true, if_true, if_false, and_self, or_true, true_or, or_false, false_or, true_and, and_true, false_and, and_false, reduceIte]; done) | (simp only [mLf, mAb, mAcr, mDn, mEd, mNX, h16, not_true_eq_false, not_false_eq_true, if_true, if_false, and_self, or_true, true_or, or_false, false_or, true_and, and_true, false_and, and_false, reduceIte]; done) | (simp [h16, mLf, mAb, mAcr, mDn, mEd, mNX]; done) | (simp_all [mLf, mAb, mAcr, mDn, mEd, mNX]; done), by first | rfl | (simp only [mLf, mAb, mAcr, mDn, mEd, mNX, h16, not_true_eq_false, not_false_eq_true, if_true, if_false, and_self, or_true, true_or, or_false, false_or, true_and, and_true, false_and, and_false, reduceIte])⟩ (rfl)

/-- the pages that the first n frames take -/
def pgF (w : Nat → Int32) : Nat → Int32
  | 0 => 0
  | i + 1 => if w (4 * i) < pgF w i then pgF w i else w (4 * i) + 1

set_option maxRecDepth 100000 in
theorem l_X11_pageMany {E : xE} {M : xMem} {N : Nat} (hM : xNT ≤ xN M) (hW : xWire M.2.1) (hN : N ≤ 8) (hs : M.1 74 11 = nI N) : PR E mX11_pageMany (xN M) 4 [some (.ref 74), some (.int (pgF (M.1 83) 0)), some (.int (nI 0))] [] (M) (fun r m => r = some (.int (pgF (M.1 83) N)) ∧ m = M) := by
  refine px_for (P := fun i => PR E mX11_pageMany (xN M) 4 [some (.ref 74), some (.int (pgF (M.1 83) i)), some (.int (nI i))] [] (M) (fun r m => r = some (.int (pgF (M.1 83) N)) ∧ m = M)) (N) (fun i hi nx => ?_) (0) (by omega)
  refine px_iload_n dX11_pageMany_4 rfl rfl ?_
  refine px_aload_n dX11_pageMany_5 rfl rfl ?_
  refine px_getI dX11_pageMany_6 fX11_179 (xol rfl) hM rfl ?_
  refine px_top hs ?_
  refine px_icmp_ge 49 dX11_pageMany_9 rfl (fun h9 => ?_) (fun h9 => ?_)
  · have hi2 : i = N := by rw [nI_leI (by omega) (by omega)] at h9; omega
    refine px_iload_n dX11_pageMany_49 rfl rfl ?_
    exact px_iret dX11_pageMany_50 rfl ⟨by rw [hi2], rfl⟩ (rfl)
  · have hlt : i < N := by rw [nI_leI (by omega) (by omega)] at h9; omega
    refine px_aload_n dX11_pageMany_12 rfl rfl ?_
    refine px_getR dX11_pageMany_13 fX11_35 (xol rfl) hM rfl (wr_11_23 hW (xol rfl)) (Nat.succ_pos _) ?_
    refine px_iconst dX11_pageMany_16 ic_4 ?_
    refine px_iload_n dX11_pageMany_17 rfl rfl ?_
    refine px_imul dX11_pageMany_18 ?_
    refine px_iconst dX11_pageMany_19 ic_0 ?_
    refine px_iadd dX11_pageMany_20 ?_
    refine px_top (ixA 4 i 0) ?_
    refine px_iald dX11_pageMany_21 (xal (n := 33) rfl) hM (vp_in_nI (by omega) (by decide)) ?_
    refine px_top (y := M.1 83 (4 * i)) (by rw [nI_clamp (by omega)]; rfl) ?_
    refine px_iload_n dX11_pageMany_22 rfl rfl ?_
    refine px_icmp_lt 41 dX11_pageMany_23 rfl (fun h23 => ?_) (fun h23 => ?_)
    · refine px_iload_n dX11_pageMany_41 rfl rfl ?_
      refine px_si_1 dX11_pageMany_42 rfl ?_
      refine px_inc_2 dX11_pageMany_43 rfl ic_1 ?_
      refine px_goto 4 dX11_pageMany_46 rfl ?_
      first | exact px_eq (by rw [nI_1, pgF, if_pos h23]) rfl (nx hlt) | exact px_eq (by rw [nI_1, pgF, if_neg h23]) rfl (nx hlt)
    · refine px_aload_n dX11_pageMany_26 rfl rfl ?_
      refine px_getR dX11_pageMany_27 fX11_35 (xol rfl) hM rfl (wr_11_23 hW (xol rfl)) (Nat.succ_pos _) ?_
      refine px_iconst dX11_pageMany_30 ic_4 ?_
      refine px_iload_n dX11_pageMany_31 rfl rfl ?_
      refine px_imul dX11_pageMany_32 ?_
      refine px_iconst dX11_pageMany_33 ic_0 ?_
      refine px_iadd dX11_pageMany_34 ?_
      refine px_top (ixA 4 i 0) ?_
      refine px_iald dX11_pageMany_35 (xal (n := 33) rfl) hM (vp_in_nI (by omega) (by decide)) ?_
      refine px_top (y := M.1 83 (4 * i)) (by rw [nI_clamp (by omega)]; rfl) ?_
      refine px_iconst dX11_pageMany_36 ic_1 ?_
      refine px_iadd dX11_pageMany_37 ?_
      refine px_goto 42 dX11_pageMany_38 rfl ?_
      refine px_si_1 dX11_pageMany_42 rfl ?_
      refine px_inc_2 dX11_pageMany_43 rfl ic_1 ?_
      refine px_goto 4 dX11_pageMany_46 rfl ?_
      first | exact px_eq (by rw [nI_1, pgF, if_pos h23]) rfl (nx hlt) | exact px_eq (by rw [nI_1, pgF, if_neg h23]) rfl (nx hlt)

set_option maxRecDepth 100000 in
theorem c_X11_pageMany {E : xE} {M : xMem} {N : Nat} (hM : xNT ≤ xN M) (hW : xWire M.2.1) (hN : N ≤ 8) (hs : M.1 74 11 = nI N) : Cf E mX11_pageMany [.ref 74] M (some (.int (pgF (M.1 83) N))) M := by
  refine Ct.of (lo := [some (.ref 74), none, none]) pln_X11 (Nat.le_of_ble_eq_true rfl) rfl (Nat.le_refl _) ?_
  refine px_iconst dX11_pageMany_0 ic_0 ?_
  refine px_si_1 dX11_pageMany_1 rfl ?_
  refine px_iconst dX11_pageMany_2 ic_0 ?_
  refine px_si_2 dX11_pageMany_3 rfl ?_
  exact l_X11_pageMany hM hW hN hs

/-- the places that the first n frames take on a page -/
def tkF (M : xMem) (pg : Int32) : Nat → Int32
  | 0 => 0
  | i + 1 => tkF M pg i + (if mn M i 0 = pg then mNX M i 0 * mNY M i 0 else 0)

set_option maxRecDepth 100000 in
theorem l_X11_takenOf {E : xE} {M : xMem} {N : Nat} {pg : Int32} (hM : xNT ≤ xN M) (hW : xWire M.2.1) (hN : N ≤ 8) (hs : M.1 74 11 = nI N) : PR E mX11_takenOf (xN M) 4 [some (.ref 74), some (.int pg), some (.int (tkF M pg 0)), some (.int (nI 0))] [] (M) (fun r m => r = some (.int (tkF M pg N)) ∧ m = M) := by
  refine px_for (P := fun i => PR E mX11_takenOf (xN M) 4 [some (.ref 74), some (.int pg), some (.int (tkF M pg i)), some (.int (nI i))] [] (M) (fun r m => r = some (.int (tkF M pg N)) ∧ m = M)) (N) (fun i hi nx => ?_) (0) (by omega)
  refine px_iload_n dX11_takenOf_4 rfl rfl ?_
  refine px_aload_n dX11_takenOf_5 rfl rfl ?_
  refine px_getI dX11_takenOf_6 fX11_179 (xol rfl) hM rfl ?_
  refine px_top hs ?_
  refine px_icmp_ge 52 dX11_takenOf_9 rfl (fun h9 => ?_) (fun h9 => ?_)
  · have hi2 : i = N := by rw [nI_leI (by omega) (by omega)] at h9; omega
    refine px_iload_n dX11_takenOf_52 rfl rfl ?_
    exact px_iret dX11_takenOf_53 rfl ⟨by rw [hi2], rfl⟩ (rfl)
  · have hlt : i < N := by rw [nI_leI (by omega) (by omega)] at h9; omega
    have hf : i < 8 := by omega
    refine px_iload_n dX11_takenOf_12 rfl rfl ?_
    refine px_aload_n dX11_takenOf_13 rfl rfl ?_
    refine px_getR dX11_takenOf_14 fX11_35 (xol rfl) hM rfl (wr_11_23 hW (xol rfl)) (Nat.succ_pos _) ?_
    refine px_iconst dX11_takenOf_17 ic_4 ?_
    refine px_iload_n dX11_takenOf_18 rfl rfl ?_
    refine px_imul dX11_takenOf_19 ?_
    refine px_iconst dX11_takenOf_20 ic_0 ?_
    refine px_iadd dX11_takenOf_21 ?_
    refine px_top (ixA 4 i 0) ?_
    refine px_iald dX11_takenOf_22 (xal (n := 33) rfl) hM (vp_in_nI (by omega) (by decide)) ?_
    refine px_top (y := mn M i 0) (by rw [nI_clamp (by omega)]) ?_
    refine px_iload_n dX11_takenOf_23 rfl rfl ?_
    refine px_icmp_ne 43 dX11_takenOf_24 rfl (fun h24 => ?_) (fun h24 => ?_)
    · refine px_iconst dX11_takenOf_43 ic_0 ?_
      refine px_iadd dX11_takenOf_44 ?_
      refine px_si_2 dX11_takenOf_45 rfl ?_
      refine px_inc_3 dX11_takenOf_46 rfl ic_1 ?_
      refine px_goto 4 dX11_takenOf_49 rfl ?_
      first | exact px_eq (by rw [nI_1, tkF, if_pos h24]) rfl (nx hlt) | exact px_eq (by rw [nI_1, tkF, if_neg h24]) rfl (nx hlt)
    · refine px_aload_n dX11_takenOf_27 rfl rfl ?_
      refine px_iload_n dX11_takenOf_28 rfl rfl ?_
      refine px_iconst dX11_takenOf_29 ic_0 ?_
      refine px_fV2i dX11_takenOf_30 kX11_takenOf_220 (xol rfl) hM (Nat.le_of_ble_eq_true rfl) (c_X11_needX hf hM hW) ?_
      refine px_aload_n dX11_takenOf_33 rfl rfl ?_
      refine px_iload_n dX11_takenOf_34 rfl rfl ?_
      refine px_iconst dX11_takenOf_35 ic_0 ?_
      refine px_fV2i dX11_takenOf_36 kX11_takenOf_229 (xol rfl) hM (Nat.le_of_ble_eq_true rfl) (c_X11_needY hf hM hW) ?_
      refine px_imul dX11_takenOf_39 ?_
      refine px_goto 44 dX11_takenOf_40 rfl ?_
      refine px_iadd dX11_takenOf_44 ?_
      refine px_si_2 dX11_takenOf_45 rfl ?_
      refine px_inc_3 dX11_takenOf_46 rfl ic_1 ?_
      refine px_goto 4 dX11_takenOf_49 rfl ?_
      first | exact px_eq (by rw [nI_1, tkF, if_pos h24]) rfl (nx hlt) | exact px_eq (by rw [nI_1, tkF, if_neg h24]) rfl (nx hlt)

set_option maxRecDepth 100000 in
theorem c_X11_takenOf {E : xE} {M : xMem} {N : Nat} {pg : Int32} (hM : xNT ≤ xN M) (hW : xWire M.2.1) (hN : N ≤ 8) (hs : M.1 74 11 = nI N) : Cf E mX11_takenOf [.ref 74, .int pg] M (some (.int (tkF M pg N))) M := by
  refine Ct.of (lo := [some (.ref 74), some (.int pg), none, none]) pln_X11 (Nat.le_of_ble_eq_true rfl) rfl (Nat.le_refl _) ?_
  refine px_iconst dX11_takenOf_0 ic_0 ?_
  refine px_si_2 dX11_takenOf_1 rfl ?_
  refine px_iconst dX11_takenOf_2 ic_0 ?_
  refine px_si_3 dX11_takenOf_3 rfl ?_
  exact l_X11_takenOf hM hW hN hs
