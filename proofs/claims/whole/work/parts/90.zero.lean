/-! ===== the reference ahead of its first sheet: its row of places holds 0 there, and no call reads it ===== -/
theorem zfr {M : xMem} {v : Int32} (h0 : M.1 74 11 = 0) : ¬ (0 ≤ v ∧ v ≤ M.1 74 11 - 1) := by
  rw [h0, show (0 : Int32) - 1 = (-1 : Int32) from rfl]
  rintro ⟨h1, h2⟩
  simp only [Int32.le_iff_toInt_le, Int32.reduceToInt] at h1 h2
  omega
theorem zpg {v : Int32} : ¬ (0 ≤ v ∧ v ≤ (0 : Int32) - 1) := by
  rw [show (0 : Int32) - 1 = (-1 : Int32) from rfl]
  rintro ⟨h1, h2⟩
  simp only [Int32.le_iff_toInt_le, Int32.reduceToInt] at h1 h2
  omega

set_option maxRecDepth 100000 in
theorem z_frame {E : xE} {M : xMem} (hM : xNT ≤ xN M) (hW : xWire M.2.1) (h0 : M.1 74 11 = 0) {v0 v1 : Int32} : Cf E mX11_frame [.ref 74, .int v0, .int v1] M (some (.int (-1))) M := by
  refine Ct.of (lo := [some (.ref 74), some (.int v0), some (.int v1)]) pln_X11 (Nat.le_of_ble_eq_true rfl) rfl (Nat.le_refl _) ?_
  refine px_aload_n dX11_frame_0 rfl rfl ?_
  refine px_iload_n dX11_frame_1 rfl rfl ?_
  refine px_fV1i dX11_frame_2 kX11_frame_223 (xol rfl) hM (Nat.le_of_ble_eq_true rfl) (c_X11_isFrame hM) ?_
  refine px_zif_eq 17 dX11_frame_5 rfl (fun h5 => ?_) (fun h5 => ?_)
  · refine px_iconst dX11_frame_17 ic_m1 ?_
    exact px_iret dX11_frame_18 rfl ⟨rfl, rfl⟩ (rfl)
  · exact absurd h5 (zfr h0)

set_option maxRecDepth 100000 in
theorem z_place {E : xE} {M : xMem} (hM : xNT ≤ xN M) (hW : xWire M.2.1) (h0 : M.1 74 11 = 0) {v0 v1 : Int32} : Cf E mX11_place [.ref 74, .int v0, .int v1] M (some (.int (-1))) M := by
  refine Ct.of (lo := [some (.ref 74), some (.int v0), some (.int v1)]) pln_X11 (Nat.le_of_ble_eq_true rfl) rfl (Nat.le_refl _) ?_
  refine px_aload_n dX11_place_0 rfl rfl ?_
  refine px_iload_n dX11_place_1 rfl rfl ?_
  refine px_fV1i dX11_place_2 kX11_place_223 (xol rfl) hM (Nat.le_of_ble_eq_true rfl) (c_X11_isFrame hM) ?_
  refine px_zif_eq 17 dX11_place_5 rfl (fun h5 => ?_) (fun h5 => ?_)
  · refine px_iconst dX11_place_17 ic_m1 ?_
    exact px_iret dX11_place_18 rfl ⟨rfl, rfl⟩ (rfl)
  · exact absurd h5 (zfr h0)

set_option maxRecDepth 100000 in
theorem z_mark {E : xE} {M : xMem} (hM : xNT ≤ xN M) (hW : xWire M.2.1) (h0 : M.1 74 11 = 0) {v0 v1 : Int32} : Cf E mX11_mark [.ref 74, .int v0, .int v1] M (some (.int (-1))) M := by
  refine Ct.of (lo := [some (.ref 74), some (.int v0), some (.int v1), none, none]) pln_X11 (Nat.le_of_ble_eq_true rfl) rfl (Nat.le_refl _) ?_
  refine px_aload_n dX11_mark_0 rfl rfl ?_
  refine px_iload_n dX11_mark_1 rfl rfl ?_
  refine px_fV1i dX11_mark_2 kX11_mark_223 (xol rfl) hM (Nat.le_of_ble_eq_true rfl) (c_X11_isFrame hM) ?_
  refine px_zif_eq 17 dX11_mark_5 rfl (fun h5 => ?_) (fun h5 => ?_)
  · refine px_iconst dX11_mark_17 ic_m1 ?_
    exact px_iret dX11_mark_18 rfl ⟨rfl, rfl⟩ (rfl)
  · exact absurd h5 (zfr h0)

set_option maxRecDepth 100000 in
theorem z_point {E : xE} {M : xMem} (hM : xNT ≤ xN M) (hW : xWire M.2.1) (h0 : M.1 74 11 = 0) {v0 v1 v2 : Int32} : Cf E mX11_point [.ref 74, .int v0, .int v1, .int v2] M (some (.int (-1))) M := by
  refine Ct.of (lo := [some (.ref 74), some (.int v0), some (.int v1), some (.int v2), none, none, none, none, none]) pln_X11 (Nat.le_of_ble_eq_true rfl) rfl (Nat.le_refl _) ?_
  refine px_aload_n dX11_point_0 rfl rfl ?_
  refine px_iload_n dX11_point_1 rfl rfl ?_
  refine px_fV1i dX11_point_2 kX11_point_223 (xol rfl) hM (Nat.le_of_ble_eq_true rfl) (c_X11_isFrame hM) ?_
  refine px_zif_eq 40 dX11_point_5 rfl (fun h5 => ?_) (fun h5 => ?_)
  · refine px_iconst dX11_point_40 ic_m1 ?_
    exact px_iret dX11_point_41 rfl ⟨rfl, rfl⟩ (rfl)
  · exact absurd h5 (zfr h0)

set_option maxRecDepth 100000 in
theorem z_set {E : xE} {M : xMem} (hM : xNT ≤ xN M) (hW : xWire M.2.1) (h0 : M.1 74 11 = 0) {v0 : Int32} : Cf E mX11_set [.ref 74, .int v0] M (some (.int (-1))) M := by
  refine Ct.of (lo := [some (.ref 74), some (.int v0), none]) pln_X11 (Nat.le_of_ble_eq_true rfl) rfl (Nat.le_refl _) ?_
  refine px_aload_n dX11_set_0 rfl rfl ?_
  refine px_iload_n dX11_set_1 rfl rfl ?_
  refine px_fV1i dX11_set_2 kX11_set_223 (xol rfl) hM (Nat.le_of_ble_eq_true rfl) (c_X11_isFrame hM) ?_
  refine px_zif_ne 10 dX11_set_5 rfl (fun h5 => ?_) (fun h5 => ?_)
  · exact absurd h5 (zfr h0)
  · refine px_iconst dX11_set_8 ic_m1 ?_
    exact px_iret dX11_set_9 rfl ⟨rfl, rfl⟩ (rfl)

set_option maxRecDepth 100000 in
theorem z_lift {E : xE} {M : xMem} (hM : xNT ≤ xN M) (hW : xWire M.2.1) (h0 : M.1 74 11 = 0) {v0 : Int32} : Cf E mX11_lift [.ref 74, .int v0] M (some (.int (-1))) M := by
  refine Ct.of (lo := [some (.ref 74), some (.int v0)]) pln_X11 (Nat.le_of_ble_eq_true rfl) rfl (Nat.le_refl _) ?_
  refine px_aload_n dX11_lift_0 rfl rfl ?_
  refine px_iload_n dX11_lift_1 rfl rfl ?_
  refine px_fV1i dX11_lift_2 kX11_lift_223 (xol rfl) hM (Nat.le_of_ble_eq_true rfl) (c_X11_isFrame hM) ?_
  refine px_zif_ne 10 dX11_lift_5 rfl (fun h5 => ?_) (fun h5 => ?_)
  · exact absurd h5 (zfr h0)
  · refine px_iconst dX11_lift_8 ic_m1 ?_
    exact px_iret dX11_lift_9 rfl ⟨rfl, rfl⟩ (rfl)

set_option maxRecDepth 100000 in
theorem z_isPage {E : xE} {M : xMem} (hM : xNT ≤ xN M) (hW : xWire M.2.1) (h0 : M.1 74 11 = 0) {v0 : Int32} : Cf E mX11_isPage [.ref 74, .int v0] M (some (.int (zb (0 ≤ v0 ∧ v0 ≤ (0 : Int32) - 1)))) M := by
  refine Ct.of (lo := [some (.ref 74), some (.int v0)]) pln_X11 (Nat.le_of_ble_eq_true rfl) rfl (Nat.le_refl _) ?_
  refine px_iload_n dX11_isPage_0 rfl rfl ?_
  refine px_iconst dX11_isPage_1 ic_0 ?_
  refine px_aload_n dX11_isPage_2 rfl rfl ?_
  refine px_fV0i dX11_isPage_3 kX11_isPage_270 (xol rfl) hM (Nat.le_of_ble_eq_true rfl) (c_X11_pageMany (N := 0) hM hW (by decide) (h0.trans rfl)) ?_
  refine px_top (y := 0) rfl ?_
  refine px_iconst dX11_isPage_6 ic_1 ?_
  refine px_isub dX11_isPage_7 ?_
  refine px_fS3i dX11_isPage_8 kX11_isPage_75 (Nat.le_of_ble_eq_true rfl) (c_X11_in) ?_
  exact px_zret dX11_isPage_11 rfl (by first | rfl | exact zb_nar | exact zc_nar) ⟨rfl, rfl⟩ (rfl)

set_option maxRecDepth 100000 in
theorem z_free {E : xE} {M : xMem} (hM : xNT ≤ xN M) (hW : xWire M.2.1) (h0 : M.1 74 11 = 0) {v0 v1 v2 : Int32} : Cf E mX11_free [.ref 74, .int v0, .int v1, .int v2] M (some (.int (-1))) M := by
  refine Ct.of (lo := [some (.ref 74), some (.int v0), some (.int v1), some (.int v2)]) pln_X11 (Nat.le_of_ble_eq_true rfl) rfl (Nat.le_refl _) ?_
  refine px_aload_n dX11_free_0 rfl rfl ?_
  refine px_iload_n dX11_free_1 rfl rfl ?_
  refine px_fV1i dX11_free_2 kX11_free_302 (xol rfl) hM (Nat.le_of_ble_eq_true rfl) (z_isPage hM hW h0) ?_
  refine px_zif_eq 21 dX11_free_5 rfl (fun h5 => ?_) (fun h5 => ?_)
  · refine px_iconst dX11_free_21 ic_m1 ?_
    exact px_iret dX11_free_22 rfl ⟨rfl, rfl⟩ (rfl)
  · exact absurd h5 zpg

set_option maxRecDepth 100000 in
theorem z_seen {E : xE} {M : xMem} (hM : xNT ≤ xN M) (hW : xWire M.2.1) (h0 : M.1 74 11 = 0) {v0 v1 v2 : Int32} : Cf E mX11_seen [.ref 74, .int v0, .int v1, .int v2] M (some (.int (-1))) M := by
  refine Ct.of (lo := [some (.ref 74), some (.int v0), some (.int v1), some (.int v2), none, none, none, none, none, none]) pln_X11 (Nat.le_of_ble_eq_true rfl) rfl (Nat.le_refl _) ?_
  refine px_aload_n dX11_seen_0 rfl rfl ?_
  refine px_iload_n dX11_seen_1 rfl rfl ?_
  refine px_fV1i dX11_seen_2 kX11_seen_302 (xol rfl) hM (Nat.le_of_ble_eq_true rfl) (z_isPage hM hW h0) ?_
  refine px_zif_eq 36 dX11_seen_5 rfl (fun h5 => ?_) (fun h5 => ?_)
  · refine px_iconst dX11_seen_36 ic_m1 ?_
    exact px_iret dX11_seen_37 rfl ⟨rfl, rfl⟩ (rfl)
  · exact absurd h5 zpg

set_option maxRecDepth 100000 in
theorem z_used {E : xE} {M : xMem} (hM : xNT ≤ xN M) (hW : xWire M.2.1) (h0 : M.1 74 11 = 0) {v0 : Int32} : Cf E mX11_used [.ref 74, .int v0] M (some (.int (-1))) M := by
  refine Ct.of (lo := [some (.ref 74), some (.int v0), none]) pln_X11 (Nat.le_of_ble_eq_true rfl) rfl (Nat.le_refl _) ?_
  refine px_aload_n dX11_used_0 rfl rfl ?_
  refine px_iload_n dX11_used_1 rfl rfl ?_
  refine px_fV1i dX11_used_2 kX11_used_302 (xol rfl) hM (Nat.le_of_ble_eq_true rfl) (z_isPage hM hW h0) ?_
  refine px_zif_ne 10 dX11_used_5 rfl (fun h5 => ?_) (fun h5 => ?_)
  · exact absurd h5 zpg
  · refine px_iconst dX11_used_8 ic_m1 ?_
    exact px_iret dX11_used_9 rfl ⟨rfl, rfl⟩ (rfl)

set_option maxRecDepth 100000 in
theorem z_takes {E : xE} {M : xMem} (hM : xNT ≤ xN M) (hW : xWire M.2.1) (h0 : M.1 74 11 = 0) {v0 : Int32} : Cf E mX11_takes [.ref 74, .int v0] M (some (.int (-1))) M := by
  refine Ct.of (lo := [some (.ref 74), some (.int v0), none, none, none]) pln_X11 (Nat.le_of_ble_eq_true rfl) rfl (Nat.le_refl _) ?_
  refine px_aload_n dX11_takes_0 rfl rfl ?_
  refine px_iload_n dX11_takes_1 rfl rfl ?_
  refine px_fV1i dX11_takes_2 kX11_takes_302 (xol rfl) hM (Nat.le_of_ble_eq_true rfl) (z_isPage hM hW h0) ?_
  refine px_zif_ne 10 dX11_takes_5 rfl (fun h5 => ?_) (fun h5 => ?_)
  · exact absurd h5 zpg
  · refine px_iconst dX11_takes_8 ic_m1 ?_
    exact px_iret dX11_takes_9 rfl ⟨rfl, rfl⟩ (rfl)

set_option maxRecDepth 100000 in
theorem z_all {E : xE} {M : xMem} (hM : xNT ≤ xN M) (hW : xWire M.2.1) (h0 : M.1 74 11 = 0) {v0 : Int32} : Cf E mX11_all [.ref 74, .int v0] M (some (.int (-1))) M := by
  refine Ct.of (lo := [some (.ref 74), some (.int v0)]) pln_X11 (Nat.le_of_ble_eq_true rfl) rfl (Nat.le_refl _) ?_
  refine px_iload_n dX11_all_0 rfl rfl ?_
  refine px_iconst dX11_all_1 ic_0 ?_
  refine px_iconst dX11_all_2 ic_2 ?_
  refine px_fS3i dX11_all_3 kX11_all_75 (Nat.le_of_ble_eq_true rfl) (c_X11_in) ?_
  refine px_zif_eq 16 dX11_all_6 rfl (fun h6 => ?_) (fun h6 => ?_)
  · refine px_iconst dX11_all_16 ic_m1 ?_
    exact px_iret dX11_all_17 rfl ⟨rfl, rfl⟩ (rfl)
  · refine px_aload_n dX11_all_9 rfl rfl ?_
    refine px_getI dX11_all_10 fX11_179 (xol rfl) hM rfl ?_
    refine px_if_ne 18 dX11_all_13 rfl (fun h13 => ?_) (fun h13 => ?_)
    · exact absurd h0 h13
    · refine px_iconst dX11_all_16 ic_m1 ?_
      exact px_iret dX11_all_17 rfl ⟨rfl, rfl⟩ (rfl)

set_option maxRecDepth 100000 in
theorem z_would {E : xE} {M : xMem} (hM : xNT ≤ xN M) (hW : xWire M.2.1) (h0 : M.1 74 11 = 0) {v0 v1 : Int32} : Cf E mX11_would [.ref 74, .int v0, .int v1] M (some (.int (-1))) M := by
  refine Ct.of (lo := [some (.ref 74), some (.int v0), some (.int v1)]) pln_X11 (Nat.le_of_ble_eq_true rfl) rfl (Nat.le_refl _) ?_
  refine px_iload_n dX11_would_0 rfl rfl ?_
  refine px_iconst dX11_would_1 ic_0 ?_
  refine px_iconst dX11_would_2 ic_3 ?_
  refine px_fS3i dX11_would_3 kX11_would_75 (Nat.le_of_ble_eq_true rfl) (c_X11_in) ?_
  refine px_zif_eq 25 dX11_would_6 rfl (fun h6 => ?_) (fun h6 => ?_)
  · refine px_iconst dX11_would_25 ic_m1 ?_
    exact px_iret dX11_would_26 rfl ⟨rfl, rfl⟩ (rfl)
  · refine px_iload_n dX11_would_9 rfl rfl ?_
    refine px_iconst dX11_would_10 ic_0 ?_
    refine px_iconst dX11_would_11 ic_2 ?_
    refine px_fS3i dX11_would_12 kX11_would_75 (Nat.le_of_ble_eq_true rfl) (c_X11_in) ?_
    refine px_zif_eq 25 dX11_would_15 rfl (fun h15 => ?_) (fun h15 => ?_)
    · refine px_iconst dX11_would_25 ic_m1 ?_
      exact px_iret dX11_would_26 rfl ⟨rfl, rfl⟩ (rfl)
    · refine px_aload_n dX11_would_18 rfl rfl ?_
      refine px_getI dX11_would_19 fX11_179 (xol rfl) hM rfl ?_
      refine px_if_ne 27 dX11_would_22 rfl (fun h22 => ?_) (fun h22 => ?_)
      · exact absurd h0 h22
      · refine px_iconst dX11_would_25 ic_m1 ?_
        exact px_iret dX11_would_26 rfl ⟨rfl, rfl⟩ (rfl)

set_option maxRecDepth 100000 in
theorem z_best {E : xE} {M : xMem} (hM : xNT ≤ xN M) (hW : xWire M.2.1) (h0 : M.1 74 11 = 0) : Cf E mX11_best [.ref 74] M (some (.int (-4))) M := by
  refine Ct.of (lo := [some (.ref 74), none, none, none, none, none, none, none]) pln_X11 (Nat.le_of_ble_eq_true rfl) rfl (Nat.le_refl _) ?_
  refine px_aload_n dX11_best_0 rfl rfl ?_
  refine px_getI dX11_best_1 fX11_179 (xol rfl) hM rfl ?_
  refine px_if_ne 10 dX11_best_4 rfl (fun h4 => ?_) (fun h4 => ?_)
  · exact absurd h0 h4
  · refine px_bipush dX11_best_7 bp_m4 ?_
    exact px_iret dX11_best_9 rfl ⟨rfl, rfl⟩ (rfl)

set_option maxRecDepth 100000 in
theorem z_rule {E : xE} {M : xMem} (hM : xNT ≤ xN M) (hW : xWire M.2.1) (h0 : M.1 74 11 = 0) {v0 : Int32} : Cf E mX11_rule [.ref 74, .int v0] M (some (.int (if ¬ (0 ≤ v0 ∧ v0 ≤ 3) then -1 else -4))) M := by
  refine Ct.of (lo := [some (.ref 74), some (.int v0), none]) pln_X11 (Nat.le_of_ble_eq_true rfl) rfl (Nat.le_refl _) ?_
  refine px_iload_n dX11_rule_0 rfl rfl ?_
  refine px_iconst dX11_rule_1 ic_0 ?_
  refine px_iconst dX11_rule_2 ic_3 ?_
  refine px_fS3i dX11_rule_3 kX11_rule_75 (Nat.le_of_ble_eq_true rfl) (c_X11_in) ?_
  refine px_zif_ne 11 dX11_rule_6 rfl (fun h6 => ?_) (fun h6 => ?_)
  · refine px_aload_n dX11_rule_11 rfl rfl ?_
    refine px_getR dX11_rule_12 fX11_35 (xol rfl) hM rfl (wr_11_23 hW (xol rfl)) (Nat.succ_pos _) ?_
    refine px_bipush dX11_rule_15 bp_32 ?_
    refine px_iald dX11_rule_17 (xal (n := 33) rfl) hM (vp_in_nI (n := 32) (by decide) (by decide)) ?_
    refine px_si_2 dX11_rule_18 rfl ?_
    refine px_aload_n dX11_rule_19 rfl rfl ?_
    refine px_getI dX11_rule_20 fX11_179 (xol rfl) hM rfl ?_
    refine px_if_eq 31 dX11_rule_23 rfl (fun h23 => ?_) (fun h23 => ?_)
    · refine px_bipush dX11_rule_31 bp_m4 ?_
      exact px_iret dX11_rule_33 rfl ⟨by first | rfl | (simp only [h6, h23, not_true_eq_false, not_false_eq_true, if_true, if_false, and_self, or_true, true_or, or_false, false_or, true_and, and_true, false_and, and_false, reduceIte]), by first | rfl | (simp only [h6, h23, not_true_eq_false, not_false_eq_true, if_true, if_false, and_self, or_true, true_or, or_false, false_or, true_and, and_true, false_and, and_false, reduceIte])⟩ (rfl)
    · exact absurd h0 h23
  · refine px_iconst dX11_rule_9 ic_m1 ?_
    exact px_iret dX11_rule_10 rfl ⟨by first | rfl | (simp only [h6, not_true_eq_false, not_false_eq_true, if_true, if_false, and_self, or_true, true_or, or_false, false_or, true_and, and_true, false_and, and_false, reduceIte]), by first | rfl | (simp only [h6, not_true_eq_false, not_false_eq_true, if_true, if_false, and_self, or_true, true_or, or_false, false_or, true_and, and_true, false_and, and_false, reduceIte])⟩ (rfl)

set_option maxRecDepth 100000 in
theorem z_lots {E : xE} {M : xMem} (hM : xNT ≤ xN M) (hW : xWire M.2.1) (h0 : M.1 74 11 = 0) {v0 v1 : Int32} : Cf E mX11_lots [.ref 74, .int v0, .int v1] M (some (.int (if ¬ (1 ≤ v0 ∧ v0 ≤ 20) then -1 else if ¬ (1 ≤ v1 ∧ v1 ≤ 2147483646) then -1 else -4))) M := by
  refine Ct.of (lo := [some (.ref 74), some (.int v0), some (.int v1), none, none, none, none, none, none]) pln_X11 (Nat.le_of_ble_eq_true rfl) rfl (Nat.le_refl _) ?_
  refine px_iload_n dX11_lots_0 rfl rfl ?_
  refine px_iconst dX11_lots_1 ic_1 ?_
  refine px_bipush dX11_lots_2 bp_20 ?_
  refine px_fS3i dX11_lots_4 kX11_lots_75 (Nat.le_of_ble_eq_true rfl) (c_X11_in) ?_
  refine px_zif_eq 21 dX11_lots_7 rfl (fun h7 => ?_) (fun h7 => ?_)
  · refine px_iconst dX11_lots_21 ic_m1 ?_
    exact px_iret dX11_lots_22 rfl ⟨by first | rfl | (simp only [h7, not_true_eq_false, not_false_eq_true, if_true, if_false, and_self, or_true, true_or, or_false, false_or, true_and, and_true, false_and, and_false, reduceIte]), by first | rfl | (simp only [h7, not_true_eq_false, not_false_eq_true, if_true, if_false, and_self, or_true, true_or, or_false, false_or, true_and, and_true, false_and, and_false, reduceIte])⟩ (rfl)
  · refine px_iload_n dX11_lots_10 rfl rfl ?_
    refine px_iconst dX11_lots_11 ic_1 ?_
    refine px_ldcw dX11_lots_12 xw1518 ?_
    refine px_fS3i dX11_lots_15 kX11_lots_75 (Nat.le_of_ble_eq_true rfl) (c_X11_in) ?_
    refine px_zif_ne 23 dX11_lots_18 rfl (fun h18 => ?_) (fun h18 => ?_)
    · refine px_aload_n dX11_lots_23 rfl rfl ?_
      refine px_getI dX11_lots_24 fX11_179 (xol rfl) hM rfl ?_
      refine px_if_ne 33 dX11_lots_27 rfl (fun h27 => ?_) (fun h27 => ?_)
      · exact absurd h0 h27
      · refine px_bipush dX11_lots_30 bp_m4 ?_
        exact px_iret dX11_lots_32 rfl ⟨by first | rfl | (simp only [h7, h18, h27, not_true_eq_false, not_false_eq_true, if_true, if_false, and_self, or_true, true_or, or_false, false_or, true_and, and_true, false_and, and_false, reduceIte]), by first | rfl | (simp only [h7, h18, h27, not_true_eq_false, not_false_eq_true, if_true, if_false, and_self, or_true, true_or, or_false, false_or, true_and, and_true, false_and, and_false, reduceIte])⟩ (rfl)
    · refine px_iconst dX11_lots_21 ic_m1 ?_
      exact px_iret dX11_lots_22 rfl ⟨by first | rfl | (simp only [h7, h18, not_true_eq_false, not_false_eq_true, if_true, if_false, and_self, or_true, true_or, or_false, false_or, true_and, and_true, false_and, and_false, reduceIte]), by first | rfl | (simp only [h7, h18, not_true_eq_false, not_false_eq_true, if_true, if_false, and_self, or_true, true_or, or_false, false_or, true_and, and_true, false_and, and_false, reduceIte])⟩ (rfl)

set_option maxRecDepth 100000 in
theorem z_write {E : xE} {M : xMem} (hM : xNT ≤ xN M) (hW : xWire M.2.1) (h0 : M.1 74 11 = 0) {v0 : Int32} : Cf E mX11_write [.ref 74, .int v0] M (some (.int (if ¬ (0 ≤ v0 ∧ v0 ≤ 3) then -1 else -4))) M := by
  refine Ct.of (lo := [some (.ref 74), some (.int v0), none, none, none]) pln_X11 (Nat.le_of_ble_eq_true rfl) rfl (Nat.le_refl _) ?_
  refine px_iload_n dX11_write_0 rfl rfl ?_
  refine px_fS1i dX11_write_1 kX11_write_94 (Nat.le_of_ble_eq_true rfl) (c_X11_isText) ?_
  refine px_zif_ne 9 dX11_write_4 rfl (fun h4 => ?_) (fun h4 => ?_)
  · refine px_aload_n dX11_write_9 rfl rfl ?_
    refine px_getI dX11_write_10 fX11_179 (xol rfl) hM rfl ?_
    refine px_if_ne 19 dX11_write_13 rfl (fun h13 => ?_) (fun h13 => ?_)
    · exact absurd h0 h13
    · refine px_bipush dX11_write_16 bp_m4 ?_
      exact px_iret dX11_write_18 rfl ⟨by first | rfl | (simp only [h4, h13, not_true_eq_false, not_false_eq_true, if_true, if_false, and_self, or_true, true_or, or_false, false_or, true_and, and_true, false_and, and_false, reduceIte]), by first | rfl | (simp only [h4, h13, not_true_eq_false, not_false_eq_true, if_true, if_false, and_self, or_true, true_or, or_false, false_or, true_and, and_true, false_and, and_false, reduceIte])⟩ (rfl)
  · refine px_iconst dX11_write_7 ic_m1 ?_
    exact px_iret dX11_write_8 rfl ⟨by first | rfl | (simp only [h4, not_true_eq_false, not_false_eq_true, if_true, if_false, and_self, or_true, true_or, or_false, false_or, true_and, and_true, false_and, and_false, reduceIte]), by first | rfl | (simp only [h4, not_true_eq_false, not_false_eq_true, if_true, if_false, and_self, or_true, true_or, or_false, false_or, true_and, and_true, false_and, and_false, reduceIte])⟩ (rfl)

set_option maxRecDepth 100000 in
theorem z_setMany {E : xE} {M : xMem} (hM : xNT ≤ xN M) (hW : xWire M.2.1) (h0 : M.1 74 11 = 0) : Cf E mX11_setMany [.ref 74] M (some (.int 0)) M := by
  refine Ct.of (lo := [some (.ref 74), none, none]) pln_X11 (Nat.le_of_ble_eq_true rfl) rfl (Nat.le_refl _) ?_
  refine px_iconst dX11_setMany_0 ic_0 ?_
  refine px_si_1 dX11_setMany_1 rfl ?_
  refine px_iconst dX11_setMany_2 ic_0 ?_
  refine px_si_2 dX11_setMany_3 rfl ?_
  refine px_iload_n dX11_setMany_4 rfl rfl ?_
  refine px_aload_n dX11_setMany_5 rfl rfl ?_
  refine px_getI dX11_setMany_6 fX11_179 (xol rfl) hM rfl ?_
  refine px_top (y := 0) h0 ?_
  refine px_icmp_ge 34 dX11_setMany_9 rfl (fun h9 => ?_) (fun h9 => ?_)
  · refine px_iload_n dX11_setMany_34 rfl rfl ?_
    exact px_iret dX11_setMany_35 rfl ⟨rfl, rfl⟩ (rfl)
  · exact absurd (show (0 : Int32) ≤ 0 by decide) h9

set_option maxRecDepth 100000 in
theorem z_allTaken {E : xE} {M : xMem} (hM : xNT ≤ xN M) (hW : xWire M.2.1) (h0 : M.1 74 11 = 0) : Cf E mX11_allTaken [.ref 74] M (some (.int 0)) M := by
  refine Ct.of (lo := [some (.ref 74), none, none]) pln_X11 (Nat.le_of_ble_eq_true rfl) rfl (Nat.le_refl _) ?_
  refine px_iconst dX11_allTaken_0 ic_0 ?_
  refine px_si_1 dX11_allTaken_1 rfl ?_
  refine px_iconst dX11_allTaken_2 ic_0 ?_
  refine px_si_2 dX11_allTaken_3 rfl ?_
  refine px_iload_n dX11_allTaken_4 rfl rfl ?_
  refine px_aload_n dX11_allTaken_5 rfl rfl ?_
  refine px_fV0i dX11_allTaken_6 kX11_allTaken_270 (xol rfl) hM (Nat.le_of_ble_eq_true rfl) (c_X11_pageMany (N := 0) hM hW (by decide) (h0.trans rfl)) ?_
  refine px_top (y := 0) rfl ?_
  refine px_icmp_ge 26 dX11_allTaken_9 rfl (fun h9 => ?_) (fun h9 => ?_)
  · refine px_iload_n dX11_allTaken_26 rfl rfl ?_
    exact px_iret dX11_allTaken_27 rfl ⟨rfl, rfl⟩ (rfl)
  · exact absurd (show (0 : Int32) ≤ 0 by decide) h9

set_option maxRecDepth 100000 in
theorem z_allFree {E : xE} {M : xMem} (hM : xNT ≤ xN M) (hW : xWire M.2.1) (h0 : M.1 74 11 = 0) : Cf E mX11_allFree [.ref 74] M (some (.int 0)) M := by
  refine Ct.of (lo := [some (.ref 74), none, none]) pln_X11 (Nat.le_of_ble_eq_true rfl) rfl (Nat.le_refl _) ?_
  refine px_iconst dX11_allFree_0 ic_0 ?_
  refine px_si_1 dX11_allFree_1 rfl ?_
  refine px_iconst dX11_allFree_2 ic_0 ?_
  refine px_si_2 dX11_allFree_3 rfl ?_
  refine px_iload_n dX11_allFree_4 rfl rfl ?_
  refine px_aload_n dX11_allFree_5 rfl rfl ?_
  refine px_fV0i dX11_allFree_6 kX11_allFree_270 (xol rfl) hM (Nat.le_of_ble_eq_true rfl) (c_X11_pageMany (N := 0) hM hW (by decide) (h0.trans rfl)) ?_
  refine px_top (y := 0) rfl ?_
  refine px_icmp_ge 30 dX11_allFree_9 rfl (fun h9 => ?_) (fun h9 => ?_)
  · refine px_iload_n dX11_allFree_30 rfl rfl ?_
    exact px_iret dX11_allFree_31 rfl ⟨rfl, rfl⟩ (rfl)
  · exact absurd (show (0 : Int32) ≤ 0 by decide) h9

set_option maxRecDepth 100000 in
theorem z_counted {E : xE} {M : xMem} (hM : xNT ≤ xN M) (hW : xWire M.2.1) (h0 : M.1 74 11 = 0) (A D : Nat → Nat) (h36 : M.1 74 36 = 0) (h32 : M.1 83 32 = 0) (h8 : M.1 74 8 = 0) (h9 : M.1 74 9 = 0) (h10 : M.1 74 10 = 0) {K : Nat → aKep} (hK : kpM M K) (hz : mszOK M) {v : Int32} (hv : 0 ≤ v ∧ v ≤ 13) : Ct E mX11_counted [.ref 74, .int v] M (xN M) (fun r m => r = some (.int (aCnt 0 0 0 0 A D (fun _ => none, 0) 0 (rcN (fun r => M.1 76 r) 6) (rcN (fun r => M.1 79 r) 4) (kcN K 3) v)) ∧ mSc2 M m) := by
  refine Ct.of (lo := [some (.ref 74), some (.int v), none, none]) pln_X11 (Nat.le_of_ble_eq_true rfl) rfl (Nat.le_refl _) ?_
  refine px_iconst dX11_counted_0 ic_0 ?_
  refine px_si_2 dX11_counted_1 rfl ?_
  refine px_iload_n dX11_counted_2 rfl rfl ?_
  by_cases s3_0 : v = 0
  · refine px_tableIn (off := 65) 68 dX11_counted_3 (by rw [s3_0]; decide) (by rw [s3_0]; decide) (by rw [s3_0]; rfl) rfl ?_
    refine px_aload_n dX11_counted_68 rfl rfl ?_
    refine px_getI dX11_counted_69 fX11_179 (xol rfl) hM rfl ?_
    refine px_top (y := 0) h0 ?_
    exact px_iret dX11_counted_72 rfl (by rw [show aCnt 0 0 0 0 A D (fun _ => none, 0) 0 (rcN (fun r => M.1 76 r) 6) (rcN (fun r => M.1 79 r) 4) (kcN K 3) v = nI 0 from by unfold aCnt; rw [if_pos s3_0]]; exact ⟨rfl, mSc2.rf M⟩) (rfl)
  by_cases s3_1 : v = 1
  · refine px_tableIn (off := 70) 73 dX11_counted_3 (by rw [s3_1]; decide) (by rw [s3_1]; decide) (by rw [s3_1]; rfl) rfl ?_
    refine px_aload_n dX11_counted_73 rfl rfl ?_
    refine px_fV0i dX11_counted_74 kX11_counted_343 (xol rfl) hM (Nat.le_of_ble_eq_true rfl) (z_setMany hM hW h0) ?_
    exact px_iret dX11_counted_77 rfl (by rw [show aCnt 0 0 0 0 A D (fun _ => none, 0) 0 (rcN (fun r => M.1 76 r) 6) (rcN (fun r => M.1 79 r) 4) (kcN K 3) v = nI (stL (fun _ => none) 8) from by unfold aCnt; rw [if_neg s3_0, if_pos s3_1]]; exact ⟨rfl, mSc2.rf M⟩) (rfl)
  by_cases s3_2 : v = 2
  · refine px_tableIn (off := 75) 78 dX11_counted_3 (by rw [s3_2]; decide) (by rw [s3_2]; decide) (by rw [s3_2]; rfl) rfl ?_
    refine px_aload_n dX11_counted_78 rfl rfl ?_
    refine px_fV0i dX11_counted_79 kX11_counted_270 (xol rfl) hM (Nat.le_of_ble_eq_true rfl) (c_X11_pageMany (N := 0) hM hW (by decide) (h0.trans rfl)) ?_
    refine px_top (y := 0) rfl ?_
    exact px_iret dX11_counted_82 rfl (by rw [show aCnt 0 0 0 0 A D (fun _ => none, 0) 0 (rcN (fun r => M.1 76 r) 6) (rcN (fun r => M.1 79 r) 4) (kcN K 3) v = nI (pgL (fun _ => none) 8) from by unfold aCnt; rw [if_neg s3_0, if_neg s3_1, if_pos s3_2]]; exact ⟨rfl, mSc2.rf M⟩) (rfl)
  by_cases s3_3 : v = 3
  · refine px_tableIn (off := 80) 83 dX11_counted_3 (by rw [s3_3]; decide) (by rw [s3_3]; decide) (by rw [s3_3]; rfl) rfl ?_
    refine px_aload_n dX11_counted_83 rfl rfl ?_
    refine px_getI dX11_counted_84 fX11_170 (xol rfl) hM rfl ?_
    refine px_top (y := 0) h8 ?_
    exact px_iret dX11_counted_87 rfl (by rw [show aCnt 0 0 0 0 A D (fun _ => none, 0) 0 (rcN (fun r => M.1 76 r) 6) (rcN (fun r => M.1 79 r) 4) (kcN K 3) v = nI 0 from by unfold aCnt; rw [if_neg s3_0, if_neg s3_1, if_neg s3_2, if_pos s3_3]]; exact ⟨rfl, mSc2.rf M⟩) (rfl)
  by_cases s3_4 : v = 4
  · refine px_tableIn (off := 85) 88 dX11_counted_3 (by rw [s3_4]; decide) (by rw [s3_4]; decide) (by rw [s3_4]; rfl) rfl ?_
    refine px_aload_n dX11_counted_88 rfl rfl ?_
    refine px_getI dX11_counted_89 fX11_173 (xol rfl) hM rfl ?_
    refine px_top (y := 0) h9 ?_
    exact px_iret dX11_counted_92 rfl (by rw [show aCnt 0 0 0 0 A D (fun _ => none, 0) 0 (rcN (fun r => M.1 76 r) 6) (rcN (fun r => M.1 79 r) 4) (kcN K 3) v = nI 0 from by unfold aCnt; rw [if_neg s3_0, if_neg s3_1, if_neg s3_2, if_neg s3_3, if_pos s3_4]]; exact ⟨rfl, mSc2.rf M⟩) (rfl)
  by_cases s3_5 : v = 5
  · refine px_tableIn (off := 90) 93 dX11_counted_3 (by rw [s3_5]; decide) (by rw [s3_5]; decide) (by rw [s3_5]; rfl) rfl ?_
    refine px_aload_n dX11_counted_93 rfl rfl ?_
    refine px_getI dX11_counted_94 fX11_176 (xol rfl) hM rfl ?_
    refine px_top (y := 0) h10 ?_
    exact px_iret dX11_counted_97 rfl (by rw [show aCnt 0 0 0 0 A D (fun _ => none, 0) 0 (rcN (fun r => M.1 76 r) 6) (rcN (fun r => M.1 79 r) 4) (kcN K 3) v = nI 0 from by unfold aCnt; rw [if_neg s3_0, if_neg s3_1, if_neg s3_2, if_neg s3_3, if_neg s3_4, if_pos s3_5]]; exact ⟨rfl, mSc2.rf M⟩) (rfl)
  by_cases s3_6 : v = 6
  · refine px_tableIn (off := 95) 98 dX11_counted_3 (by rw [s3_6]; decide) (by rw [s3_6]; decide) (by rw [s3_6]; rfl) rfl ?_
    refine px_aload_n dX11_counted_98 rfl rfl ?_
    refine px_getR dX11_counted_99 fX11_35 (xol rfl) hM rfl (wr_11_23 hW (xol rfl)) (Nat.succ_pos _) ?_
    refine px_bipush dX11_counted_102 bp_32 ?_
    refine px_iald dX11_counted_104 (xal (n := 33) rfl) hM (vp_in_nI (n := 32) (by decide) (by decide)) ?_
    refine px_top (y := 0) h32 ?_
    exact px_iret dX11_counted_105 rfl (by rw [show aCnt 0 0 0 0 A D (fun _ => none, 0) 0 (rcN (fun r => M.1 76 r) 6) (rcN (fun r => M.1 79 r) 4) (kcN K 3) v = nI 0 from by unfold aCnt; rw [if_neg s3_0, if_neg s3_1, if_neg s3_2, if_neg s3_3, if_neg s3_4, if_neg s3_5, if_pos s3_6]]; exact ⟨rfl, mSc2.rf M⟩) (rfl)
  by_cases s3_7 : v = 7
  · refine px_tableIn (off := 103) 106 dX11_counted_3 (by rw [s3_7]; decide) (by rw [s3_7]; decide) (by rw [s3_7]; rfl) rfl ?_
    refine px_aload_n dX11_counted_106 rfl rfl ?_
    refine px_fV0i dX11_counted_107 kX11_counted_346 (xol rfl) hM (Nat.le_of_ble_eq_true rfl) (z_allTaken hM hW h0) ?_
    exact px_iret dX11_counted_110 rfl (by rw [show aCnt 0 0 0 0 A D (fun _ => none, 0) 0 (rcN (fun r => M.1 76 r) 6) (rcN (fun r => M.1 79 r) 4) (kcN K 3) v = nI (tkA A D (fun _ => none) 0 (pgL (fun _ => none) 8)) from by unfold aCnt; rw [if_neg s3_0, if_neg s3_1, if_neg s3_2, if_neg s3_3, if_neg s3_4, if_neg s3_5, if_neg s3_6, if_pos s3_7]]; exact ⟨rfl, mSc2.rf M⟩) (rfl)
  by_cases s3_8 : v = 8
  · refine px_tableIn (off := 108) 111 dX11_counted_3 (by rw [s3_8]; decide) (by rw [s3_8]; decide) (by rw [s3_8]; rfl) rfl ?_
    refine px_aload_n dX11_counted_111 rfl rfl ?_
    refine px_fV0i dX11_counted_112 kX11_counted_349 (xol rfl) hM (Nat.le_of_ble_eq_true rfl) (z_allFree hM hW h0) ?_
    exact px_iret dX11_counted_115 rfl (by rw [show aCnt 0 0 0 0 A D (fun _ => none, 0) 0 (rcN (fun r => M.1 76 r) 6) (rcN (fun r => M.1 79 r) 4) (kcN K 3) v = nI (frA 0 0 A D (fun _ => none) (pgL (fun _ => none) 8)) from by unfold aCnt; rw [if_neg s3_0, if_neg s3_1, if_neg s3_2, if_neg s3_3, if_neg s3_4, if_neg s3_5, if_neg s3_6, if_neg s3_7, if_pos s3_8]]; exact ⟨rfl, mSc2.rf M⟩) (rfl)
  by_cases s3_9 : v = 9
  · refine px_tableIn (off := 113) 116 dX11_counted_3 (by rw [s3_9]; decide) (by rw [s3_9]; decide) (by rw [s3_9]; rfl) rfl ?_
    refine px_iconst dX11_counted_116 ic_0 ?_
    refine px_si_3 dX11_counted_117 rfl ?_
    refine px_iload_n dX11_counted_118 rfl rfl ?_
    refine px_aload_n dX11_counted_119 rfl rfl ?_
    refine px_getI dX11_counted_120 fX11_179 (xol rfl) hM rfl ?_
    refine px_top (y := 0) h0 ?_
    refine px_icmp_ge 145 dX11_counted_123 rfl (fun h123 => ?_) (fun h123 => ?_)
    · refine px_iload_n dX11_counted_145 rfl rfl ?_
      exact px_iret dX11_counted_146 rfl (by rw [show aCnt 0 0 0 0 A D (fun _ => none, 0) 0 (rcN (fun r => M.1 76 r) 6) (rcN (fun r => M.1 79 r) 4) (kcN K 3) v = nI (tuL (fun _ => none) 8) from by unfold aCnt; rw [if_neg s3_0, if_neg s3_1, if_neg s3_2, if_neg s3_3, if_neg s3_4, if_neg s3_5, if_neg s3_6, if_neg s3_7, if_neg s3_8, if_pos s3_9]]; exact ⟨rfl, mSc2.rf M⟩) (rfl)
    · exact absurd (show (0 : Int32) ≤ 0 by decide) h123
  by_cases s3_10 : v = 10
  · refine px_tableIn (off := 144) 147 dX11_counted_3 (by rw [s3_10]; decide) (by rw [s3_10]; decide) (by rw [s3_10]; rfl) rfl ?_
    refine px_aload_n dX11_counted_147 rfl rfl ?_
    refine px_getI dX11_counted_148 fX11_185 (xol rfl) hM rfl ?_
    refine px_top (y := 0) h36 ?_
    exact px_iret dX11_counted_151 rfl (by rw [show aCnt 0 0 0 0 A D (fun _ => none, 0) 0 (rcN (fun r => M.1 76 r) 6) (rcN (fun r => M.1 79 r) 4) (kcN K 3) v = nI 0 from by unfold aCnt; rw [if_neg s3_0, if_neg s3_1, if_neg s3_2, if_neg s3_3, if_neg s3_4, if_neg s3_5, if_neg s3_6, if_neg s3_7, if_neg s3_8, if_neg s3_9, if_pos s3_10]]; exact ⟨rfl, mSc2.rf M⟩) (rfl)
  by_cases s3_11 : v = 11
  · refine px_tableIn (off := 149) 152 dX11_counted_3 (by rw [s3_11]; decide) (by rw [s3_11]; decide) (by rw [s3_11]; rfl) rfl ?_
    refine px_iconst dX11_counted_152 ic_0 ?_
    refine px_si_3 dX11_counted_153 rfl ?_
    rw [show aCnt 0 0 0 0 A D (fun _ => none, 0) 0 (rcN (fun r => M.1 76 r) 6) (rcN (fun r => M.1 79 r) 4) (kcN K 3) v = nI (rcN (fun r => M.1 76 r) 6) from by unfold aCnt; rw [if_neg s3_0, if_neg s3_1, if_neg s3_2, if_neg s3_3, if_neg s3_4, if_neg s3_5, if_neg s3_6, if_neg s3_7, if_neg s3_8, if_neg s3_9, if_neg s3_10, if_pos s3_11]]
    refine px_q ?_ (l_cnt154 hM hW hz.1)
    rintro r m ⟨h1, h2⟩
    exact ⟨h1, by rw [h2]; exact mSc2.rf M⟩
  by_cases s3_12 : v = 12
  · refine px_tableIn (off := 182) 185 dX11_counted_3 (by rw [s3_12]; decide) (by rw [s3_12]; decide) (by rw [s3_12]; rfl) rfl ?_
    refine px_iconst dX11_counted_185 ic_0 ?_
    refine px_si_3 dX11_counted_186 rfl ?_
    rw [show aCnt 0 0 0 0 A D (fun _ => none, 0) 0 (rcN (fun r => M.1 76 r) 6) (rcN (fun r => M.1 79 r) 4) (kcN K 3) v = nI (rcN (fun r => M.1 79 r) 4) from by unfold aCnt; rw [if_neg s3_0, if_neg s3_1, if_neg s3_2, if_neg s3_3, if_neg s3_4, if_neg s3_5, if_neg s3_6, if_neg s3_7, if_neg s3_8, if_neg s3_9, if_neg s3_10, if_neg s3_11, if_pos s3_12]]
    refine px_q ?_ (l_cnt187 hM hW hz.2)
    rintro r m ⟨h1, h2⟩
    exact ⟨h1, by rw [h2]; exact mSc2.rf M⟩
  refine px_tableOut 217 dX11_counted_3 (by clear h0 h36 h32 h8 h9 h10 hz hK; simp only [← Int32.toInt_inj, Int32.reduceToInt] at *; omega) rfl ?_
  have e13 : v = 13 := by
    clear h0 h36 h32 h8 h9 h10 hz hK
    (simp only [Int32.le_iff_toInt_le, Int32.lt_iff_toInt_lt, ← Int32.toInt_inj, Int32.reduceToInt] at *; omega)
  refine px_iconst dX11_counted_217 ic_0 ?_
  refine px_si_3 dX11_counted_218 rfl ?_
  rw [show aCnt 0 0 0 0 A D (fun _ => none, 0) 0 (rcN (fun r => M.1 76 r) 6) (rcN (fun r => M.1 79 r) 4) (kcN K 3) v = nI (kcN K 3) from by unfold aCnt; rw [if_neg s3_0, if_neg s3_1, if_neg s3_2, if_neg s3_3, if_neg s3_4, if_neg s3_5, if_neg s3_6, if_neg s3_7, if_neg s3_8, if_neg s3_9, if_neg s3_10, if_neg s3_11, if_neg s3_12, if_pos e13]]
  refine px_q ?_ (l_cnt219 hM hW hK)
  rintro r m ⟨h1, h2⟩
  exact ⟨h1, by rw [h2]; exact mSc2.rf M⟩

set_option maxRecDepth 100000 in
theorem z_count {E : xE} {M : xMem} (hM : xNT ≤ xN M) (hW : xWire M.2.1) (h0 : M.1 74 11 = 0) (A D : Nat → Nat) (h36 : M.1 74 36 = 0) (h32 : M.1 83 32 = 0) (h8 : M.1 74 8 = 0) (h9 : M.1 74 9 = 0) (h10 : M.1 74 10 = 0) {K : Nat → aKep} (hK : kpM M K) (hz : mszOK M) {v : Int32} : Ct E mX11_count [.ref 74, .int v] M (xN M) (fun r m => r = some (.int (aCnt 0 0 0 0 A D (fun _ => none, 0) 0 (rcN (fun r => M.1 76 r) 6) (rcN (fun r => M.1 79 r) 4) (kcN K 3) v)) ∧ rS M m) := by
  refine Ct.of (lo := [some (.ref 74), some (.int v)]) pln_X11 (Nat.le_of_ble_eq_true rfl) rfl (Nat.le_refl _) ?_
  refine px_iload_n dX11_count_0 rfl rfl ?_
  refine px_iconst dX11_count_1 ic_0 ?_
  refine px_bipush dX11_count_2 bp_13 ?_
  refine px_fS3i dX11_count_4 kX11_count_75 (Nat.le_of_ble_eq_true rfl) (c_X11_in) ?_
  refine px_zif_eq 18 dX11_count_7 rfl (fun h7 => ?_) (fun h7 => ?_)
  · refine px_iconst dX11_count_18 ic_m1 ?_
    exact px_iret dX11_count_19 rfl (by first
          | exact ⟨rfl, q1.r⟩
          | exact ⟨by rw [show aCnt 0 0 0 0 A D (fun _ => none, 0) 0 (rcN (fun r => M.1 76 r) 6) (rcN (fun r => M.1 79 r) 4) (kcN K 3) v = -1 from by unfold aCnt; rw [if_neg (fun z => h7 (by rw [z]; decide)), if_neg (fun z => h7 (by rw [z]; decide)), if_neg (fun z => h7 (by rw [z]; decide)), if_neg (fun z => h7 (by rw [z]; decide)), if_neg (fun z => h7 (by rw [z]; decide)), if_neg (fun z => h7 (by rw [z]; decide)), if_neg (fun z => h7 (by rw [z]; decide)), if_neg (fun z => h7 (by rw [z]; decide)), if_neg (fun z => h7 (by rw [z]; decide)), if_neg (fun z => h7 (by rw [z]; decide)), if_neg (fun z => h7 (by rw [z]; decide)), if_neg (fun z => h7 (by rw [z]; decide)), if_neg (fun z => h7 (by rw [z]; decide)), if_neg (fun z => h7 (by rw [z]; decide))]], rS.rf M⟩) (by first | rfl | exact hn12)
  · refine px_aload_n dX11_count_10 rfl rfl ?_
    refine px_iload_n dX11_count_11 rfl rfl ?_
    refine px_gV1 dX11_count_12 kX11_count_352 (xol rfl) hM (Nat.le_of_ble_eq_true rfl) (z_counted hM hW h0 A D h36 h32 h8 h9 h10 hK hz h7) (fun r12 M12 hq12 hn12 => ?_)
    obtain ⟨rfl, q1⟩ := hq12
    refine px_goto 19 dX11_count_15 rfl ?_
    exact px_iret dX11_count_19 rfl (by first
          | exact ⟨rfl, q1.r⟩
          | exact ⟨by rw [show aCnt 0 0 0 0 A D (fun _ => none, 0) 0 (rcN (fun r => M.1 76 r) 6) (rcN (fun r => M.1 79 r) 4) (kcN K 3) v = -1 from by unfold aCnt; rw [if_neg (fun z => h7 (by rw [z]; decide)), if_neg (fun z => h7 (by rw [z]; decide)), if_neg (fun z => h7 (by rw [z]; decide)), if_neg (fun z => h7 (by rw [z]; decide)), if_neg (fun z => h7 (by rw [z]; decide)), if_neg (fun z => h7 (by rw [z]; decide)), if_neg (fun z => h7 (by rw [z]; decide)), if_neg (fun z => h7 (by rw [z]; decide)), if_neg (fun z => h7 (by rw [z]; decide)), if_neg (fun z => h7 (by rw [z]; decide)), if_neg (fun z => h7 (by rw [z]; decide)), if_neg (fun z => h7 (by rw [z]; decide)), if_neg (fun z => h7 (by rw [z]; decide)), if_neg (fun z => h7 (by rw [z]; decide))]], rS.rf M⟩) (by first | rfl | exact hn12)

set_option maxRecDepth 100000 in
theorem l_zmd9 {E : xE} {M : xMem} (hM : xNT ≤ xN M) (hW : xWire M.2.1) (h0 : M.1 74 11 = 0) (A D : Nat → Nat) (h36 : M.1 74 36 = 0) (h32 : M.1 83 32 = 0) (h8 : M.1 74 8 = 0) (h9 : M.1 74 9 = 0) (h10 : M.1 74 10 = 0) {K : Nat → aKep} (hK : kpM M K) (hz : mszOK M) : ∀ m, rS M m → m.2.2.1 74 44 = dgF (fun w => aCnt 0 0 0 0 A D (fun _ => none, 0) 0 (rcN (fun r => M.1 76 r) 6) (rcN (fun r => M.1 79 r) 4) (kcN K 3) (nI w)) 17 0 → ∀ l2, PR E mX11_digest (xN M) 9 [some (.ref 74), some (.int (nI 0)), l2] [] (m) (fun r m => r = some (.long (dgN (fun r => M.1 79 r) (fun r i => M.1 80 (120 * r + i)) (dgN (fun r => M.1 76 r) (fun r i => M.1 77 (40 * r + i)) (dgF (fun k => kV (K k)) (dgF (fun w => aCnt 0 0 0 0 A D (fun _ => none, 0) 0 (rcN (fun r => M.1 76 r) 6) (rcN (fun r => M.1 79 r) 4) (kcN K 3) (nI w)) 17 14) 3) 6) 4)) ∧ rS M m) := by
  refine px_for (P := fun i => ∀ m, rS M m → m.2.2.1 74 44 = dgF (fun w => aCnt 0 0 0 0 A D (fun _ => none, 0) 0 (rcN (fun r => M.1 76 r) 6) (rcN (fun r => M.1 79 r) 4) (kcN K 3) (nI w)) 17 i → ∀ l2, PR E mX11_digest (xN M) 9 [some (.ref 74), some (.int (nI i)), l2] [] (m) (fun r m => r = some (.long (dgN (fun r => M.1 79 r) (fun r i => M.1 80 (120 * r + i)) (dgN (fun r => M.1 76 r) (fun r i => M.1 77 (40 * r + i)) (dgF (fun k => kV (K k)) (dgF (fun w => aCnt 0 0 0 0 A D (fun _ => none, 0) 0 (rcN (fun r => M.1 76 r) 6) (rcN (fun r => M.1 79 r) 4) (kcN K 3) (nI w)) 17 14) 3) 6) 4)) ∧ rS M m)) (14) (fun i hi nx => ?_) (0) (Nat.zero_le _)
  intro m hk hv l2
  have hm : xNT ≤ xN m := by rw [hk.m]; exact hM
  have hw : xWire m.2.1 := by rw [hk.1]; exact hW
  have hcl : ∀ k, (k = 8 ∨ k = 9 ∨ k = 10 ∨ k = 11 ∨ k = 36) → m.1 74 k = M.1 74 k := fun k hk2 => hk.2.2.2 k (by omega) (by omega) (by omega)
  have h0m : m.1 74 11 = 0 := by rw [hcl 11 (by omega)]; exact h0
  have h83 : m.1 83 = M.1 83 := hk.2.2.1 83 (by decide) (by decide) (by decide)
  refine px_iload_n dX11_digest_9 rfl rfl ?_
  refine px_bipush dX11_digest_10 bp_14 ?_
  refine px_icmp_ge 31 dX11_digest_12 rfl (fun h12 => ?_) (fun h12 => ?_)
  · have hi2 : i = 14 := by rw [show (14 : Int32) = nI 14 from rfl, nI_leI (by omega) (by omega)] at h12; omega
    subst hi2
    refine px_iconst dX11_digest_31 ic_0 ?_
    refine px_si_1 dX11_digest_32 rfl ?_
    refine px_iload_n dX11_digest_33 rfl rfl ?_
    refine px_aload_n dX11_digest_34 rfl rfl ?_
    refine px_getI dX11_digest_35 fX11_179 (xol rfl) hm rfl ?_
    refine px_top (y := 0) h0m ?_
    refine px_icmp_ge 125 dX11_digest_38 rfl (fun h38 => ?_) (fun h38 => ?_)
    · refine px_iconst dX11_digest_125 ic_0 ?_
      refine px_si_1 dX11_digest_126 rfl ?_
      exact l_md127 hM hW hz hK m hk hv _
    · exact absurd (show (0 : Int32) ≤ 0 by decide) h38
  · have hlt : i < 14 := by rw [show (14 : Int32) = nI 14 from rfl, nI_leI (by omega) (by omega)] at h12; omega
    refine px_aload_n dX11_digest_15 rfl rfl ?_
    refine px_aload_n dX11_digest_16 rfl rfl ?_
    refine px_iload_n dX11_digest_17 rfl rfl ?_
    refine px_gV1 dX11_digest_18 kX11_digest_352 (xol rfl) hm (Nat.le_of_ble_eq_true rfl) (z_counted hm hw h0m A D (by rw [hcl 36 (by omega)]; exact h36) (by rw [h83]; exact h32) (by rw [hcl 8 (by omega)]; exact h8) (by rw [hcl 9 (by omega)]; exact h9) (by rw [hcl 10 (by omega)]; exact h10) (rSkp hk hK) (rSsz hk hz) (v := nI i) ⟨nI_le (a := 0) (by omega) (by omega), nI_le (b := 13) (by omega) (by decide)⟩) (fun r18 M18 hq18 hn18 => ?_)
    obtain ⟨rfl, q1⟩ := hq18
    rw [(mrc_m hk).1, (mrc_m hk).2]
    have hm5 : xNT ≤ xN M18 := by rw [hn18]; exact hm
    refine px_i2l dX11_digest_21 ?_
    refine px_fV1v dX11_digest_22 kX11_digest_363 (xol rfl) hm5 (Nat.le_of_ble_eq_true rfl) (c_X11_adds hm5) ?_
    refine px_inc_1 dX11_digest_25 rfl ic_1 ?_
    refine px_goto 9 dX11_digest_28 rfl ?_
    exact px_eq (by rw [nI_1]) rfl (nx hlt _ (rSwL (hk.tr q1.r) _) (by show 31 * M18.2.2.1 74 44 + _ = _; rw [q1.1, hv]; rfl) _)

set_option maxRecDepth 100000 in
theorem z_digest {E : xE} {M : xMem} (hM : xNT ≤ xN M) (hW : xWire M.2.1) (h0 : M.1 74 11 = 0) (A D : Nat → Nat) (h36 : M.1 74 36 = 0) (h32 : M.1 83 32 = 0) (h8 : M.1 74 8 = 0) (h9 : M.1 74 9 = 0) (h10 : M.1 74 10 = 0) {K : Nat → aKep} (hK : kpM M K) (hz : mszOK M) : Ct E mX11_digest [.ref 74] M (xN M) (fun r m => r = some (.long (dgN (fun r => M.1 79 r) (fun r i => M.1 80 (120 * r + i)) (dgN (fun r => M.1 76 r) (fun r i => M.1 77 (40 * r + i)) (dgF (fun k => kV (K k)) (dgF (fun w => aCnt 0 0 0 0 A D (fun _ => none, 0) 0 (rcN (fun r => M.1 76 r) 6) (rcN (fun r => M.1 79 r) 4) (kcN K 3) (nI w)) 17 14) 3) 6) 4)) ∧ rS M m) := by
  refine Ct.of (lo := [some (.ref 74), none, none]) pln_X11 (Nat.le_of_ble_eq_true rfl) rfl (Nat.le_refl _) ?_
  refine px_aload_n dX11_digest_0 rfl rfl ?_
  refine px_ldc2 dX11_digest_1 xw1548 ?_
  refine px_putL dX11_digest_4 fX11_357 p11_44 (xol rfl) hM rfl ?_
  refine px_iconst dX11_digest_7 ic_0 ?_
  refine px_si_1 dX11_digest_8 rfl ?_
  exact l_zmd9 hM hW h0 A D h36 h32 h8 h9 h10 hK hz _ (rSwL (rS.rf M) _) rfl _
