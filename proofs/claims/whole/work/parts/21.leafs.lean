/-- what a frame needs, across and down; z: turned -/
abbrev fAc (M : xMem) (a : Nat) (z : Int32) : Int32 := (if z = 0 then M.1 a 8 else M.1 a 9) + 2 * M.1 a 7
abbrev fDn (M : xMem) (a : Nat) (z : Int32) : Int32 := (if z = 0 then M.1 a 9 else M.1 a 8) + 2 * M.1 a 7

set_option maxRecDepth 100000 in
theorem c_X0_isOf {E : xE} {M : xMem} {a : Nat} {x : Int32} (ha : xob a 0) (hM : xNT ≤ xN M) : Cf E mX0_isOf [.ref a, .int x] M (some (.int (zb (x = 0 ∨ M.1 a 0 = x ∨ (M.1 a 0 = 3 ∧ x = 1))))) M := by
  refine Ct.of (lo := [some (.ref a), some (.int x)]) pln_X0 (Nat.le_of_ble_eq_true rfl) rfl (Nat.le_refl _) ?_
  refine px_iload_n dX0_isOf_0 rfl rfl ?_
  refine px_if_eq 25 dX0_isOf_1 rfl (fun h1 => ?_) (fun h1 => ?_)
  · refine px_iconst dX0_isOf_25 ic_1 ?_
    refine px_goto 30 dX0_isOf_26 rfl ?_
    exact px_zret dX0_isOf_30 rfl (by first | rfl | exact zb_nar) (by first | exact ⟨z1 (by simp_all), rfl⟩ | exact ⟨z0 (by simp_all), rfl⟩) (rfl)
  · refine px_aload_n dX0_isOf_4 rfl rfl ?_
    refine px_getI dX0_isOf_5 fX0_9 ha hM rfl ?_
    refine px_iload_n dX0_isOf_8 rfl rfl ?_
    refine px_icmp_eq 25 dX0_isOf_9 rfl (fun h9 => ?_) (fun h9 => ?_)
    · refine px_iconst dX0_isOf_25 ic_1 ?_
      refine px_goto 30 dX0_isOf_26 rfl ?_
      exact px_zret dX0_isOf_30 rfl (by first | rfl | exact zb_nar) (by first | exact ⟨z1 (by simp_all), rfl⟩ | exact ⟨z0 (by simp_all), rfl⟩) (rfl)
    · refine px_aload_n dX0_isOf_12 rfl rfl ?_
      refine px_getI dX0_isOf_13 fX0_9 ha hM rfl ?_
      refine px_iconst dX0_isOf_16 ic_3 ?_
      refine px_icmp_ne 29 dX0_isOf_17 rfl (fun h17 => ?_) (fun h17 => ?_)
      · refine px_iconst dX0_isOf_29 ic_0 ?_
        exact px_zret dX0_isOf_30 rfl (by first | rfl | exact zb_nar) (by first | exact ⟨z1 (by simp_all), rfl⟩ | exact ⟨z0 (by simp_all), rfl⟩) (rfl)
      · refine px_iload_n dX0_isOf_20 rfl rfl ?_
        refine px_iconst dX0_isOf_21 ic_1 ?_
        refine px_icmp_ne 29 dX0_isOf_22 rfl (fun h22 => ?_) (fun h22 => ?_)
        · refine px_iconst dX0_isOf_29 ic_0 ?_
          exact px_zret dX0_isOf_30 rfl (by first | rfl | exact zb_nar) (by first | exact ⟨z1 (by simp_all), rfl⟩ | exact ⟨z0 (by simp_all), rfl⟩) (rfl)
        · refine px_iconst dX0_isOf_25 ic_1 ?_
          refine px_goto 30 dX0_isOf_26 rfl ?_
          exact px_zret dX0_isOf_30 rfl (by first | rfl | exact zb_nar) (by first | exact ⟨z1 (by simp_all), rfl⟩ | exact ⟨z0 (by simp_all), rfl⟩) (rfl)

set_option maxRecDepth 100000 in
theorem c_X0_mayTurn {E : xE} {M : xMem} {a : Nat} (ha : xob a 0) (hM : xNT ≤ xN M) : Cf E mX0_mayTurn [.ref a] M (some (.int (zb (¬ (M.1 a 0 = 1 ∨ M.1 a 0 = 3))))) M := by
  refine Ct.of (lo := [some (.ref a)]) pln_X0 (Nat.le_of_ble_eq_true rfl) rfl (Nat.le_refl _) ?_
  refine px_aload_n dX0_mayTurn_0 rfl rfl ?_
  refine px_iconst dX0_mayTurn_1 ic_1 ?_
  refine px_fV1i dX0_mayTurn_2 kX0_mayTurn_48 ha hM (Nat.le_of_ble_eq_true rfl) (c_X0_isOf ha hM) ?_
  refine px_zif_ne 12 dX0_mayTurn_5 rfl (fun h5 => ?_) (fun h5 => ?_)
  · refine px_iconst dX0_mayTurn_12 ic_0 ?_
    exact px_zret dX0_mayTurn_13 rfl (by first | rfl | exact zb_nar) (by first | exact ⟨z1 (by simp_all), rfl⟩ | exact ⟨z0 (by simp_all), rfl⟩) (rfl)
  · refine px_iconst dX0_mayTurn_8 ic_1 ?_
    refine px_goto 13 dX0_mayTurn_9 rfl ?_
    exact px_zret dX0_mayTurn_13 rfl (by first | rfl | exact zb_nar) (by first | exact ⟨z1 (by simp_all), rfl⟩ | exact ⟨z0 (by simp_all), rfl⟩) (rfl)

set_option maxRecDepth 100000 in
theorem c_X0_needsAcross {E : xE} {M : xMem} {a : Nat} {z : Int32} (ha : xob a 0) (hM : xNT ≤ xN M) : Cf E mX0_needsAcross [.ref a, .int z] M (some (.int (fAc M a z))) M := by
  refine Ct.of (lo := [some (.ref a), some (.int z)]) pln_X0 (Nat.le_of_ble_eq_true rfl) rfl (Nat.le_refl _) ?_
  refine px_iload_n dX0_needsAcross_0 rfl rfl ?_
  refine px_if_eq 11 dX0_needsAcross_1 rfl (fun h1 => ?_) (fun h1 => ?_)
  · refine px_aload_n dX0_needsAcross_11 rfl rfl ?_
    refine px_getI dX0_needsAcross_12 fX0_27 ha hM rfl ?_
    refine px_iconst dX0_needsAcross_15 ic_2 ?_
    refine px_aload_n dX0_needsAcross_16 rfl rfl ?_
    refine px_getI dX0_needsAcross_17 fX0_15 ha hM rfl ?_
    refine px_imul dX0_needsAcross_20 ?_
    refine px_iadd dX0_needsAcross_21 ?_
    exact px_iret dX0_needsAcross_22 rfl ⟨by simp [*], rfl⟩ (rfl)
  · refine px_aload_n dX0_needsAcross_4 rfl rfl ?_
    refine px_getI dX0_needsAcross_5 fX0_39 ha hM rfl ?_
    refine px_goto 15 dX0_needsAcross_8 rfl ?_
    refine px_iconst dX0_needsAcross_15 ic_2 ?_
    refine px_aload_n dX0_needsAcross_16 rfl rfl ?_
    refine px_getI dX0_needsAcross_17 fX0_15 ha hM rfl ?_
    refine px_imul dX0_needsAcross_20 ?_
    refine px_iadd dX0_needsAcross_21 ?_
    exact px_iret dX0_needsAcross_22 rfl ⟨by simp [*], rfl⟩ (rfl)

set_option maxRecDepth 100000 in
theorem c_X0_needsDown {E : xE} {M : xMem} {a : Nat} {z : Int32} (ha : xob a 0) (hM : xNT ≤ xN M) : Cf E mX0_needsDown [.ref a, .int z] M (some (.int (fDn M a z))) M := by
  refine Ct.of (lo := [some (.ref a), some (.int z)]) pln_X0 (Nat.le_of_ble_eq_true rfl) rfl (Nat.le_refl _) ?_
  refine px_iload_n dX0_needsDown_0 rfl rfl ?_
  refine px_if_eq 11 dX0_needsDown_1 rfl (fun h1 => ?_) (fun h1 => ?_)
  · refine px_aload_n dX0_needsDown_11 rfl rfl ?_
    refine px_getI dX0_needsDown_12 fX0_39 ha hM rfl ?_
    refine px_iconst dX0_needsDown_15 ic_2 ?_
    refine px_aload_n dX0_needsDown_16 rfl rfl ?_
    refine px_getI dX0_needsDown_17 fX0_15 ha hM rfl ?_
    refine px_imul dX0_needsDown_20 ?_
    refine px_iadd dX0_needsDown_21 ?_
    exact px_iret dX0_needsDown_22 rfl ⟨by simp [*], rfl⟩ (rfl)
  · refine px_aload_n dX0_needsDown_4 rfl rfl ?_
    refine px_getI dX0_needsDown_5 fX0_27 ha hM rfl ?_
    refine px_goto 15 dX0_needsDown_8 rfl ?_
    refine px_iconst dX0_needsDown_15 ic_2 ?_
    refine px_aload_n dX0_needsDown_16 rfl rfl ?_
    refine px_getI dX0_needsDown_17 fX0_15 ha hM rfl ?_
    refine px_imul dX0_needsDown_20 ?_
    refine px_iadd dX0_needsDown_21 ?_
    exact px_iret dX0_needsDown_22 rfl ⟨by simp [*], rfl⟩ (rfl)

set_option maxRecDepth 100000 in
theorem c_X0_needsPlaces {E : xE} {M : xMem} {a : Nat} (ha : xob a 0) (hM : xNT ≤ xN M) : Cf E mX0_needsPlaces [.ref a] M (some (.int (fAc M a 0 * fDn M a 0))) M := by
  refine Ct.of (lo := [some (.ref a)]) pln_X0 (Nat.le_of_ble_eq_true rfl) rfl (Nat.le_refl _) ?_
  refine px_aload_n dX0_needsPlaces_0 rfl rfl ?_
  refine px_iconst dX0_needsPlaces_1 ic_0 ?_
  refine px_fV1i dX0_needsPlaces_2 kX0_needsPlaces_52 ha hM (Nat.le_of_ble_eq_true rfl) (c_X0_needsAcross ha hM) ?_
  refine px_aload_n dX0_needsPlaces_5 rfl rfl ?_
  refine px_iconst dX0_needsPlaces_6 ic_0 ?_
  refine px_fV1i dX0_needsPlaces_7 kX0_needsPlaces_56 ha hM (Nat.le_of_ble_eq_true rfl) (c_X0_needsDown ha hM) ?_
  refine px_imul dX0_needsPlaces_10 ?_
  exact px_iret dX0_needsPlaces_11 rfl ⟨rfl, rfl⟩ (rfl)

set_option maxRecDepth 100000 in
theorem c_X0_edgePlaces {E : xE} {M : xMem} {a : Nat} (ha : xob a 0) (hM : xNT ≤ xN M) : Cf E mX0_edgePlaces [.ref a] M (some (.int (fAc M a 0 * fDn M a 0 - M.1 a 8 * M.1 a 9))) M := by
  refine Ct.of (lo := [some (.ref a)]) pln_X0 (Nat.le_of_ble_eq_true rfl) rfl (Nat.le_refl _) ?_
  refine px_aload_n dX0_edgePlaces_0 rfl rfl ?_
  refine px_fV0i dX0_edgePlaces_1 kX0_edgePlaces_59 ha hM (Nat.le_of_ble_eq_true rfl) (c_X0_needsPlaces ha hM) ?_
  refine px_aload_n dX0_edgePlaces_4 rfl rfl ?_
  refine px_getI dX0_edgePlaces_5 fX0_27 ha hM rfl ?_
  refine px_aload_n dX0_edgePlaces_8 rfl rfl ?_
  refine px_getI dX0_edgePlaces_9 fX0_39 ha hM rfl ?_
  refine px_imul dX0_edgePlaces_12 ?_
  refine px_isub dX0_edgePlaces_13 ?_
  exact px_iret dX0_edgePlaces_14 rfl ⟨rfl, rfl⟩ (rfl)

set_option maxRecDepth 100000 in
theorem c_X0_emptyPoints {E : xE} {M : xMem} {a : Nat} (ha : xob a 0) (hM : xNT ≤ xN M) : Cf E mX0_emptyPoints [.ref a] M (some (.int (M.1 a 1 * M.1 a 2 - (M.1 a 1 - M.1 a 3 - M.1 a 5) * (M.1 a 2 - M.1 a 4 - M.1 a 6)))) M := by
  refine Ct.of (lo := [some (.ref a)]) pln_X0 (Nat.le_of_ble_eq_true rfl) rfl (Nat.le_refl _) ?_
  refine px_aload_n dX0_emptyPoints_0 rfl rfl ?_
  refine px_getI dX0_emptyPoints_1 fX0_18 ha hM rfl ?_
  refine px_aload_n dX0_emptyPoints_4 rfl rfl ?_
  refine px_getI dX0_emptyPoints_5 fX0_30 ha hM rfl ?_
  refine px_imul dX0_emptyPoints_8 ?_
  refine px_aload_n dX0_emptyPoints_9 rfl rfl ?_
  refine px_getI dX0_emptyPoints_10 fX0_18 ha hM rfl ?_
  refine px_aload_n dX0_emptyPoints_13 rfl rfl ?_
  refine px_getI dX0_emptyPoints_14 fX0_21 ha hM rfl ?_
  refine px_isub dX0_emptyPoints_17 ?_
  refine px_aload_n dX0_emptyPoints_18 rfl rfl ?_
  refine px_getI dX0_emptyPoints_19 fX0_24 ha hM rfl ?_
  refine px_isub dX0_emptyPoints_22 ?_
  refine px_aload_n dX0_emptyPoints_23 rfl rfl ?_
  refine px_getI dX0_emptyPoints_24 fX0_30 ha hM rfl ?_
  refine px_aload_n dX0_emptyPoints_27 rfl rfl ?_
  refine px_getI dX0_emptyPoints_28 fX0_33 ha hM rfl ?_
  refine px_isub dX0_emptyPoints_31 ?_
  refine px_aload_n dX0_emptyPoints_32 rfl rfl ?_
  refine px_getI dX0_emptyPoints_33 fX0_36 ha hM rfl ?_
  refine px_isub dX0_emptyPoints_36 ?_
  refine px_imul dX0_emptyPoints_37 ?_
  refine px_isub dX0_emptyPoints_38 ?_
  exact px_iret dX0_emptyPoints_39 rfl ⟨rfl, rfl⟩ (rfl)

set_option maxRecDepth 100000 in
theorem c_X0_part {E : xE} {M : xMem} {a : Nat} {w : Int32} (ha : xob a 0) (hM : xNT ≤ xN M) : Cf E mX0_part [.ref a, .int w] M (some (.int (if w = 0 then M.1 a 0 else if w = 1 then M.1 a 8 else if w = 2 then M.1 a 9 else if w = 3 then fAc M a 0 else fDn M a 0))) M := by
  refine Ct.of (lo := [some (.ref a), some (.int w)]) pln_X0 (Nat.le_of_ble_eq_true rfl) rfl (Nat.le_refl _) ?_
  refine px_iload_n dX0_part_0 rfl rfl ?_
  by_cases s1_0 : w = 0
  · refine px_tableIn (off := 31) 32 dX0_part_1 (by rw [s1_0]; decide) (by rw [s1_0]; decide) (by rw [s1_0]; rfl) rfl ?_
    refine px_aload_n dX0_part_32 rfl rfl ?_
    refine px_getI dX0_part_33 fX0_9 ha hM rfl ?_
    exact px_iret dX0_part_36 rfl ⟨by simp [*], rfl⟩ (rfl)
  by_cases s1_1 : w = 1
  · refine px_tableIn (off := 36) 37 dX0_part_1 (by rw [s1_1]; decide) (by rw [s1_1]; decide) (by rw [s1_1]; rfl) rfl ?_
    refine px_aload_n dX0_part_37 rfl rfl ?_
    refine px_getI dX0_part_38 fX0_27 ha hM rfl ?_
    exact px_iret dX0_part_41 rfl ⟨by simp [*], rfl⟩ (rfl)
  by_cases s1_2 : w = 2
  · refine px_tableIn (off := 41) 42 dX0_part_1 (by rw [s1_2]; decide) (by rw [s1_2]; decide) (by rw [s1_2]; rfl) rfl ?_
    refine px_aload_n dX0_part_42 rfl rfl ?_
    refine px_getI dX0_part_43 fX0_39 ha hM rfl ?_
    exact px_iret dX0_part_46 rfl ⟨by simp [*], rfl⟩ (rfl)
  by_cases s1_3 : w = 3
  · refine px_tableIn (off := 46) 47 dX0_part_1 (by rw [s1_3]; decide) (by rw [s1_3]; decide) (by rw [s1_3]; rfl) rfl ?_
    refine px_aload_n dX0_part_47 rfl rfl ?_
    refine px_iconst dX0_part_48 ic_0 ?_
    refine px_fV1i dX0_part_49 kX0_part_52 ha hM (Nat.le_of_ble_eq_true rfl) (c_X0_needsAcross ha hM) ?_
    exact px_iret dX0_part_52 rfl ⟨by simp [*], rfl⟩ (rfl)
  refine px_tableOut 53 dX0_part_1 (by simp only [← Int32.toInt_inj, Int32.reduceToInt] at *; omega) rfl ?_
  refine px_aload_n dX0_part_53 rfl rfl ?_
  refine px_iconst dX0_part_54 ic_0 ?_
  refine px_fV1i dX0_part_55 kX0_part_56 ha hM (Nat.le_of_ble_eq_true rfl) (c_X0_needsDown ha hM) ?_
  exact px_iret dX0_part_58 rfl ⟨by simp [*], rfl⟩ (rfl)

/-- the parts of a spot -/
abbrev sPg (s : Int32) : Int32 := s / 512
abbrev sX (s : Int32) : Int32 := (s - s / 512 * 512) / 32
abbrev sY (s : Int32) : Int32 := (s - s / 32 * 32) / 2
abbrev sT (s : Int32) : Int32 := zb (s - s / 2 * 2 = 1)

set_option maxRecDepth 100000 in
theorem c_X1_isSet {E : xE} {M : xMem} {a : Nat} {f : Int32} (ha : xob a 1) (hM : xNT ≤ xN M) (hW : xWire M.2.1) (hf : vp_in f 8) : Cf E mX1_isSet [.ref a, .int f] M (some (.int (zb (¬ M.1 (a + 1) f.toNatClampNeg = -9)))) M := by
  refine Ct.of (lo := [some (.ref a), some (.int f)]) pln_X1 (Nat.le_of_ble_eq_true rfl) rfl (Nat.le_refl _) ?_
  refine px_aload_n dX1_isSet_0 rfl rfl ?_
  refine px_getR dX1_isSet_1 fX1_9 ha hM rfl (wr_1_0 hW ha) (Nat.succ_pos _) ?_
  refine px_iload_n dX1_isSet_4 rfl rfl ?_
  refine px_iald dX1_isSet_5 (ar_1 ha) hM (by assumption) ?_
  refine px_bipush dX1_isSet_6 bp_m9 ?_
  refine px_icmp_eq 15 dX1_isSet_8 rfl (fun h8 => ?_) (fun h8 => ?_)
  · refine px_iconst dX1_isSet_15 ic_0 ?_
    exact px_zret dX1_isSet_16 rfl (by first | rfl | exact zb_nar) (by first | exact ⟨z1 (by simp_all), rfl⟩ | exact ⟨z0 (by simp_all), rfl⟩) (rfl)
  · refine px_iconst dX1_isSet_11 ic_1 ?_
    refine px_goto 16 dX1_isSet_12 rfl ?_
    exact px_zret dX1_isSet_16 rfl (by first | rfl | exact zb_nar) (by first | exact ⟨z1 (by simp_all), rfl⟩ | exact ⟨z0 (by simp_all), rfl⟩) (rfl)

set_option maxRecDepth 100000 in
theorem c_X1_pageOf {E : xE} {M : xMem} {a : Nat} {f : Int32} (ha : xob a 1) (hM : xNT ≤ xN M) (hW : xWire M.2.1) (hf : vp_in f 8) : Cf E mX1_pageOf [.ref a, .int f] M (some (.int (sPg (M.1 (a + 1) f.toNatClampNeg)))) M := by
  refine Ct.of (lo := [some (.ref a), some (.int f)]) pln_X1 (Nat.le_of_ble_eq_true rfl) rfl (Nat.le_refl _) ?_
  refine px_aload_n dX1_pageOf_0 rfl rfl ?_
  refine px_getR dX1_pageOf_1 fX1_9 ha hM rfl (wr_1_0 hW ha) (Nat.succ_pos _) ?_
  refine px_iload_n dX1_pageOf_4 rfl rfl ?_
  refine px_iald dX1_pageOf_5 (ar_1 ha) hM (by assumption) ?_
  refine px_sipush dX1_pageOf_6 sp_512 ?_
  refine px_idiv dX1_pageOf_9 (by decide) ?_
  exact px_iret dX1_pageOf_10 rfl ⟨rfl, rfl⟩ (rfl)

set_option maxRecDepth 100000 in
theorem c_X1_xOf {E : xE} {M : xMem} {a : Nat} {f : Int32} (ha : xob a 1) (hM : xNT ≤ xN M) (hW : xWire M.2.1) (hf : vp_in f 8) : Cf E mX1_xOf [.ref a, .int f] M (some (.int (sX (M.1 (a + 1) f.toNatClampNeg)))) M := by
  refine Ct.of (lo := [some (.ref a), some (.int f)]) pln_X1 (Nat.le_of_ble_eq_true rfl) rfl (Nat.le_refl _) ?_
  refine px_aload_n dX1_xOf_0 rfl rfl ?_
  refine px_getR dX1_xOf_1 fX1_9 ha hM rfl (wr_1_0 hW ha) (Nat.succ_pos _) ?_
  refine px_iload_n dX1_xOf_4 rfl rfl ?_
  refine px_iald dX1_xOf_5 (ar_1 ha) hM (by assumption) ?_
  refine px_sipush dX1_xOf_6 sp_512 ?_
  refine px_irem dX1_xOf_9 (by decide) ?_
  refine px_bipush dX1_xOf_10 bp_32 ?_
  refine px_idiv dX1_xOf_12 (by decide) ?_
  exact px_iret dX1_xOf_13 rfl ⟨rfl, rfl⟩ (rfl)

set_option maxRecDepth 100000 in
theorem c_X1_yOf {E : xE} {M : xMem} {a : Nat} {f : Int32} (ha : xob a 1) (hM : xNT ≤ xN M) (hW : xWire M.2.1) (hf : vp_in f 8) : Cf E mX1_yOf [.ref a, .int f] M (some (.int (sY (M.1 (a + 1) f.toNatClampNeg)))) M := by
  refine Ct.of (lo := [some (.ref a), some (.int f)]) pln_X1 (Nat.le_of_ble_eq_true rfl) rfl (Nat.le_refl _) ?_
  refine px_aload_n dX1_yOf_0 rfl rfl ?_
  refine px_getR dX1_yOf_1 fX1_9 ha hM rfl (wr_1_0 hW ha) (Nat.succ_pos _) ?_
  refine px_iload_n dX1_yOf_4 rfl rfl ?_
  refine px_iald dX1_yOf_5 (ar_1 ha) hM (by assumption) ?_
  refine px_bipush dX1_yOf_6 bp_32 ?_
  refine px_irem dX1_yOf_8 (by decide) ?_
  refine px_iconst dX1_yOf_9 ic_2 ?_
  refine px_idiv dX1_yOf_10 (by decide) ?_
  exact px_iret dX1_yOf_11 rfl ⟨rfl, rfl⟩ (rfl)

set_option maxRecDepth 100000 in
theorem c_X1_isTurned {E : xE} {M : xMem} {a : Nat} {f : Int32} (ha : xob a 1) (hM : xNT ≤ xN M) (hW : xWire M.2.1) (hf : vp_in f 8) : Cf E mX1_isTurned [.ref a, .int f] M (some (.int (sT (M.1 (a + 1) f.toNatClampNeg)))) M := by
  refine Ct.of (lo := [some (.ref a), some (.int f)]) pln_X1 (Nat.le_of_ble_eq_true rfl) rfl (Nat.le_refl _) ?_
  refine px_aload_n dX1_isTurned_0 rfl rfl ?_
  refine px_getR dX1_isTurned_1 fX1_9 ha hM rfl (wr_1_0 hW ha) (Nat.succ_pos _) ?_
  refine px_iload_n dX1_isTurned_4 rfl rfl ?_
  refine px_iald dX1_isTurned_5 (ar_1 ha) hM (by assumption) ?_
  refine px_iconst dX1_isTurned_6 ic_2 ?_
  refine px_irem dX1_isTurned_7 (by decide) ?_
  refine px_iconst dX1_isTurned_8 ic_1 ?_
  refine px_icmp_ne 16 dX1_isTurned_9 rfl (fun h9 => ?_) (fun h9 => ?_)
  · refine px_iconst dX1_isTurned_16 ic_0 ?_
    exact px_zret dX1_isTurned_17 rfl (by first | rfl | exact zb_nar) (by first | exact ⟨z1 (by simp_all), rfl⟩ | exact ⟨z0 (by simp_all), rfl⟩) (rfl)
  · refine px_iconst dX1_isTurned_12 ic_1 ?_
    refine px_goto 17 dX1_isTurned_13 rfl ?_
    exact px_zret dX1_isTurned_17 rfl (by first | rfl | exact zb_nar) (by first | exact ⟨z1 (by simp_all), rfl⟩ | exact ⟨z0 (by simp_all), rfl⟩) (rfl)

set_option maxRecDepth 100000 in
theorem c_X1_part {E : xE} {M : xMem} {a : Nat} {f w : Int32} (ha : xob a 1) (hM : xNT ≤ xN M) (hW : xWire M.2.1) (hf : vp_in f 8) : Cf E mX1_part [.ref a, .int f, .int w] M (some (.int (if w = 0 then sPg (M.1 (a + 1) f.toNatClampNeg) else if w = 1 then sX (M.1 (a + 1) f.toNatClampNeg) else if w = 2 then sY (M.1 (a + 1) f.toNatClampNeg) else sT (M.1 (a + 1) f.toNatClampNeg)))) M := by
  refine Ct.of (lo := [some (.ref a), some (.int f), some (.int w)]) pln_X1 (Nat.le_of_ble_eq_true rfl) rfl (Nat.le_refl _) ?_
  refine px_iload_n dX1_part_0 rfl rfl ?_
  by_cases s1_0 : w = 0
  · refine px_tableIn (off := 27) 28 dX1_part_1 (by rw [s1_0]; decide) (by rw [s1_0]; decide) (by rw [s1_0]; rfl) rfl ?_
    refine px_aload_n dX1_part_28 rfl rfl ?_
    refine px_iload_n dX1_part_29 rfl rfl ?_
    refine px_fV1i dX1_part_30 kX1_part_19 ha hM (Nat.le_of_ble_eq_true rfl) (c_X1_pageOf ha hM hW hf) ?_
    exact px_iret dX1_part_33 rfl ⟨by simp [*, sT, zb], rfl⟩ (rfl)
  by_cases s1_1 : w = 1
  · refine px_tableIn (off := 33) 34 dX1_part_1 (by rw [s1_1]; decide) (by rw [s1_1]; decide) (by rw [s1_1]; rfl) rfl ?_
    refine px_aload_n dX1_part_34 rfl rfl ?_
    refine px_iload_n dX1_part_35 rfl rfl ?_
    refine px_fV1i dX1_part_36 kX1_part_23 ha hM (Nat.le_of_ble_eq_true rfl) (c_X1_xOf ha hM hW hf) ?_
    exact px_iret dX1_part_39 rfl ⟨by simp [*, sT, zb], rfl⟩ (rfl)
  by_cases s1_2 : w = 2
  · refine px_tableIn (off := 39) 40 dX1_part_1 (by rw [s1_2]; decide) (by rw [s1_2]; decide) (by rw [s1_2]; rfl) rfl ?_
    refine px_aload_n dX1_part_40 rfl rfl ?_
    refine px_iload_n dX1_part_41 rfl rfl ?_
    refine px_fV1i dX1_part_42 kX1_part_26 ha hM (Nat.le_of_ble_eq_true rfl) (c_X1_yOf ha hM hW hf) ?_
    exact px_iret dX1_part_45 rfl ⟨by simp [*, sT, zb], rfl⟩ (rfl)
  refine px_tableOut 46 dX1_part_1 (by simp only [← Int32.toInt_inj, Int32.reduceToInt] at *; omega) rfl ?_
  refine px_aload_n dX1_part_46 rfl rfl ?_
  refine px_iload_n dX1_part_47 rfl rfl ?_
  refine px_fV1i dX1_part_48 kX1_part_29 ha hM (Nat.le_of_ble_eq_true rfl) (c_X1_isTurned ha hM hW hf) ?_
  refine px_zif_eq 58 dX1_part_51 rfl (fun h51 => ?_) (fun h51 => ?_)
  · refine px_iconst dX1_part_58 ic_0 ?_
    exact px_iret dX1_part_59 rfl ⟨by simp [*, sT, zb], rfl⟩ (rfl)
  · refine px_iconst dX1_part_54 ic_1 ?_
    refine px_goto 59 dX1_part_55 rfl ?_
    exact px_iret dX1_part_59 rfl ⟨by simp [*, sT, zb], rfl⟩ (rfl)

set_option maxRecDepth 100000 in
theorem c_X1_spotAt {E : xE} {M : xMem} {x y z : Int32} : Cf E mX1_spotAt [.int x, .int y, .int z] M (some (.int (x * 32 + y * 2 + (if z = 0 then 0 else 1)))) M := by
  refine Ct.of (lo := [some (.int x), some (.int y), some (.int z)]) pln_X1 (Nat.le_of_ble_eq_true rfl) rfl (Nat.le_refl _) ?_
  refine px_iload_n dX1_spotAt_0 rfl rfl ?_
  refine px_bipush dX1_spotAt_1 bp_32 ?_
  refine px_imul dX1_spotAt_3 ?_
  refine px_iload_n dX1_spotAt_4 rfl rfl ?_
  refine px_iconst dX1_spotAt_5 ic_2 ?_
  refine px_imul dX1_spotAt_6 ?_
  refine px_iadd dX1_spotAt_7 ?_
  refine px_iload_n dX1_spotAt_8 rfl rfl ?_
  refine px_if_eq 16 dX1_spotAt_9 rfl (fun h9 => ?_) (fun h9 => ?_)
  · refine px_iconst dX1_spotAt_16 ic_0 ?_
    refine px_iadd dX1_spotAt_17 ?_
    exact px_iret dX1_spotAt_18 rfl ⟨by simp [*], rfl⟩ (rfl)
  · refine px_iconst dX1_spotAt_12 ic_1 ?_
    refine px_goto 17 dX1_spotAt_13 rfl ?_
    refine px_iadd dX1_spotAt_17 ?_
    exact px_iret dX1_spotAt_18 rfl ⟨by simp [*], rfl⟩ (rfl)

set_option maxRecDepth 100000 in
theorem c_X1_spotOnPage {E : xE} {M : xMem} {g s : Int32} : Cf E mX1_spotOnPage [.int g, .int s] M (some (.int (g * 512 + s))) M := by
  refine Ct.of (lo := [some (.int g), some (.int s)]) pln_X1 (Nat.le_of_ble_eq_true rfl) rfl (Nat.le_refl _) ?_
  refine px_iload_n dX1_spotOnPage_0 rfl rfl ?_
  refine px_sipush dX1_spotOnPage_1 sp_512 ?_
  refine px_imul dX1_spotOnPage_4 ?_
  refine px_iload_n dX1_spotOnPage_5 rfl rfl ?_
  refine px_iadd dX1_spotOnPage_6 ?_
  exact px_iret dX1_spotOnPage_7 rfl ⟨rfl, rfl⟩ (rfl)

set_option maxRecDepth 100000 in
theorem c_X4_yOf {E : xE} {M : xMem} {r : Int32} : Cf E mX4_yOf [.int r] M (some (.int (r / 32768))) M := by
  refine Ct.of (lo := [some (.int r)]) pln_X4 (Nat.le_of_ble_eq_true rfl) rfl (Nat.le_refl _) ?_
  refine px_iload_n dX4_yOf_0 rfl rfl ?_
  refine px_ldc dX4_yOf_1 xw812 ?_
  refine px_idiv dX4_yOf_3 (by decide) ?_
  exact px_iret dX4_yOf_4 rfl ⟨rfl, rfl⟩ (rfl)

set_option maxRecDepth 100000 in
theorem c_X4_xOf {E : xE} {M : xMem} {r : Int32} : Cf E mX4_xOf [.int r] M (some (.int (r / 1024 - r / 1024 / 32 * 32))) M := by
  refine Ct.of (lo := [some (.int r)]) pln_X4 (Nat.le_of_ble_eq_true rfl) rfl (Nat.le_refl _) ?_
  refine px_iload_n dX4_xOf_0 rfl rfl ?_
  refine px_sipush dX4_xOf_1 sp_1024 ?_
  refine px_idiv dX4_xOf_4 (by decide) ?_
  refine px_bipush dX4_xOf_5 bp_32 ?_
  refine px_irem dX4_xOf_7 (by decide) ?_
  exact px_iret dX4_xOf_8 rfl ⟨rfl, rfl⟩ (rfl)

set_option maxRecDepth 100000 in
theorem c_X4_acrossOf {E : xE} {M : xMem} {r : Int32} : Cf E mX4_acrossOf [.int r] M (some (.int (r / 32 - r / 32 / 32 * 32))) M := by
  refine Ct.of (lo := [some (.int r)]) pln_X4 (Nat.le_of_ble_eq_true rfl) rfl (Nat.le_refl _) ?_
  refine px_iload_n dX4_acrossOf_0 rfl rfl ?_
  refine px_bipush dX4_acrossOf_1 bp_32 ?_
  refine px_idiv dX4_acrossOf_3 (by decide) ?_
  refine px_bipush dX4_acrossOf_4 bp_32 ?_
  refine px_irem dX4_acrossOf_6 (by decide) ?_
  exact px_iret dX4_acrossOf_7 rfl ⟨rfl, rfl⟩ (rfl)

set_option maxRecDepth 100000 in
theorem c_X4_downOf {E : xE} {M : xMem} {r : Int32} : Cf E mX4_downOf [.int r] M (some (.int (r - r / 32 * 32))) M := by
  refine Ct.of (lo := [some (.int r)]) pln_X4 (Nat.le_of_ble_eq_true rfl) rfl (Nat.le_refl _) ?_
  refine px_iload_n dX4_downOf_0 rfl rfl ?_
  refine px_bipush dX4_downOf_1 bp_32 ?_
  refine px_irem dX4_downOf_3 (by decide) ?_
  exact px_iret dX4_downOf_4 rfl ⟨rfl, rfl⟩ (rfl)

set_option maxRecDepth 100000 in
theorem c_X4_span {E : xE} {M : xMem} {x n : Int32} : Cf E mX4_span [.int x, .int n] M (some (.int ((1 <<< ((x + n) &&& 31)) - (1 <<< (x &&& 31))))) M := by
  refine Ct.of (lo := [some (.int x), some (.int n)]) pln_X4 (Nat.le_of_ble_eq_true rfl) rfl (Nat.le_refl _) ?_
  refine px_iconst dX4_span_0 ic_1 ?_
  refine px_iload_n dX4_span_1 rfl rfl ?_
  refine px_iload_n dX4_span_2 rfl rfl ?_
  refine px_iadd dX4_span_3 ?_
  refine px_ishl dX4_span_4 ?_
  refine px_iconst dX4_span_5 ic_1 ?_
  refine px_iload_n dX4_span_6 rfl rfl ?_
  refine px_ishl dX4_span_7 ?_
  refine px_isub dX4_span_8 ?_
  exact px_iret dX4_span_9 rfl ⟨rfl, rfl⟩ (rfl)

set_option maxRecDepth 100000 in
theorem c_X8_isFull {E : xE} {M : xMem} {a : Nat} (ha : xob a 8) (hM : xNT ≤ xN M) : Cf E mX8_isFull [.ref a] M (some (.int (zb (40 ≤ M.1 a 2)))) M := by
  refine Ct.of (lo := [some (.ref a)]) pln_X8 (Nat.le_of_ble_eq_true rfl) rfl (Nat.le_refl _) ?_
  refine px_aload_n dX8_isFull_0 rfl rfl ?_
  refine px_getI dX8_isFull_1 fX8_22 ha hM rfl ?_
  refine px_bipush dX8_isFull_4 bp_40 ?_
  refine px_icmp_lt 13 dX8_isFull_6 rfl (fun h6 => ?_) (fun h6 => ?_)
  · refine px_iconst dX8_isFull_13 ic_0 ?_
    exact px_zret dX8_isFull_14 rfl (by first | rfl | exact zb_nar) (by first | exact ⟨z1 (by simp_all), rfl⟩ | exact ⟨z0 (by simp_all), rfl⟩) (rfl)
  · refine px_iconst dX8_isFull_9 ic_1 ?_
    refine px_goto 14 dX8_isFull_10 rfl ?_
    exact px_zret dX8_isFull_14 rfl (by first | rfl | exact zb_nar) (by first | exact ⟨z1 (by simp_all), rfl⟩ | exact ⟨z0 (by simp_all), rfl⟩) (rfl)

set_option maxRecDepth 100000 in
theorem c_X10_nearest {E : xE} {M : xMem} {i b : Int32} : Cf E mX10_nearest [.int i, .int b] M (some (.int (if 0 < (if b - 1 < i then b - 1 else i) then (if b - 1 < i then b - 1 else i) else 0))) M := by
  refine Ct.of (lo := [some (.int i), some (.int b)]) pln_X10 (Nat.le_of_ble_eq_true rfl) rfl (Nat.le_refl _) ?_
  refine px_iconst dX10_nearest_0 ic_0 ?_
  refine px_iload_n dX10_nearest_1 rfl rfl ?_
  refine px_iload_n dX10_nearest_2 rfl rfl ?_
  refine px_iconst dX10_nearest_3 ic_1 ?_
  refine px_isub dX10_nearest_4 ?_
  refine px_min dX10_nearest_5 kX10_nearest_349 (Nat.le_of_ble_eq_true rfl) ?_
  refine px_max dX10_nearest_8 kX10_nearest_352 (Nat.le_of_ble_eq_true rfl) ?_
  exact px_iret dX10_nearest_11 rfl ⟨rfl, rfl⟩ (rfl)

set_option maxRecDepth 100000 in
theorem c_X10_hasNoSheet {E : xE} {M : xMem} {s : Nat} (hM : xNT ≤ xN M) (hs : xob s 7) (hc : M.2.1 1 10 = s) (hp : 0 < s) : Cf E mX10_hasNoSheet [.ref 1] M (some (.int (zb (M.1 s 1 = 0)))) M := by
  refine Ct.of (lo := [some (.ref 1)]) pln_X10 (Nat.le_of_ble_eq_true rfl) rfl (Nat.le_refl _) ?_
  refine px_aload_n dX10_hasNoSheet_0 rfl rfl ?_
  refine px_getR dX10_hasNoSheet_1 fX10_71 (xol rfl) hM rfl (by assumption) (by assumption) ?_
  refine px_getI dX10_hasNoSheet_4 fX10_140 hs hM rfl ?_
  refine px_if_ne 14 dX10_hasNoSheet_7 rfl (fun h7 => ?_) (fun h7 => ?_)
  · refine px_iconst dX10_hasNoSheet_14 ic_0 ?_
    exact px_zret dX10_hasNoSheet_15 rfl (by first | rfl | exact zb_nar) (by first | exact ⟨z1 (by simp_all), rfl⟩ | exact ⟨z0 (by simp_all), rfl⟩) (rfl)
  · refine px_iconst dX10_hasNoSheet_10 ic_1 ?_
    refine px_goto 15 dX10_hasNoSheet_11 rfl ?_
    exact px_zret dX10_hasNoSheet_15 rfl (by first | rfl | exact zb_nar) (by first | exact ⟨z1 (by simp_all), rfl⟩ | exact ⟨z0 (by simp_all), rfl⟩) (rfl)

set_option maxRecDepth 100000 in
theorem c_X3_isLetter {E : xE} {M : xMem} {b : Int32} : Cf E mX3_isLetter [.int b] M (some (.int (zb (97 ≤ b ∧ b ≤ 122)))) M := by
  refine Ct.of (lo := [some (.int b)]) pln_X3 (Nat.le_of_ble_eq_true rfl) rfl (Nat.le_refl _) ?_
  refine px_iload_n dX3_isLetter_0 rfl rfl ?_
  refine px_bipush dX3_isLetter_1 bp_97 ?_
  refine px_icmp_lt 16 dX3_isLetter_3 rfl (fun h3 => ?_) (fun h3 => ?_)
  · refine px_iconst dX3_isLetter_16 ic_0 ?_
    exact px_zret dX3_isLetter_17 rfl (by first | rfl | exact zb_nar) (by first | exact ⟨z1 (by (simp only [Int32.le_iff_toInt_le, Int32.lt_iff_toInt_lt, ← Int32.toInt_inj, Int32.reduceToInt] at *; omega)), rfl⟩ | exact ⟨z0 (by (simp only [Int32.le_iff_toInt_le, Int32.lt_iff_toInt_lt, ← Int32.toInt_inj, Int32.reduceToInt] at *; omega)), rfl⟩) (rfl)
  · refine px_iload_n dX3_isLetter_6 rfl rfl ?_
    refine px_bipush dX3_isLetter_7 bp_122 ?_
    refine px_icmp_gt 16 dX3_isLetter_9 rfl (fun h9 => ?_) (fun h9 => ?_)
    · refine px_iconst dX3_isLetter_16 ic_0 ?_
      exact px_zret dX3_isLetter_17 rfl (by first | rfl | exact zb_nar) (by first | exact ⟨z1 (by (simp only [Int32.le_iff_toInt_le, Int32.lt_iff_toInt_lt, ← Int32.toInt_inj, Int32.reduceToInt] at *; omega)), rfl⟩ | exact ⟨z0 (by (simp only [Int32.le_iff_toInt_le, Int32.lt_iff_toInt_lt, ← Int32.toInt_inj, Int32.reduceToInt] at *; omega)), rfl⟩) (rfl)
    · refine px_iconst dX3_isLetter_12 ic_1 ?_
      refine px_goto 17 dX3_isLetter_13 rfl ?_
      exact px_zret dX3_isLetter_17 rfl (by first | rfl | exact zb_nar) (by first | exact ⟨z1 (by (simp only [Int32.le_iff_toInt_le, Int32.lt_iff_toInt_lt, ← Int32.toInt_inj, Int32.reduceToInt] at *; omega)), rfl⟩ | exact ⟨z0 (by (simp only [Int32.le_iff_toInt_le, Int32.lt_iff_toInt_lt, ← Int32.toInt_inj, Int32.reduceToInt] at *; omega)), rfl⟩) (rfl)

set_option maxRecDepth 100000 in
theorem c_X3_isFigure {E : xE} {M : xMem} {b : Int32} : Cf E mX3_isFigure [.int b] M (some (.int (zb (48 ≤ b ∧ b ≤ 57)))) M := by
  refine Ct.of (lo := [some (.int b)]) pln_X3 (Nat.le_of_ble_eq_true rfl) rfl (Nat.le_refl _) ?_
  refine px_iload_n dX3_isFigure_0 rfl rfl ?_
  refine px_bipush dX3_isFigure_1 bp_48 ?_
  refine px_icmp_lt 16 dX3_isFigure_3 rfl (fun h3 => ?_) (fun h3 => ?_)
  · refine px_iconst dX3_isFigure_16 ic_0 ?_
    exact px_zret dX3_isFigure_17 rfl (by first | rfl | exact zb_nar) (by first | exact ⟨z1 (by (simp only [Int32.le_iff_toInt_le, Int32.lt_iff_toInt_lt, ← Int32.toInt_inj, Int32.reduceToInt] at *; omega)), rfl⟩ | exact ⟨z0 (by (simp only [Int32.le_iff_toInt_le, Int32.lt_iff_toInt_lt, ← Int32.toInt_inj, Int32.reduceToInt] at *; omega)), rfl⟩) (rfl)
  · refine px_iload_n dX3_isFigure_6 rfl rfl ?_
    refine px_bipush dX3_isFigure_7 bp_57 ?_
    refine px_icmp_gt 16 dX3_isFigure_9 rfl (fun h9 => ?_) (fun h9 => ?_)
    · refine px_iconst dX3_isFigure_16 ic_0 ?_
      exact px_zret dX3_isFigure_17 rfl (by first | rfl | exact zb_nar) (by first | exact ⟨z1 (by (simp only [Int32.le_iff_toInt_le, Int32.lt_iff_toInt_lt, ← Int32.toInt_inj, Int32.reduceToInt] at *; omega)), rfl⟩ | exact ⟨z0 (by (simp only [Int32.le_iff_toInt_le, Int32.lt_iff_toInt_lt, ← Int32.toInt_inj, Int32.reduceToInt] at *; omega)), rfl⟩) (rfl)
    · refine px_iconst dX3_isFigure_12 ic_1 ?_
      refine px_goto 17 dX3_isFigure_13 rfl ?_
      exact px_zret dX3_isFigure_17 rfl (by first | rfl | exact zb_nar) (by first | exact ⟨z1 (by (simp only [Int32.le_iff_toInt_le, Int32.lt_iff_toInt_lt, ← Int32.toInt_inj, Int32.reduceToInt] at *; omega)), rfl⟩ | exact ⟨z0 (by (simp only [Int32.le_iff_toInt_le, Int32.lt_iff_toInt_lt, ← Int32.toInt_inj, Int32.reduceToInt] at *; omega)), rfl⟩) (rfl)
