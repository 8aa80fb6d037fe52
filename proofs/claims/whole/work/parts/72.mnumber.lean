/-! ===== numbers of the reference ===== -/
set_option maxRecDepth 100000 in
theorem c_X11_fails {E : xE} {M : xMem} (hM : xNT ≤ xN M) : Cf E mX11_fails [.ref 74] M (some (.int 0)) (wI M 74 17 (M.1 74 14)) := by
  refine Ct.of (lo := [some (.ref 74)]) pln_X11 (Nat.le_of_ble_eq_true rfl) rfl (Nat.le_refl _) ?_
  refine px_aload_n dX11_fails_0 rfl rfl ?_
  refine px_aload_n dX11_fails_1 rfl rfl ?_
  refine px_getI dX11_fails_2 fX11_107 (xol rfl) hM rfl ?_
  refine px_putI dX11_fails_5 fX11_122 p11_17 (xol rfl) hM rfl ?_
  refine px_iconst dX11_fails_8 ic_0 ?_
  exact px_zret dX11_fails_9 rfl (by first | rfl | exact zb_nar | exact zc_nar) ⟨rfl, rfl⟩ (rfl)

set_option maxRecDepth 100000 in
theorem c_X11_number {E : xE} {M : xMem} {t N j : Nat} {b : Nat → Int32} (hr : mrd M t N b) (hj : j ≤ N) (hra : M.1 74 13 = nI j) {l h : Int32} : Ct E mX11_number [.ref 74, .int (nI t), .int l, .int h] M (xN M) (fun r m => r = some (.int (zc (nOK b N j l h))) ∧ mnS M m ∧ mtok m b N j ∧ (¬ nOK b N j l h → m.1 74 17 = nI (tF b N j))) := by
  have hM := hr.1
  refine Ct.of (lo := [some (.ref 74), some (.int (nI t)), some (.int l), some (.int h)]) pln_X11 (Nat.le_of_ble_eq_true rfl) rfl (Nat.le_refl _) ?_
  refine px_aload_n dX11_number_0 rfl rfl ?_
  refine px_iload_n dX11_number_1 rfl rfl ?_
  refine px_gV1 dX11_number_2 kX11_number_125 (xol rfl) hM (Nat.le_of_ble_eq_true rfl) (c_X11_next hr hj hra) (fun r2 M2 hq2 hn2 => ?_)
  obtain ⟨rfl, q1, q2⟩ := hq2
  have hM : xNT ≤ xN M2 := by rw [hn2]; exact hM
  refine px_aload_n dX11_number_5 rfl rfl ?_
  refine px_getI dX11_number_6 fX11_110 (xol rfl) hM rfl ?_
  refine px_top (y := nI (tK b N j)) q2.2.2.1 ?_
  refine px_iconst dX11_number_9 ic_2 ?_
  refine px_icmp_ne 25 dX11_number_10 rfl (fun h10 => ?_) (fun h10 => ?_)
  · have hno : ¬ nOK b N j l h := by
      rintro ⟨z1, z2, z3⟩
      first
        | exact h10 (by rw [z1]; rfl)
        | exact h22 ⟨z2, z3⟩
    refine px_aload_n dX11_number_25 rfl rfl ?_
    refine px_fV0i dX11_number_26 kX11_number_128 (xol rfl) hM (Nat.le_of_ble_eq_true rfl) (c_X11_fails hM) ?_
    refine px_if_eq 36 dX11_number_29 rfl (fun h29 => ?_) (fun h29 => ?_)
    · refine px_iconst dX11_number_36 ic_0 ?_
      exact px_zret dX11_number_37 rfl (by first | rfl | exact zb_nar | exact zc_nar) (by first | (rw [zcT hys]; exact ⟨rfl, q1, q2, fun z => absurd hys z⟩) | (rw [zcF hno]; exact ⟨rfl, q1.p (by omega), ⟨q2.1, q2.2.1, q2.2.2.1, q2.2.2.2⟩, fun _ => q2.2.1⟩) | exact absurd rfl h29) (by first | exact hn2)
    · have hys : nOK b N j l h := by
        first
          | exact ⟨h10n, h22.1, h22.2⟩
          | exact absurd rfl h29
      refine px_iconst dX11_number_32 ic_1 ?_
      refine px_goto 37 dX11_number_33 rfl ?_
      exact px_zret dX11_number_37 rfl (by first | rfl | exact zb_nar | exact zc_nar) (by first | (rw [zcT hys]; exact ⟨rfl, q1, q2, fun z => absurd hys z⟩) | (rw [zcF hno]; exact ⟨rfl, q1.p (by omega), ⟨q2.1, q2.2.1, q2.2.2.1, q2.2.2.2⟩, fun _ => q2.2.1⟩) | exact absurd rfl h29) (by first | exact hn2)
  · have h10n : tK b N j = 2 := nI_is (show (2 : Int32) = nI 2 from rfl) (by unfold tK; (repeat' split) <;> omega) (by decide) h10
    refine px_aload_n dX11_number_13 rfl rfl ?_
    refine px_getI dX11_number_14 fX11_119 (xol rfl) hM rfl ?_
    refine px_top (y := nI (tV b N j)) (q2.2.2.2 h10n) ?_
    refine px_iload_n dX11_number_17 rfl rfl ?_
    refine px_iload_n dX11_number_18 rfl rfl ?_
    refine px_fS3i dX11_number_19 kX11_number_75 (Nat.le_of_ble_eq_true rfl) (c_X11_in) ?_
    refine px_zif_ne 32 dX11_number_22 rfl (fun h22 => ?_) (fun h22 => ?_)
    · have hys : nOK b N j l h := by
        first
          | exact ⟨h10n, h22.1, h22.2⟩
          | exact absurd rfl h29
      refine px_iconst dX11_number_32 ic_1 ?_
      refine px_goto 37 dX11_number_33 rfl ?_
      exact px_zret dX11_number_37 rfl (by first | rfl | exact zb_nar | exact zc_nar) (by first | (rw [zcT hys]; exact ⟨rfl, q1, q2, fun z => absurd hys z⟩) | (rw [zcF hno]; exact ⟨rfl, q1.p (by omega), ⟨q2.1, q2.2.1, q2.2.2.1, q2.2.2.2⟩, fun _ => q2.2.1⟩) | exact absurd rfl h29) (by first | exact hn2)
    · have hno : ¬ nOK b N j l h := by
        rintro ⟨z1, z2, z3⟩
        first
          | exact h10 (by rw [z1]; rfl)
          | exact h22 ⟨z2, z3⟩
      refine px_aload_n dX11_number_25 rfl rfl ?_
      refine px_fV0i dX11_number_26 kX11_number_128 (xol rfl) hM (Nat.le_of_ble_eq_true rfl) (c_X11_fails hM) ?_
      refine px_if_eq 36 dX11_number_29 rfl (fun h29 => ?_) (fun h29 => ?_)
      · refine px_iconst dX11_number_36 ic_0 ?_
        exact px_zret dX11_number_37 rfl (by first | rfl | exact zb_nar | exact zc_nar) (by first | (rw [zcT hys]; exact ⟨rfl, q1, q2, fun z => absurd hys z⟩) | (rw [zcF hno]; exact ⟨rfl, q1.p (by omega), ⟨q2.1, q2.2.1, q2.2.2.1, q2.2.2.2⟩, fun _ => q2.2.1⟩) | exact absurd rfl h29) (by first | exact hn2)
      · have hys : nOK b N j l h := by
          first
            | exact ⟨h10n, h22.1, h22.2⟩
            | exact absurd rfl h29
        refine px_iconst dX11_number_32 ic_1 ?_
        refine px_goto 37 dX11_number_33 rfl ?_
        exact px_zret dX11_number_37 rfl (by first | rfl | exact zb_nar | exact zc_nar) (by first | (rw [zcT hys]; exact ⟨rfl, q1, q2, fun z => absurd hys z⟩) | (rw [zcF hno]; exact ⟨rfl, q1.p (by omega), ⟨q2.1, q2.2.1, q2.2.2.1, q2.2.2.2⟩, fun _ => q2.2.1⟩) | exact absurd rfl h29) (by first | exact hn2)

set_option maxRecDepth 100000 in
theorem c_X11_ends {E : xE} {M : xMem} {t N j : Nat} {b : Nat → Int32} (hr : mrd M t N b) (hj : j ≤ N) (hra : M.1 74 13 = nI j) : Ct E mX11_ends [.ref 74, .int (nI t)] M (xN M) (fun r m => r = some (.int (zc (tK b N j = 3))) ∧ mnS M m ∧ mtok m b N j ∧ (¬ tK b N j = 3 → m.1 74 17 = nI (tF b N j))) := by
  have hM := hr.1
  refine Ct.of (lo := [some (.ref 74), some (.int (nI t))]) pln_X11 (Nat.le_of_ble_eq_true rfl) rfl (Nat.le_refl _) ?_
  refine px_aload_n dX11_ends_0 rfl rfl ?_
  refine px_iload_n dX11_ends_1 rfl rfl ?_
  refine px_gV1 dX11_ends_2 kX11_ends_125 (xol rfl) hM (Nat.le_of_ble_eq_true rfl) (c_X11_next hr hj hra) (fun r2 M2 hq2 hn2 => ?_)
  obtain ⟨rfl, q1, q2⟩ := hq2
  have hM : xNT ≤ xN M2 := by rw [hn2]; exact hM
  refine px_aload_n dX11_ends_5 rfl rfl ?_
  refine px_getI dX11_ends_6 fX11_110 (xol rfl) hM rfl ?_
  refine px_top (y := nI (tK b N j)) q2.2.2.1 ?_
  refine px_iconst dX11_ends_9 ic_3 ?_
  refine px_icmp_eq 20 dX11_ends_10 rfl (fun h10 => ?_) (fun h10 => ?_)
  · have hys : tK b N j = 3 := by
      first
        | exact nI_is (show (3 : Int32) = nI 3 from rfl) (by unfold tK; (repeat' split) <;> omega) (by decide) h10
        | exact absurd rfl h17
    refine px_iconst dX11_ends_20 ic_1 ?_
    refine px_goto 25 dX11_ends_21 rfl ?_
    exact px_zret dX11_ends_25 rfl (by first | rfl | exact zb_nar | exact zc_nar) (by first | (rw [zcT hys]; exact ⟨rfl, q1, q2, fun z => absurd hys z⟩) | (rw [zcF hno]; exact ⟨rfl, q1.p (by omega), ⟨q2.1, q2.2.1, q2.2.2.1, q2.2.2.2⟩, fun _ => q2.2.1⟩) | exact absurd rfl h17) (by first | exact hn2)
  · have hno : ¬ tK b N j = 3 := fun z => h10 (by rw [z]; rfl)
    refine px_aload_n dX11_ends_13 rfl rfl ?_
    refine px_fV0i dX11_ends_14 kX11_ends_128 (xol rfl) hM (Nat.le_of_ble_eq_true rfl) (c_X11_fails hM) ?_
    refine px_if_eq 24 dX11_ends_17 rfl (fun h17 => ?_) (fun h17 => ?_)
    · refine px_iconst dX11_ends_24 ic_0 ?_
      exact px_zret dX11_ends_25 rfl (by first | rfl | exact zb_nar | exact zc_nar) (by first | (rw [zcT hys]; exact ⟨rfl, q1, q2, fun z => absurd hys z⟩) | (rw [zcF hno]; exact ⟨rfl, q1.p (by omega), ⟨q2.1, q2.2.1, q2.2.2.1, q2.2.2.2⟩, fun _ => q2.2.1⟩) | exact absurd rfl h17) (by first | exact hn2)
    · have hys : tK b N j = 3 := by
        first
          | exact nI_is (show (3 : Int32) = nI 3 from rfl) (by unfold tK; (repeat' split) <;> omega) (by decide) h10
          | exact absurd rfl h17
      refine px_iconst dX11_ends_20 ic_1 ?_
      refine px_goto 25 dX11_ends_21 rfl ?_
      exact px_zret dX11_ends_25 rfl (by first | rfl | exact zb_nar | exact zc_nar) (by first | (rw [zcT hys]; exact ⟨rfl, q1, q2, fun z => absurd hys z⟩) | (rw [zcF hno]; exact ⟨rfl, q1.p (by omega), ⟨q2.1, q2.2.1, q2.2.2.1, q2.2.2.2⟩, fun _ => q2.2.1⟩) | exact absurd rfl h17) (by first | exact hn2)
