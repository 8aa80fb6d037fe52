/-! ===== constructors: layouts, sheets, stories, the reader, the packer ===== -/
set_option maxRecDepth 100000 in
theorem n_X0 {E : xE} {M : xMem} {a : Nat} (ha : xN M = a) (h1 : 1 ≤ a) (hT : a + 0 ≤ xNT) (k0 : (xK a).1 = 0) : Ct E mX0_init [.ref a] M (a) (fun r m => r = none ∧ bel a M m) := by
  refine Ct.of (lo := [some (.ref a)]) pln_X0 (Nat.le_of_ble_eq_true rfl) rfl (by first | omega | (simp only [xN_wI, xN_wR, xN_wN]; omega)) ?_
  refine px_aload_n dX0_init_0 rfl rfl ?_
  refine px_obj dX0_init_1 kX0_init_3 (Nat.le_of_ble_eq_true rfl) (Nat.le_of_ble_eq_true rfl) ?_
  exact px_ret dX0_init_4 rfl ⟨rfl, bel_rf _ _⟩ (by first | omega | (simp only [xN_wI, xN_wR, xN_wN]; omega))
set_option maxRecDepth 100000 in
theorem l_X1 {E : xE} {M : xMem} {a : Nat} (ha : xN M = a) (h1 : 1 ≤ a) (hT : a + 1 ≤ xNT) (k0 : (xK a).1 = 1) (k1 : xK (a + 1) = (20, 8)) : ∀ m, (xN m = a + 1 ∧ bel a M m ∧ m.2.1 a 0 = a + 1 ∧ m.1 a 1 = 0 ∧ ∀ k, k < 0 → m.1 (a + 1) k = -9) → PR E mX1_init (a + 1) 19 [some (.ref a), some (.int (nI 0))] [] (m) (fun r m => r = none ∧ bel a M m ∧ layN a m) := by
  refine px_for (P := fun i => ∀ m, (xN m = a + 1 ∧ bel a M m ∧ m.2.1 a 0 = a + 1 ∧ m.1 a 1 = 0 ∧ ∀ k, k < i → m.1 (a + 1) k = -9) → PR E mX1_init (a + 1) 19 [some (.ref a), some (.int (nI i))] [] (m) (fun r m => r = none ∧ bel a M m ∧ layN a m)) (8) (fun i hi nx => ?_) (0) (Nat.zero_le _)
  intro m hI
  obtain ⟨hn, hb, hr, hz, hf⟩ := hI
  refine px_iload_n dX1_init_19 rfl rfl ?_
  refine px_bipush dX1_init_20 bp_8 ?_
  refine px_icmp_ge 39 dX1_init_22 rfl (fun h22 => ?_) (fun h22 => ?_)
  · have hi2 : i = 8 := by rw [show (8 : Int32) = nI 8 from rfl, nI_leI (by omega) (by omega)] at h22; omega
    exact px_ret dX1_init_39 rfl ⟨rfl, hb, hr, hz, fun k hk => hf k (by omega)⟩ (hn)
  · have hlt : i < 8 := by rw [show (8 : Int32) = nI 8 from rfl, nI_leI (by omega) (by omega)] at h22; omega
    refine px_aload_n dX1_init_25 rfl rfl ?_
    refine px_getRA dX1_init_26 fX1_9 h1 (by first | omega | (simp only [xN_wI, xN_wR, xN_wN]; omega)) (by have : xNT = 93 := rfl; omega) k0 rfl hr (by first | omega | (simp only [xN_wI, xN_wR, xN_wN]; omega)) ?_
    refine px_iload_n dX1_init_29 rfl rfl ?_
    refine px_bipush dX1_init_30 bp_m9 ?_
    refine px_iast0 dX1_init_32 (by first | omega | (simp only [xN_wI, xN_wR, xN_wN]; omega)) (by first | omega | (simp only [xN_wI, xN_wR, xN_wN]; omega)) (by have : xNT = 93 := rfl; omega) k1 (vp_in_nI (by omega) (by decide)) ?_
    refine px_inc_1 dX1_init_33 rfl ic_1 ?_
    refine px_goto 19 dX1_init_36 rfl ?_
    exact px_eq (by rw [nI_1]) rfl (nx hlt _ ⟨hn, bel_wI hb (by omega), hr, by rw [xI_wI, if_neg (fun z => by omega)]; exact hz, fun k hk => by
      rw [xI_wI, nI_clamp (by omega)]
      by_cases e : k = i
      · rw [if_pos ⟨rfl, e⟩]
      · rw [if_neg (fun z => e z.2)]; exact hf k (by omega)⟩)
set_option maxRecDepth 100000 in
theorem n_X1 {E : xE} {M : xMem} {a : Nat} (ha : xN M = a) (h1 : 1 ≤ a) (hT : a + 1 ≤ xNT) (k0 : (xK a).1 = 1) (k1 : xK (a + 1) = (20, 8)) : Ct E mX1_init [.ref a] M (a + 1) (fun r m => r = none ∧ bel a M m ∧ layN a m) := by
  refine Ct.of (lo := [some (.ref a), none]) pln_X1 (Nat.le_of_ble_eq_true rfl) rfl (by first | omega | (simp only [xN_wI, xN_wR, xN_wN]; omega)) ?_
  refine px_aload_n dX1_init_0 rfl rfl ?_
  refine px_obj dX1_init_1 kX1_init_3 (Nat.le_of_ble_eq_true rfl) (Nat.le_of_ble_eq_true rfl) ?_
  refine px_aload_n dX1_init_4 rfl rfl ?_
  refine px_bipush dX1_init_5 bp_8 ?_
  refine px_newaA (b := a + 1) (N := 8) (kk := 20) (t0 := 0) dX1_init_7 xw147 (fun _ => rfl) (fun _ _ h => h) rfl (by decide) (by decide) (by first | omega | (simp only [xN_wI, xN_wR, xN_wN]; omega)) k1 (by decide) rfl (by decide) (by first | omega | (simp only [xN_wI, xN_wR, xN_wN]; omega)) hT ?_
  refine px_putR0 dX1_init_9 fX1_9 p1_0 (fun _ => ⟨rfl, rfl⟩) h1 (by first | omega | (simp only [xN_wI, xN_wR, xN_wN]; omega)) (by have : xNT = 93 := rfl; omega) k0 rfl (by first | omega | (simp only [xN_wI, xN_wR, xN_wN]; omega)) (fun _ => rfl) (fun _ => rfl) ?_
  refine px_aload_n dX1_init_12 rfl rfl ?_
  refine px_iconst dX1_init_13 ic_0 ?_
  refine px_putI0 dX1_init_14 fX1_15 p1_1 (fun _ => ⟨rfl, rfl⟩) h1 (by first | omega | (simp only [xN_wI, xN_wR, xN_wN]; omega)) (by have : xNT = 93 := rfl; omega) k0 rfl rfl rfl ?_
  refine px_iconst dX1_init_17 ic_0 ?_
  refine px_si_1 dX1_init_18 rfl ?_
  exact l_X1 ha h1 hT k0 k1 _ ⟨(by first | omega | (simp only [xN_wI, xN_wR, xN_wN]; omega)), (by repeat (first | exact bel_rf _ _ | (refine bel_wI ?_ (by first | omega | (simp only [xN_wI, xN_wR, xN_wN]; omega))) | (refine bel_wR ?_ (by first | omega | (simp only [xN_wI, xN_wR, xN_wN]; omega))) | (refine bel_wN ?_ (by first | omega | (simp only [xN_wI, xN_wR, xN_wN]; omega))))), by (repeat (first | rfl | omega | rw [if_neg (by omega)] | rw [if_pos (by omega)] | rw [xI_wI] | rw [xR_wI] | rw [xR_wR] | rw [xI_wR] | rw [wN_1 (by first | omega | (simp only [xN_wI, xN_wR, xN_wN]; omega))] | rw [wN_2 (by first | omega | (simp only [xN_wI, xN_wR, xN_wN]; omega))])), by (repeat (first | rfl | omega | rw [if_neg (by omega)] | rw [if_pos (by omega)] | rw [xI_wI] | rw [xR_wI] | rw [xR_wR] | rw [xI_wR] | rw [wN_1 (by first | omega | (simp only [xN_wI, xN_wR, xN_wN]; omega))] | rw [wN_2 (by first | omega | (simp only [xN_wI, xN_wR, xN_wN]; omega))])), fun k hk => absurd hk (Nat.not_lt_zero _)⟩
set_option maxRecDepth 100000 in
theorem l_X7 {E : xE} {M : xMem} {a : Nat} (ha : xN M = a) (h1 : 1 ≤ a) (hT : a + 9 ≤ xNT) (k0 : (xK a).1 = 7) (k1 : xK (a + 1) = (26, 8)) (kf : ∀ j, j < 8 → (xK (a + 1 + 1 + j)).1 = 0) : ∀ m, (xN m = a + 1 + 0 ∧ bel a M m ∧ m.2.1 a 0 = a + 1 ∧ (m.1 a 1 = 0 ∧ m.1 a 2 = 0 ∧ m.1 a 3 = 0 ∧ m.1 a 4 = 0) ∧ ∀ j, j < 0 → m.2.1 (a + 1) j = a + 1 + 1 + j) → PR E mX7_init (a + 9) 35 [some (.ref a), some (.int (nI 0))] [] (m) (fun r m => r = none ∧ bel a M m ∧ sheN a m) := by
  refine px_for (P := fun i => ∀ m, (xN m = a + 1 + i ∧ bel a M m ∧ m.2.1 a 0 = a + 1 ∧ (m.1 a 1 = 0 ∧ m.1 a 2 = 0 ∧ m.1 a 3 = 0 ∧ m.1 a 4 = 0) ∧ ∀ j, j < i → m.2.1 (a + 1) j = a + 1 + 1 + j) → PR E mX7_init (a + 9) 35 [some (.ref a), some (.int (nI i))] [] (m) (fun r m => r = none ∧ bel a M m ∧ sheN a m)) (8) (fun i hi nx => ?_) (0) (Nat.zero_le _)
  intro m hI
  obtain ⟨hn, hb, hr, hz, hf⟩ := hI
  refine px_iload_n dX7_init_35 rfl rfl ?_
  refine px_bipush dX7_init_36 bp_8 ?_
  refine px_icmp_ge 60 dX7_init_38 rfl (fun h38 => ?_) (fun h38 => ?_)
  · have hi2 : i = 8 := by rw [show (8 : Int32) = nI 8 from rfl, nI_leI (by omega) (by omega)] at h38; omega
    exact px_ret dX7_init_60 rfl ⟨rfl, hb, hr, hz, fun j hj => hf j (by omega)⟩ (by omega)
  · have hlt : i < 8 := by rw [show (8 : Int32) = nI 8 from rfl, nI_leI (by omega) (by omega)] at h38; omega
    have h93 : xNT = 93 := rfl
    have kfi := kf i hlt
    refine px_aload_n dX7_init_41 rfl rfl ?_
    refine px_getRA dX7_init_42 fX7_11 h1 (by first | omega | (simp only [xN_wI, xN_wR, xN_wN]; omega)) (by have : xNT = 93 := rfl; omega) k0 rfl hr (by first | omega | (simp only [xN_wI, xN_wR, xN_wN]; omega)) ?_
    refine px_iload_n dX7_init_45 rfl rfl ?_
    refine px_newA (b := a + 1 + 1 + i) dX7_init_46 nX7_init_9 (by first | omega | (simp only [xN_wI, xN_wR, xN_wN]; omega)) kfi (by first | omega | (simp only [xN_wI, xN_wR, xN_wN]; omega)) hT ?_
    first | refine px_dupi dX7_init_49 ?_ | refine px_dupa dX7_init_49 ?_
    refine px_cIN0 (ne' := a + 1 + 1 + i) dX7_init_50 kX7_init_30 (by first | omega | (simp only [xN_wI, xN_wR, xN_wN]; omega)) (by first | omega | (simp only [xN_wI, xN_wR, xN_wN]; omega)) (Nat.le_of_ble_eq_true rfl) (n_X0 (a := a + 1 + 1 + i) (by first | omega | (simp only [xN_wI, xN_wR, xN_wN]; omega)) (by first | omega | (simp only [xN_wI, xN_wR, xN_wN]; omega)) (by first | omega | (simp only [xN_wI, xN_wR, xN_wN]; omega)) kfi) (fun r50 M50 hq50 hn50 => ?_)
    obtain ⟨rfl, hb50⟩ := hq50
    refine px_aast0 (kk := 26) (n := 8) (t0 := 6) (c := 0) dX7_init_53 (by first | omega | (simp only [xN_wI, xN_wR, xN_wN]; omega)) (by first | omega | (simp only [xN_wI, xN_wR, xN_wN]; omega)) (by have : xNT = 93 := rfl; omega) k1 (by decide) rfl (fun _ => rfl) (vp_in_nI (by omega) (by decide)) (by first | omega | (simp only [xN_wI, xN_wR, xN_wN]; omega)) (by first | omega | (simp only [xN_wI, xN_wR, xN_wN]; omega)) (by have : xNT = 93 := rfl; omega) kfi (by decide) ?_
    refine px_inc_1 dX7_init_54 rfl ic_1 ?_
    refine px_goto 35 dX7_init_57 rfl ?_
    exact px_eq (by rw [nI_1]) rfl (nx hlt _ ⟨by rw [xN_wR, hn50]; omega, bel_wR (bel_tr (bel_wN hb (by first | omega | (simp only [xN_wI, xN_wR, xN_wN]; omega))) hb50 (by omega)) (by omega), by rw [xR_wR, if_neg (fun z => by omega), (hb50 a (by omega)).2, wN_2 (by omega)]; exact hr, by rw [xI_wR, (hb50 a (by omega)).1, wN_1 (by omega)]; exact hz, fun j hj => by
      rw [xR_wR, nI_clamp (by omega)]
      by_cases e : j = i
      · rw [if_pos ⟨rfl, e⟩, e]
      · rw [if_neg (fun z => e z.2), (hb50 (a + 1) (by omega)).2, wN_2 (by omega)]; exact hf j (by omega)⟩)
set_option maxRecDepth 100000 in
theorem n_X7 {E : xE} {M : xMem} {a : Nat} (ha : xN M = a) (h1 : 1 ≤ a) (hT : a + 9 ≤ xNT) (k0 : (xK a).1 = 7) (k1 : xK (a + 1) = (26, 8)) (kf : ∀ j, j < 8 → (xK (a + 1 + 1 + j)).1 = 0) : Ct E mX7_init [.ref a] M (a + 9) (fun r m => r = none ∧ bel a M m ∧ sheN a m) := by
  refine Ct.of (lo := [some (.ref a), none]) pln_X7 (Nat.le_of_ble_eq_true rfl) rfl (by first | omega | (simp only [xN_wI, xN_wR, xN_wN]; omega)) ?_
  refine px_aload_n dX7_init_0 rfl rfl ?_
  refine px_obj dX7_init_1 kX7_init_3 (Nat.le_of_ble_eq_true rfl) (Nat.le_of_ble_eq_true rfl) ?_
  refine px_aload_n dX7_init_4 rfl rfl ?_
  refine px_bipush dX7_init_5 bp_8 ?_
  refine px_newqA (b := a + 1) (N := 8) (kk := 26) (t0 := 6) (C := RX0) dX7_init_7 xw172 (List.mem_of_getElem? (i := 3) rfl) (fun _ => rfl) (by decide) (by first | omega | (simp only [xN_wI, xN_wR, xN_wN]; omega)) k1 (by decide) rfl (by decide) (by first | omega | (simp only [xN_wI, xN_wR, xN_wN]; omega)) hT ?_
  refine px_putR0 dX7_init_10 fX7_11 p7_0 (fun _ => ⟨rfl, rfl⟩) h1 (by first | omega | (simp only [xN_wI, xN_wR, xN_wN]; omega)) (by have : xNT = 93 := rfl; omega) k0 rfl (by first | omega | (simp only [xN_wI, xN_wR, xN_wN]; omega)) (fun _ => rfl) (fun _ => rfl) ?_
  refine px_aload_n dX7_init_13 rfl rfl ?_
  refine px_iconst dX7_init_14 ic_0 ?_
  refine px_putI0 dX7_init_15 fX7_17 p7_1 (fun _ => ⟨rfl, rfl⟩) h1 (by first | omega | (simp only [xN_wI, xN_wR, xN_wN]; omega)) (by have : xNT = 93 := rfl; omega) k0 rfl rfl rfl ?_
  refine px_aload_n dX7_init_18 rfl rfl ?_
  refine px_iconst dX7_init_19 ic_0 ?_
  refine px_putI0 dX7_init_20 fX7_21 p7_2 (fun _ => ⟨rfl, rfl⟩) h1 (by first | omega | (simp only [xN_wI, xN_wR, xN_wN]; omega)) (by have : xNT = 93 := rfl; omega) k0 rfl rfl rfl ?_
  refine px_aload_n dX7_init_23 rfl rfl ?_
  refine px_iconst dX7_init_24 ic_0 ?_
  refine px_putI0 dX7_init_25 fX7_24 p7_3 (fun _ => ⟨rfl, rfl⟩) h1 (by first | omega | (simp only [xN_wI, xN_wR, xN_wN]; omega)) (by have : xNT = 93 := rfl; omega) k0 rfl rfl rfl ?_
  refine px_aload_n dX7_init_28 rfl rfl ?_
  refine px_iconst dX7_init_29 ic_0 ?_
  refine px_putI0 dX7_init_30 fX7_27 p7_4 (fun _ => ⟨rfl, rfl⟩) h1 (by first | omega | (simp only [xN_wI, xN_wR, xN_wN]; omega)) (by have : xNT = 93 := rfl; omega) k0 rfl rfl rfl ?_
  refine px_iconst dX7_init_33 ic_0 ?_
  refine px_si_1 dX7_init_34 rfl ?_
  exact l_X7 ha h1 hT k0 k1 kf _ ⟨(by first | omega | (simp only [xN_wI, xN_wR, xN_wN]; omega)), (by repeat (first | exact bel_rf _ _ | (refine bel_wI ?_ (by first | omega | (simp only [xN_wI, xN_wR, xN_wN]; omega))) | (refine bel_wR ?_ (by first | omega | (simp only [xN_wI, xN_wR, xN_wN]; omega))) | (refine bel_wN ?_ (by first | omega | (simp only [xN_wI, xN_wR, xN_wN]; omega))))), by (repeat (first | rfl | omega | rw [if_neg (by omega)] | rw [if_pos (by omega)] | rw [xI_wI] | rw [xR_wI] | rw [xR_wR] | rw [xI_wR] | rw [wN_1 (by first | omega | (simp only [xN_wI, xN_wR, xN_wN]; omega))] | rw [wN_2 (by first | omega | (simp only [xN_wI, xN_wR, xN_wN]; omega))])), ⟨by (repeat (first | rfl | omega | rw [if_neg (by omega)] | rw [if_pos (by omega)] | rw [xI_wI] | rw [xR_wI] | rw [xR_wR] | rw [xI_wR] | rw [wN_1 (by first | omega | (simp only [xN_wI, xN_wR, xN_wN]; omega))] | rw [wN_2 (by first | omega | (simp only [xN_wI, xN_wR, xN_wN]; omega))])), by (repeat (first | rfl | omega | rw [if_neg (by omega)] | rw [if_pos (by omega)] | rw [xI_wI] | rw [xR_wI] | rw [xR_wR] | rw [xI_wR] | rw [wN_1 (by first | omega | (simp only [xN_wI, xN_wR, xN_wN]; omega))] | rw [wN_2 (by first | omega | (simp only [xN_wI, xN_wR, xN_wN]; omega))])), by (repeat (first | rfl | omega | rw [if_neg (by omega)] | rw [if_pos (by omega)] | rw [xI_wI] | rw [xR_wI] | rw [xR_wR] | rw [xI_wR] | rw [wN_1 (by first | omega | (simp only [xN_wI, xN_wR, xN_wN]; omega))] | rw [wN_2 (by first | omega | (simp only [xN_wI, xN_wR, xN_wN]; omega))])), by (repeat (first | rfl | omega | rw [if_neg (by omega)] | rw [if_pos (by omega)] | rw [xI_wI] | rw [xR_wI] | rw [xR_wR] | rw [xI_wR] | rw [wN_1 (by first | omega | (simp only [xN_wI, xN_wR, xN_wN]; omega))] | rw [wN_2 (by first | omega | (simp only [xN_wI, xN_wR, xN_wN]; omega))]))⟩, fun k hk => absurd hk (Nat.not_lt_zero _)⟩
set_option maxRecDepth 100000 in
theorem n_X8 {E : xE} {M : xMem} {a : Nat} (ha : xN M = a) (h1 : 1 ≤ a) (hT : a + 3 ≤ xNT) (k0 : (xK a).1 = 8) (k1 : (xK (a + 1)).1 = 1) (k2 : xK (a + 2) = (20, 8)) (k3 : xK (a + 3) = (20, 360)) : Ct E mX8_init [.ref a] M (a + 3) (fun r m => r = none ∧ bel a M m ∧ stoN a m) := by
  refine Ct.of (lo := [some (.ref a)]) pln_X8 (Nat.le_of_ble_eq_true rfl) rfl (by first | omega | (simp only [xN_wI, xN_wR, xN_wN]; omega)) ?_
  refine px_aload_n dX8_init_0 rfl rfl ?_
  refine px_obj dX8_init_1 kX8_init_3 (Nat.le_of_ble_eq_true rfl) (Nat.le_of_ble_eq_true rfl) ?_
  refine px_aload_n dX8_init_4 rfl rfl ?_
  refine px_newA (b := a + 1) dX8_init_5 nX8_init_9 (by first | omega | (simp only [xN_wI, xN_wR, xN_wN]; omega)) k1 (by first | omega | (simp only [xN_wI, xN_wR, xN_wN]; omega)) hT ?_
  refine px_dupa dX8_init_8 ?_
  refine px_cI0 (ne' := a + 2) dX8_init_9 kX8_init_11 (by first | omega | (simp only [xN_wI, xN_wR, xN_wN]; omega)) (by first | omega | (simp only [xN_wI, xN_wR, xN_wN]; omega)) (Nat.le_of_ble_eq_true rfl) (n_X1 (a := a + 1) (by first | omega | (simp only [xN_wI, xN_wR, xN_wN]; omega)) (by first | omega | (simp only [xN_wI, xN_wR, xN_wN]; omega)) (by first | omega | (simp only [xN_wI, xN_wR, xN_wN]; omega)) k1 k2) (fun r9 M9 hq9 hn9 => ?_)
  obtain ⟨rfl, hb9, hl9⟩ := hq9
  refine px_putR0 dX8_init_12 fX8_12 p8_0 (fun _ => ⟨rfl, rfl⟩) h1 (by first | omega | (simp only [xN_wI, xN_wR, xN_wN]; omega)) (by have : xNT = 93 := rfl; omega) k0 rfl (by first | omega | (simp only [xN_wI, xN_wR, xN_wN]; omega)) (fun _ => rfl) (fun _ => rfl) ?_
  refine px_aload_n dX8_init_15 rfl rfl ?_
  refine px_sipush dX8_init_16 sp_360 ?_
  refine px_newaA (b := a + 3) (N := 360) (kk := 20) (t0 := 0) dX8_init_19 xw147 (fun _ => rfl) (fun _ _ h => h) rfl (by decide) (by decide) (by first | omega | (simp only [xN_wI, xN_wR, xN_wN]; omega)) k3 (by decide) rfl (by decide) (by first | omega | (simp only [xN_wI, xN_wR, xN_wN]; omega)) hT ?_
  refine px_putR0 dX8_init_21 fX8_18 p8_1 (fun _ => ⟨rfl, rfl⟩) h1 (by first | omega | (simp only [xN_wI, xN_wR, xN_wN]; omega)) (by have : xNT = 93 := rfl; omega) k0 rfl (by first | omega | (simp only [xN_wI, xN_wR, xN_wN]; omega)) (fun _ => rfl) (fun _ => rfl) ?_
  refine px_aload_n dX8_init_24 rfl rfl ?_
  refine px_iconst dX8_init_25 ic_0 ?_
  refine px_putI0 dX8_init_26 fX8_22 p8_2 (fun _ => ⟨rfl, rfl⟩) h1 (by first | omega | (simp only [xN_wI, xN_wR, xN_wN]; omega)) (by have : xNT = 93 := rfl; omega) k0 rfl rfl rfl ?_
  exact px_ret dX8_init_29 rfl ⟨rfl, (by repeat (first | exact bel_tr (bel_wN (bel_rf _ _) (by first | omega | (simp only [xN_wI, xN_wR, xN_wN]; omega))) hb9 (by omega) | (refine bel_wI ?_ (by first | omega | (simp only [xN_wI, xN_wR, xN_wN]; omega))) | (refine bel_wR ?_ (by first | omega | (simp only [xN_wI, xN_wR, xN_wN]; omega))) | (refine bel_wN ?_ (by first | omega | (simp only [xN_wI, xN_wR, xN_wN]; omega))))), by (repeat (first | rfl | omega | rw [if_neg (by omega)] | rw [if_pos (by omega)] | rw [xI_wI] | rw [xR_wI] | rw [xR_wR] | rw [xI_wR] | rw [wN_1 (by first | omega | (simp only [xN_wI, xN_wR, xN_wN]; omega))] | rw [wN_2 (by first | omega | (simp only [xN_wI, xN_wR, xN_wN]; omega))])), by (repeat (first | rfl | omega | rw [if_neg (by omega)] | rw [if_pos (by omega)] | rw [xI_wI] | rw [xR_wI] | rw [xR_wR] | rw [xI_wR] | rw [wN_1 (by first | omega | (simp only [xN_wI, xN_wR, xN_wN]; omega))] | rw [wN_2 (by first | omega | (simp only [xN_wI, xN_wR, xN_wN]; omega))])), by (repeat (first | rfl | omega | rw [if_neg (by omega)] | rw [if_pos (by omega)] | rw [xI_wI] | rw [xR_wI] | rw [xR_wR] | rw [xI_wR] | rw [wN_1 (by first | omega | (simp only [xN_wI, xN_wR, xN_wN]; omega))] | rw [wN_2 (by first | omega | (simp only [xN_wI, xN_wR, xN_wN]; omega))])), layN_k hl9 (fun b b1 b2 => ⟨by funext j; (repeat (first | rfl | omega | rw [if_neg (by omega)] | rw [if_pos (by omega)] | rw [xI_wI] | rw [xR_wI] | rw [xR_wR] | rw [xI_wR] | rw [wN_1 (by first | omega | (simp only [xN_wI, xN_wR, xN_wN]; omega))] | rw [wN_2 (by first | omega | (simp only [xN_wI, xN_wR, xN_wN]; omega))])), by funext j; (repeat (first | rfl | omega | rw [if_neg (by omega)] | rw [if_pos (by omega)] | rw [xI_wI] | rw [xR_wI] | rw [xR_wR] | rw [xI_wR] | rw [wN_1 (by first | omega | (simp only [xN_wI, xN_wR, xN_wN]; omega))] | rw [wN_2 (by first | omega | (simp only [xN_wI, xN_wR, xN_wN]; omega))]))⟩)⟩ (by first | omega | (simp only [xN_wI, xN_wR, xN_wN]; omega))
set_option maxRecDepth 100000 in
theorem n_X3 {E : xE} {M : xMem} (ha : xN M = 10) : Ct E mX3_init [.ref 10] M (21) (fun r m => r = none ∧ bel 10 M m ∧ m.2.1 10 0 = 11 ∧ sheN 11 m) := by
  refine Ct.of (lo := [some (.ref 10)]) pln_X3 (Nat.le_of_ble_eq_true rfl) rfl (by first | omega | (simp only [xN_wI, xN_wR, xN_wN]; omega)) ?_
  refine px_aload_n dX3_init_0 rfl rfl ?_
  refine px_obj dX3_init_1 kX3_init_3 (Nat.le_of_ble_eq_true rfl) (Nat.le_of_ble_eq_true rfl) ?_
  refine px_aload_n dX3_init_4 rfl rfl ?_
  refine px_newA (b := 11) dX3_init_5 nX3_init_9 (by first | omega | (simp only [xN_wI, xN_wR, xN_wN]; omega)) rfl (by first | omega | (simp only [xN_wI, xN_wR, xN_wN]; omega)) (by decide) ?_
  refine px_dupa dX3_init_8 ?_
  refine px_cI0 (ne' := 20) dX3_init_9 kX3_init_11 (by first | omega | (simp only [xN_wI, xN_wR, xN_wN]; omega)) (by first | omega | (simp only [xN_wI, xN_wR, xN_wN]; omega)) (Nat.le_of_ble_eq_true rfl) (n_X7 (a := 11) (by first | omega | (simp only [xN_wI, xN_wR, xN_wN]; omega)) (by decide) (by decide) rfl rfl (by decide)) (fun r9 M9 hq9 hn9 => ?_)
  obtain ⟨rfl, hb9, hl9⟩ := hq9
  refine px_putR0 dX3_init_12 fX3_12 p3_0 (fun _ => ⟨rfl, rfl⟩) (by decide) (by first | omega | (simp only [xN_wI, xN_wR, xN_wN]; omega)) (by decide) rfl rfl (by first | omega | (simp only [xN_wI, xN_wR, xN_wN]; omega)) (fun _ => rfl) (fun _ => rfl) ?_
  refine px_aload_n dX3_init_15 rfl rfl ?_
  refine px_iconst dX3_init_16 ic_0 ?_
  refine px_newaA (b := 21) (N := 0) (kk := 21) (t0 := 1) dX3_init_17 xw299 (fun _ => rfl) (fun _ _ h => h) rfl (by decide) (by decide) (by first | omega | (simp only [xN_wI, xN_wR, xN_wN]; omega)) rfl (by decide) rfl (by decide) (by first | omega | (simp only [xN_wI, xN_wR, xN_wN]; omega)) (by decide) ?_
  refine px_putR0 dX3_init_19 fX3_18 p3_1 (fun _ => ⟨rfl, rfl⟩) (by decide) (by first | omega | (simp only [xN_wI, xN_wR, xN_wN]; omega)) (by decide) rfl rfl (by first | omega | (simp only [xN_wI, xN_wR, xN_wN]; omega)) (fun _ => rfl) (fun _ => rfl) ?_
  refine px_aload_n dX3_init_22 rfl rfl ?_
  refine px_iconst dX3_init_23 ic_0 ?_
  refine px_putI0 dX3_init_24 fX3_22 p3_2 (fun _ => ⟨rfl, rfl⟩) (by decide) (by first | omega | (simp only [xN_wI, xN_wR, xN_wN]; omega)) (by decide) rfl rfl rfl rfl ?_
  refine px_aload_n dX3_init_27 rfl rfl ?_
  refine px_iconst dX3_init_28 ic_0 ?_
  refine px_putI0 dX3_init_29 fX3_26 p3_3 (fun _ => ⟨rfl, rfl⟩) (by decide) (by first | omega | (simp only [xN_wI, xN_wR, xN_wN]; omega)) (by decide) rfl rfl rfl rfl ?_
  refine px_aload_n dX3_init_32 rfl rfl ?_
  refine px_iconst dX3_init_33 ic_0 ?_
  refine px_putI0 dX3_init_34 fX3_29 p3_4 (fun _ => ⟨rfl, rfl⟩) (by decide) (by first | omega | (simp only [xN_wI, xN_wR, xN_wN]; omega)) (by decide) rfl rfl rfl rfl ?_
  refine px_aload_n dX3_init_37 rfl rfl ?_
  refine px_iconst dX3_init_38 ic_0 ?_
  refine px_putI0 dX3_init_39 fX3_32 p3_5 (fun _ => ⟨rfl, rfl⟩) (by decide) (by first | omega | (simp only [xN_wI, xN_wR, xN_wN]; omega)) (by decide) rfl rfl rfl rfl ?_
  refine px_aload_n dX3_init_42 rfl rfl ?_
  refine px_iconst dX3_init_43 ic_0 ?_
  refine px_putI0 dX3_init_44 fX3_35 p3_6 (fun _ => ⟨rfl, rfl⟩) (by decide) (by first | omega | (simp only [xN_wI, xN_wR, xN_wN]; omega)) (by decide) rfl rfl rfl rfl ?_
  refine px_aload_n dX3_init_47 rfl rfl ?_
  refine px_iconst dX3_init_48 ic_0 ?_
  refine px_putI0 dX3_init_49 fX3_38 p3_7 (fun _ => ⟨rfl, rfl⟩) (by decide) (by first | omega | (simp only [xN_wI, xN_wR, xN_wN]; omega)) (by decide) rfl rfl rfl rfl ?_
  exact px_ret dX3_init_52 rfl ⟨rfl, (by repeat (first | exact bel_tr (bel_wN (bel_rf _ _) (by first | omega | (simp only [xN_wI, xN_wR, xN_wN]; omega))) hb9 (by omega) | (refine bel_wI ?_ (by first | omega | (simp only [xN_wI, xN_wR, xN_wN]; omega))) | (refine bel_wR ?_ (by first | omega | (simp only [xN_wI, xN_wR, xN_wN]; omega))) | (refine bel_wN ?_ (by first | omega | (simp only [xN_wI, xN_wR, xN_wN]; omega))))), by (repeat (first | rfl | omega | rw [if_neg (by omega)] | rw [if_pos (by omega)] | rw [xI_wI] | rw [xR_wI] | rw [xR_wR] | rw [xI_wR] | rw [wN_1 (by first | omega | (simp only [xN_wI, xN_wR, xN_wN]; omega))] | rw [wN_2 (by first | omega | (simp only [xN_wI, xN_wR, xN_wN]; omega))])), sheN_k hl9 (fun b b1 b2 => ⟨by funext j; (repeat (first | rfl | omega | rw [if_neg (by omega)] | rw [if_pos (by omega)] | rw [xI_wI] | rw [xR_wI] | rw [xR_wR] | rw [xI_wR] | rw [wN_1 (by first | omega | (simp only [xN_wI, xN_wR, xN_wN]; omega))] | rw [wN_2 (by first | omega | (simp only [xN_wI, xN_wR, xN_wN]; omega))])), by funext j; (repeat (first | rfl | omega | rw [if_neg (by omega)] | rw [if_pos (by omega)] | rw [xI_wI] | rw [xR_wI] | rw [xR_wR] | rw [xI_wR] | rw [wN_1 (by first | omega | (simp only [xN_wI, xN_wR, xN_wN]; omega))] | rw [wN_2 (by first | omega | (simp only [xN_wI, xN_wR, xN_wN]; omega))]))⟩)⟩ (by first | omega | (simp only [xN_wI, xN_wR, xN_wN]; omega))
set_option maxRecDepth 100000 in
theorem n_X2 {E : xE} {M : xMem} (ha : xN M = 24) : Ct E mX2_init [.ref 24] M (28) (fun r m => r = none ∧ bel 24 M m ∧ m.2.1 24 0 = 25 ∧ m.2.1 24 1 = 28 ∧ m.2.1 25 0 = 26 ∧ m.2.1 25 1 = 27) := by
  refine Ct.of (lo := [some (.ref 24)]) pln_X2 (Nat.le_of_ble_eq_true rfl) rfl (by first | omega | (simp only [xN_wI, xN_wR, xN_wN]; omega)) ?_
  refine px_aload_n dX2_init_0 rfl rfl ?_
  refine px_obj dX2_init_1 kX2_init_3 (Nat.le_of_ble_eq_true rfl) (Nat.le_of_ble_eq_true rfl) ?_
  refine px_aload_n dX2_init_4 rfl rfl ?_
  refine px_newA (b := 25) dX2_init_5 nX2_init_9 (by first | omega | (simp only [xN_wI, xN_wR, xN_wN]; omega)) rfl (by first | omega | (simp only [xN_wI, xN_wR, xN_wN]; omega)) (by decide) ?_
  refine px_dupa dX2_init_8 ?_
  refine px_cIN0 (ne' := 27) dX2_init_9 kX2_init_11 (by first | omega | (simp only [xN_wI, xN_wR, xN_wN]; omega)) (by first | omega | (simp only [xN_wI, xN_wR, xN_wN]; omega)) (Nat.le_of_ble_eq_true rfl) (n_X4 (a := 25) (by first | omega | (simp only [xN_wI, xN_wR, xN_wN]; omega)) (by decide) (by decide) rfl rfl rfl) (fun r9 M9 hq9 hn9 => ?_)
  obtain ⟨rfl, hb9, hl9, hl9b⟩ := hq9
  refine px_putR0 dX2_init_12 fX2_12 p2_0 (fun _ => ⟨rfl, rfl⟩) (by decide) (by first | omega | (simp only [xN_wI, xN_wR, xN_wN]; omega)) (by decide) rfl rfl (by first | omega | (simp only [xN_wI, xN_wR, xN_wN]; omega)) (fun _ => rfl) (fun _ => rfl) ?_
  refine px_aload_n dX2_init_15 rfl rfl ?_
  refine px_bipush dX2_init_16 bp_8 ?_
  refine px_newaA (b := 28) (N := 8) (kk := 20) (t0 := 0) dX2_init_18 xw147 (fun _ => rfl) (fun _ _ h => h) rfl (by decide) (by decide) (by first | omega | (simp only [xN_wI, xN_wR, xN_wN]; omega)) rfl (by decide) rfl (by decide) (by first | omega | (simp only [xN_wI, xN_wR, xN_wN]; omega)) (by decide) ?_
  refine px_putR0 dX2_init_20 fX2_18 p2_1 (fun _ => ⟨rfl, rfl⟩) (by decide) (by first | omega | (simp only [xN_wI, xN_wR, xN_wN]; omega)) (by decide) rfl rfl (by first | omega | (simp only [xN_wI, xN_wR, xN_wN]; omega)) (fun _ => rfl) (fun _ => rfl) ?_
  exact px_ret dX2_init_23 rfl ⟨rfl, (by repeat (first | exact bel_tr (bel_wN (bel_rf _ _) (by first | omega | (simp only [xN_wI, xN_wR, xN_wN]; omega))) hb9 (by omega) | (refine bel_wI ?_ (by first | omega | (simp only [xN_wI, xN_wR, xN_wN]; omega))) | (refine bel_wR ?_ (by first | omega | (simp only [xN_wI, xN_wR, xN_wN]; omega))) | (refine bel_wN ?_ (by first | omega | (simp only [xN_wI, xN_wR, xN_wN]; omega))))), by (repeat (first | rfl | omega | rw [if_neg (by omega)] | rw [if_pos (by omega)] | rw [xI_wI] | rw [xR_wI] | rw [xR_wR] | rw [xI_wR] | rw [wN_1 (by first | omega | (simp only [xN_wI, xN_wR, xN_wN]; omega))] | rw [wN_2 (by first | omega | (simp only [xN_wI, xN_wR, xN_wN]; omega))])), by (repeat (first | rfl | omega | rw [if_neg (by omega)] | rw [if_pos (by omega)] | rw [xI_wI] | rw [xR_wI] | rw [xR_wR] | rw [xI_wR] | rw [wN_1 (by first | omega | (simp only [xN_wI, xN_wR, xN_wN]; omega))] | rw [wN_2 (by first | omega | (simp only [xN_wI, xN_wR, xN_wN]; omega))])), by (repeat (first | rfl | omega | rw [if_neg (by omega)] | rw [if_pos (by omega)] | rw [xI_wI] | rw [xR_wI] | rw [xR_wR] | rw [xI_wR] | rw [wN_1 (by first | omega | (simp only [xN_wI, xN_wR, xN_wN]; omega))] | rw [wN_2 (by first | omega | (simp only [xN_wI, xN_wR, xN_wN]; omega))])), by (repeat (first | rfl | omega | rw [if_neg (by omega)] | rw [if_pos (by omega)] | rw [xI_wI] | rw [xR_wI] | rw [xR_wR] | rw [xI_wR] | rw [wN_1 (by first | omega | (simp only [xN_wI, xN_wR, xN_wN]; omega))] | rw [wN_2 (by first | omega | (simp only [xN_wI, xN_wR, xN_wN]; omega))]))⟩ (by first | omega | (simp only [xN_wI, xN_wR, xN_wN]; omega))
