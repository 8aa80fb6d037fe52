/-! ===== faultOf of the reference; fault ===== -/
theorem ps_mono {b : Nat → Int32} {N j : Nat} (hj : j ≤ N) : ∀ k, 1 ≤ k → tT b N j ≤ ps b N j k
  | 0, h => by omega
  | 1, _ => Nat.le_refl _
  | k + 2, _ => by
    have ih := ps_mono (b := b) hj (k + 1) (by omega)
    have hk := ps_le (b := b) hj (k + 1)
    have h1 := tT_b (b := b) hk
    have h2 := tF_b (b := b) hk
    show tT b N j ≤ tT b N (ps b N j (k + 1))
    omega
theorem kW_1 {b : Nat → Int32} {N j : Nat} (h : ¬ kW b N j = -9) : tK b N j = 1 := by
  unfold kW at h
  by_cases h1 : isW b N j 2
  · exact h1.1
  · rw [if_neg h1] at h
    by_cases h2 : isW b N j 3
    · exact h2.1
    · rw [if_neg h2] at h
      by_cases h3 : isW b N j 4
      · exact h3.1
      · rw [if_neg h3] at h
        by_cases h4 : isW b N j 5
        · exact h4.1
        · rw [if_neg h4] at h; exact absurd rfl h
theorem stJ_gt {b : Nat → Int32} {N : Nat} {s : pSt} {j : Nat} (hj : j ≤ N) (h : stO b N s j) : j < stJ b N s j := by
  unfold stJ
  rcases h with ⟨z1, z2, z3⟩ | ⟨z1, z2, z3, z4⟩
  · rw [if_pos z1, if_pos z2, z3]
    have := ps_mono (b := b) hj 3 (by omega)
    have := (tT_b (b := b) hj).2.2 (by rw [z1.1]; decide)
    omega
  · rw [if_neg z1, if_pos ⟨z2, z3⟩, z4]
    have := ps_mono (b := b) hj 8 (by omega)
    have := (tT_b (b := b) hj).2.2 (by rw [kW_1 z2]; decide)
    omega
theorem teqS {b : Nat → Int32} {N p j : Nat} {s : pSt} (h : tF b N p = tF b N j) : (stO b N s p ↔ stO b N s j) ∧ tF b N (stJ b N s p) = tF b N (stJ b N s j) ∧ (stO b N s j → stJ b N s p = stJ b N s j ∧ stS b N s p = stS b N s j) := by
  obtain ⟨w1, w2⟩ := teqW h
  obtain ⟨e1, e2, e3, e4, e5⟩ := teqC h
  have hO : stO b N s p ↔ stO b N s j := by unfold stO; rw [w1, w2, e3, e4]
  have f1 := (ff_b (blC b N j) 2 1).1
  have f2 := (ff_b (fmC b N j) 7 1).1
  have hJ : stJ b N s p = stJ b N s j ∨ (stJ b N s p = p ∧ stJ b N s j = j) := by
    unfold stJ
    rw [w1, w2, e3, e4]
    by_cases h1 : isW b N j 1
    · rw [if_pos h1, if_pos h1]
      by_cases h2 : s.1 = none
      · rw [if_pos h2, if_pos h2]; exact Or.inl (e1 _ f1)
      · rw [if_neg h2, if_neg h2]; exact Or.inr ⟨rfl, rfl⟩
    · rw [if_neg h1, if_neg h1]
      by_cases h2 : ¬ kW b N j = -9 ∧ s.2.1 < 8
      · rw [if_pos h2, if_pos h2]; exact Or.inl (e1 _ f2)
      · rw [if_neg h2, if_neg h2]; exact Or.inr ⟨rfl, rfl⟩
  refine ⟨hO, ?_, fun z => ⟨?_, ?_⟩⟩
  · rcases hJ with e | ⟨ep, ej⟩
    · rw [e]
    · rw [ep, ej]; exact h
  · unfold stJ
    rw [w1, w2, e3, e4]
    rcases z with ⟨z1, z2, z3⟩ | ⟨z1, z2, z3, z4⟩
    · rw [if_pos z1, if_pos z1, if_pos z2, if_pos z2]; exact e1 _ f1
    · rw [if_neg z1, if_neg z1, if_pos ⟨z2, z3⟩, if_pos ⟨z2, z3⟩]; exact e1 _ f2
  · unfold stS
    rw [w1]
    by_cases h1 : isW b N j 1
    · rw [if_pos h1, if_pos h1, e2 1 (by omega)]
    · rw [if_neg h1, if_neg h1]
      have hg : gN b N p s.2.1 s.2.2 = gN b N j s.2.1 s.2.2 := by
        funext f k
        unfold gN
        rw [w2]
        by_cases c1 : f = s.2.1
        · rw [if_pos c1, if_pos c1]
          by_cases c2 : k = 0
          · rw [if_pos c2, if_pos c2]
          · rw [if_neg c2, if_neg c2, e2 k (by omega)]
        · rw [if_neg c1, if_neg c1]
      rw [hg]

set_option maxRecDepth 100000 in
theorem l_fr30 {E : xE} {M : xMem} {t N W : Nat} {b : Nat → Int32} {R : Nat × Option pSt} {QQ : Option Value → xMem → Prop} (hr : mrd M t N b) (hW0 : 0 < W) (hW1 : W < 2 ^ 30) (h18 : M.1 74 18 = nI W) (kf : ∀ m j, mpS M m → R = (j, none) → QQ (some (.int (nI (tF b N j)))) m) (k0 : ∀ m j s, mpS M m → R = (j, some s) → s.2.1 = 0 → QQ (some (.int (nI (tF b N j)))) m) (k1 : ∀ m j s, mpS M m → R = (j, some s) → ¬ s.2.1 = 0 → mP m s → m.1 74 18 = M.1 74 18 → m.1 74 19 = M.1 74 19 → QQ (some (.int (-9))) m) : ∀ m s j, mpS M m → mP m s → m.1 74 18 = M.1 74 18 → m.1 74 19 = M.1 74 19 → m.1 74 13 = nI (tF b N j) → j ≤ N → 0 < j → lp b N (N - 0) s j = R → PR E mX11_faultOf (xN M) 30 [some (.ref 74), some (.int (nI t))] [] (m) (QQ) := by
  have ht4 : t < 4 := hr.2.2.1
  have hN : N ≤ 120 := hr.2.2.2.2.1
  refine px_for (P := fun i => ∀ m s j, mpS M m → mP m s → m.1 74 18 = M.1 74 18 → m.1 74 19 = M.1 74 19 → m.1 74 13 = nI (tF b N j) → j ≤ N → i < j → lp b N (N - i) s j = R → PR E mX11_faultOf (xN M) 30 [some (.ref 74), some (.int (nI t))] [] (m) (QQ)) (N) (fun i hi nx => ?_) (0) (Nat.zero_le _)
  intro m s j hk hP g18 g19 hra hj hij hR
  have hrm := hk.r hr
  have hm := hrm.1
  have hw := hrm.2.1
  have hFb := tF_b (b := b) hj
  have hnm : xN m = xN M := by show m.2.2.2 = M.2.2.2; rw [hk.1]
  have hteq := teqS (s := s) (tF_id (b := b) hj)
  have hn8 := hP.2.2.1
  refine px_aload_n dX11_faultOf_30 rfl rfl ?_
  refine px_getI dX11_faultOf_31 fX11_97 (xol rfl) hm rfl ?_
  refine px_top (y := nI (tF b N j)) hra ?_
  refine px_aload_n dX11_faultOf_34 rfl rfl ?_
  refine px_getR dX11_faultOf_35 fX11_22 (xol rfl) hm rfl (wr_11_6 hw (xol rfl)) (Nat.succ_pos _) ?_
  refine px_iload_n dX11_faultOf_38 rfl rfl ?_
  refine px_iald dX11_faultOf_39 (xal (n := 4) rfl) hm (vp_in_nI (by omega) (by decide)) ?_
  refine px_top (y := nI N) (by rw [nI_clamp (by omega)]; exact hrm.2.2.2.1) ?_
  refine px_icmp_ge 64 dX11_faultOf_40 rfl (fun h40 => ?_) (fun h40 => ?_)
  · have hF : tF b N j = N := by rw [nI_leI (by omega) (by omega)] at h40; omega
    have hRR : R = (j, some s) := by rw [lp_e ((tk_end hj).mpr hF)] at hR; exact hR.symm
    refine px_aload_n dX11_faultOf_64 rfl rfl ?_
    refine px_getI dX11_faultOf_65 fX11_147 (xol rfl) hm rfl ?_
    refine px_top (y := nI s.2.1) hP.2.1 ?_
    refine px_if_ne 80 dX11_faultOf_68 rfl (fun h68 => ?_) (fun h68 => ?_)
    · have e0 : ¬ s.2.1 = 0 := fun z => h68 (by rw [z]; rfl)
      refine px_bipush dX11_faultOf_80 bp_m9 ?_
      exact px_iret dX11_faultOf_82 rfl (by first | (rw [show nI N = nI (tF b N j) from by rw [hF]]; exact k0 _ _ _ hk hRR e0) | exact k1 _ _ _ hk hRR e0 hP g18 g19) (by first | exact hnm | exact hn45.trans hnm)
    · have e0 : s.2.1 = 0 := nI_is (show (0 : Int32) = nI 0 from rfl) (by omega) (by decide) h68
      refine px_aload_n dX11_faultOf_71 rfl rfl ?_
      refine px_getR dX11_faultOf_72 fX11_22 (xol rfl) hm rfl (wr_11_6 hw (xol rfl)) (Nat.succ_pos _) ?_
      refine px_iload_n dX11_faultOf_75 rfl rfl ?_
      refine px_iald dX11_faultOf_76 (xal (n := 4) rfl) hm (vp_in_nI (by omega) (by decide)) ?_
      refine px_top (y := nI N) (by rw [nI_clamp (by omega)]; exact hrm.2.2.2.1) ?_
      refine px_goto 82 dX11_faultOf_77 rfl ?_
      exact px_iret dX11_faultOf_82 rfl (by first | (rw [show nI N = nI (tF b N j) from by rw [hF]]; exact k0 _ _ _ hk hRR e0) | exact k1 _ _ _ hk hRR e0 hP g18 g19) (by first | exact hnm | exact hn45.trans hnm)
  · have hlt : i < N := by omega
    have hF : tF b N j < N := by rw [nI_leI (by omega) (by omega)] at h40; omega
    have hK : ¬ tK b N j = 0 := fun z => by rw [tk_end hj] at z; omega
    rw [show N - i = (N - (i + 1)) + 1 by omega] at hR
    refine px_aload_n dX11_faultOf_43 rfl rfl ?_
    refine px_iload_n dX11_faultOf_44 rfl rfl ?_
    refine px_gV1 dX11_faultOf_45 kX11_faultOf_164 (xol rfl) hm (Nat.le_of_ble_eq_true rfl) (c_readsOneS (p := tF b N j) hrm hFb.2 hra hW0 hW1 (g18.trans h18) hP) (fun r45 M45 hq45 hn45 => ?_)
    obtain ⟨rfl, q2⟩ := hq45
    refine px_cif_ne 56 dX11_faultOf_48 rfl (fun h48 => ?_) (fun h48 => ?_)
    · have hys := hteq.1.mp h48
      obtain ⟨y1, y2⟩ := q2.2.1 h48
      rw [(hteq.2.2 hys).1] at y1
      rw [(hteq.2.2 hys).2] at y2
      have hr5 := q2.1.r hrm
      have hm5 : xNT ≤ xN M45 := hr5.1
      refine px_aload_n dX11_faultOf_56 rfl rfl ?_
      refine px_iload_n dX11_faultOf_57 rfl rfl ?_
      refine px_fV1v dX11_faultOf_58 kX11_faultOf_103 (xol rfl) hm5 (Nat.le_of_ble_eq_true rfl) (c_X11_blanks (j := stJ b N s j) hr5 (stJ_b hj) y1) ?_
      refine px_goto 30 dX11_faultOf_61 rfl ?_
      exact nx hlt _ (stS b N s j) (stJ b N s j) ((hk.tr q2.1).p (by omega)) ⟨by rw [xI_wI, if_neg (fun z => by omega)]; exact y2.1, by rw [xI_wI, if_neg (fun z => by omega)]; exact y2.2.1, y2.2.2.1, y2.2.2.2⟩ (by rw [xI_wI, if_neg (fun z => by omega)]; exact q2.2.2.2.1.trans g18) (by rw [xI_wI, if_neg (fun z => by omega)]; exact q2.2.2.2.2.trans g19) (wI_self _ _ _ _) (stJ_b hj) (by have := stJ_gt hj hys; omega) ((lp_s hK hys).symm.trans hR)
    · have hno : ¬ stO b N s j := fun z => h48 (hteq.1.mpr z)
      have hm5 : xNT ≤ xN M45 := (q2.1.r hrm).1
      refine px_aload_n dX11_faultOf_51 rfl rfl ?_
      refine px_getI dX11_faultOf_52 fX11_122 (xol rfl) hm5 rfl ?_
      refine px_top (y := nI (tF b N (stJ b N s j))) (by rw [q2.2.2.1 h48]; exact congrArg nI hteq.2.1) ?_
      exact px_iret dX11_faultOf_55 rfl (kf _ _ (hk.tr q2.1) (hR.symm.trans (lp_f hK hno))) (by first | exact hnm | exact hn45.trans hnm)

set_option maxRecDepth 100000 in
theorem c_X11_faultOf {E : xE} {M : xMem} {t N : Nat} {b : Nat → Int32} (hr : mrd M t N b) : Ct E mX11_faultOf [.ref 74, .int (nI t)] M (xN M) (fun r m => r = some (.int (flQ b N (flR b N))) ∧ mpS M m ∧ ∀ j s, flR b N = (j, some s) → ¬ s.2.1 = 0 → m.1 74 18 = nI (vv b N 0 1) ∧ m.1 74 19 = nI (vv b N 0 2) ∧ mP m s) := by
  have hM := hr.1
  have hW := hr.2.1
  have ht4 : t < 4 := hr.2.2.1
  have hN : N ≤ 120 := hr.2.2.2.2.1
  have hFb := tF_b (b := b) (Nat.zero_le N)
  have hte := tF_id (b := b) (Nat.zero_le N)
  refine Ct.of (lo := [some (.ref 74), some (.int (nI t))]) pln_X11 (Nat.le_of_ble_eq_true rfl) rfl (Nat.le_refl _) ?_
  refine px_aload_n dX11_faultOf_0 rfl rfl ?_
  refine px_iconst dX11_faultOf_1 ic_0 ?_
  refine px_putI dX11_faultOf_2 fX11_97 p11_13 (xol rfl) hM rfl ?_
  refine px_aload_n dX11_faultOf_5 rfl rfl ?_
  refine px_iconst dX11_faultOf_6 ic_0 ?_
  refine px_putI dX11_faultOf_7 fX11_135 p11_18 (xol rfl) hM rfl ?_
  refine px_aload_n dX11_faultOf_10 rfl rfl ?_
  refine px_iconst dX11_faultOf_11 ic_0 ?_
  refine px_putI dX11_faultOf_12 fX11_138 p11_19 (xol rfl) hM rfl ?_
  refine px_aload_n dX11_faultOf_15 rfl rfl ?_
  refine px_iconst dX11_faultOf_16 ic_m1 ?_
  refine px_putI dX11_faultOf_17 fX11_144 p11_20 (xol rfl) hM rfl ?_
  refine px_aload_n dX11_faultOf_20 rfl rfl ?_
  refine px_iconst dX11_faultOf_21 ic_0 ?_
  refine px_putI dX11_faultOf_22 fX11_147 p11_21 (xol rfl) hM rfl ?_
  have hk5 : mpS M (wI (wI (wI (wI (wI M 74 13 0) 74 18 0) 74 19 0) 74 20 (-1)) 74 21 0) := (((((mpS.rf M).p (by omega)).p (by omega)).p (by omega)).p (by omega)).p (by omega)
  have hr5 := hk5.r hr
  refine px_aload_n dX11_faultOf_25 rfl rfl ?_
  refine px_iload_n dX11_faultOf_26 rfl rfl ?_
  refine px_fV1v dX11_faultOf_27 kX11_faultOf_103 (xol rfl) hM (Nat.le_of_ble_eq_true rfl) (c_X11_blanks (j := 0) hr5 (Nat.zero_le _) rfl) ?_
  have hk6 : mpS M (wI (wI (wI (wI (wI (wI M 74 13 0) 74 18 0) 74 19 0) 74 20 (-1)) 74 21 0) 74 13 (nI (tF b N 0))) := hk5.p (by omega)
  have hrm := hk6.r hr
  obtain ⟨w1, w2⟩ := teqW hte
  obtain ⟨e1, e2, e3, e4, e5⟩ := teqC hte
  refine px_aload_n dX11_faultOf_30 rfl rfl ?_
  refine px_getI dX11_faultOf_31 fX11_97 (xol rfl) hM rfl ?_
  refine px_top (y := nI (tF b N 0)) rfl ?_
  refine px_aload_n dX11_faultOf_34 rfl rfl ?_
  refine px_getR dX11_faultOf_35 fX11_22 (xol rfl) hM rfl (wr_11_6 hW (xol rfl)) (Nat.succ_pos _) ?_
  refine px_iload_n dX11_faultOf_38 rfl rfl ?_
  refine px_iald dX11_faultOf_39 (xal (n := 4) rfl) hM (vp_in_nI (by omega) (by decide)) ?_
  refine px_top (y := nI N) (by rw [nI_clamp (by omega)]; exact hrm.2.2.2.1) ?_
  refine px_icmp_ge 64 dX11_faultOf_40 rfl (fun h40 => ?_) (fun h40 => ?_)
  · have hF : tF b N 0 = N := by rw [nI_leI (by omega) (by omega)] at h40; omega
    have hK0 := (tk_end (Nat.zero_le N)).mpr hF
    have hnw : ¬ isW b N 0 0 := fun z => by have := z.1; omega
    have hfl : flR b N = (0, none) := by
      unfold flR
      rw [if_neg (fun z => hnw z.1), show pgJ b N 0 = 0 from if_neg hnw]
    refine px_aload_n dX11_faultOf_64 rfl rfl ?_
    refine px_getI dX11_faultOf_65 fX11_147 (xol rfl) hM rfl ?_
    refine px_top (y := 0) rfl ?_
    refine px_if_ne 80 dX11_faultOf_68 rfl (fun h68 => ?_) (fun h68 => ?_)
    · refine px_bipush dX11_faultOf_80 bp_m9 ?_
      exact px_iret dX11_faultOf_82 rfl (by first | exact absurd rfl h68 | (rw [hfl]; exact ⟨congrArg (fun z => some (Value.int (nI z))) hF.symm, hk6, fun j s z => absurd (congrArg Prod.snd z) (fun w => (by cases w))⟩)) (by first | rfl | exact hn45)
    · refine px_aload_n dX11_faultOf_71 rfl rfl ?_
      refine px_getR dX11_faultOf_72 fX11_22 (xol rfl) hM rfl (wr_11_6 hW (xol rfl)) (Nat.succ_pos _) ?_
      refine px_iload_n dX11_faultOf_75 rfl rfl ?_
      refine px_iald dX11_faultOf_76 (xal (n := 4) rfl) hM (vp_in_nI (by omega) (by decide)) ?_
      refine px_top (y := nI N) (by rw [nI_clamp (by omega)]; exact hrm.2.2.2.1) ?_
      refine px_goto 82 dX11_faultOf_77 rfl ?_
      exact px_iret dX11_faultOf_82 rfl (by first | exact absurd rfl h68 | (rw [hfl]; exact ⟨congrArg (fun z => some (Value.int (nI z))) hF.symm, hk6, fun j s z => absurd (congrArg Prod.snd z) (fun w => (by cases w))⟩)) (by first | rfl | exact hn45)
  · have hF : tF b N 0 < N := by rw [nI_leI (by omega) (by omega)] at h40; omega
    have hK : ¬ tK b N 0 = 0 := fun z => by rw [tk_end (Nat.zero_le N)] at z; omega
    refine px_aload_n dX11_faultOf_43 rfl rfl ?_
    refine px_iload_n dX11_faultOf_44 rfl rfl ?_
    refine px_gV1 dX11_faultOf_45 kX11_faultOf_164 (xol rfl) hM (Nat.le_of_ble_eq_true rfl) (c_readsOneP (p := tF b N 0) hrm hFb.2 rfl rfl) (fun r45 M45 hq45 hn45 => ?_)
    obtain ⟨rfl, q2, q3, q4, q5, q6⟩ := hq45
    refine px_cif_ne 56 dX11_faultOf_48 rfl (fun h48 => ?_) (fun h48 => ?_)
    · have hys : isW b N 0 0 ∧ ff (pgC b N 0) 3 1 = 4 := by rw [w1, e5] at h48; exact h48
      obtain ⟨y1, y2, y3⟩ := q3 h48
      rw [e1 4 (by omega)] at y1
      rw [e2 1 (by omega)] at y2
      rw [e2 2 (by omega)] at y3
      have hJ : pgJ b N 0 = ps b N 0 4 := by unfold pgJ; rw [if_pos hys.1, hys.2]
      rw [← hJ] at y1
      have hr4 := q2.r hrm
      have hM5 : xNT ≤ xN M45 := hr4.1
      have hpl : pgJ b N 0 ≤ N := by rw [hJ]; exact ps_le (Nat.zero_le N) 4
      have hpg : 0 < pgJ b N 0 := by
        rw [hJ]
        have := ps_mono (b := b) (Nat.zero_le N) 4 (by omega)
        have := (tT_b (b := b) (Nat.zero_le N)).2.2 hK
        omega
      refine px_aload_n dX11_faultOf_56 rfl rfl ?_
      refine px_iload_n dX11_faultOf_57 rfl rfl ?_
      refine px_fV1v dX11_faultOf_58 kX11_faultOf_103 (xol rfl) hM5 (Nat.le_of_ble_eq_true rfl) (c_X11_blanks (j := pgJ b N 0) hr4 hpl y1) ?_
      refine px_goto 30 dX11_faultOf_61 rfl ?_
      have pg1 := (nN_i (b := b) (N := N) (j := ps b N 0 1) (l := 4) (h := 16) (by decide) (by decide)).mp (pgC_1.mpr (ff_all 3 1 hys.2 1 (by omega) (by omega)))
      have hR : flR b N = lp b N (N - 0) (none, 0, fun _ _ => 0) (pgJ b N 0) := if_pos hys
      have hk7 : mpS M (wI M45 74 13 (nI (tF b N (pgJ b N 0)))) := (hk6.tr q2).p (by omega)
      have z18 : (wI M45 74 13 (nI (tF b N (pgJ b N 0)))).1 74 18 = nI (vv b N 0 1) := by rw [xI_wI, if_neg (fun z => by omega)]; exact y2
      have z19 : (wI M45 74 13 (nI (tF b N (pgJ b N 0)))).1 74 19 = nI (vv b N 0 2) := by rw [xI_wI, if_neg (fun z => by omega)]; exact y3
      have hx := l_fr30 (E := E) (M := wI M45 74 13 (nI (tF b N (pgJ b N 0)))) (t := t) (N := N) (W := vv b N 0 1) (b := b) (R := flR b N) (QQ := fun r m => r = some (.int (flQ b N (flR b N))) ∧ mpS M m ∧ ∀ j s, flR b N = (j, some s) → ¬ s.2.1 = 0 → m.1 74 18 = nI (vv b N 0 1) ∧ m.1 74 19 = nI (vv b N 0 2) ∧ mP m s) (hk7.r hr) (by have := pg1.2.1; unfold vv; omega) (by have := pg1.2.2; unfold vv; omega) z18
        (fun m j hm hR => ⟨by rw [hR]; rfl, hk7.tr hm, fun j' s z => by rw [hR] at z; exact absurd (congrArg Prod.snd z) (fun w => (by cases w))⟩)
        (fun m j s hm hR e0 => ⟨by rw [hR]; show _ = some (Value.int (if s.2.1 = 0 then _ else _)); rw [if_pos e0], hk7.tr hm, fun j' s' z e1 => by rw [hR] at z; have w := Option.some.inj (congrArg Prod.snd z); rw [← w] at e1; exact absurd e0 e1⟩)
        (fun m j s hm hR e0 hP g18 g19 => ⟨by rw [hR]; show _ = some (Value.int (if s.2.1 = 0 then _ else _)); rw [if_neg e0], hk7.tr hm, fun j' s' z e1 => by rw [hR] at z; have w := Option.some.inj (congrArg Prod.snd z); rw [← w]; exact ⟨g18.trans z18, g19.trans z19, hP⟩⟩)
        _ (none, 0, fun _ _ => 0) (pgJ b N 0) (mpS.rf _) ⟨⟨fun _ => by rw [xI_wI, if_neg (fun z => by omega), q5 20 (by omega)]; rfl, fun B y => absurd (show none = some B from y) (fun w => (by cases w))⟩, by rw [xI_wI, if_neg (fun z => by omega), q5 21 (by omega)]; rfl, by show 0 ≤ 8; omega, fun f hf => absurd hf (Nat.not_lt_zero f)⟩ rfl rfl (wI_self _ _ _ _) hpl hpg hR.symm
      rw [show xN (wI M45 74 13 (nI (tF b N (pgJ b N 0)))) = xN M from hn45] at hx
      exact hx
    · have hno : ¬ (isW b N 0 0 ∧ ff (pgC b N 0) 3 1 = 4) := fun z => h48 (by rw [w1, e5]; exact z)
      have hM5 : xNT ≤ xN M45 := (q2.r hrm).1
      refine px_aload_n dX11_faultOf_51 rfl rfl ?_
      refine px_getI dX11_faultOf_52 fX11_122 (xol rfl) hM5 rfl ?_
      refine px_top (y := nI (tF b N (pgJ b N 0))) (by rw [q4 h48]; refine congrArg nI ?_; unfold pgJ; rw [w1, e5]; by_cases z : isW b N 0 0; (rw [if_pos z, if_pos z, e1 _ (ff_b _ 3 1).1]); (rw [if_neg z, if_neg z]; exact hte)) ?_
      exact px_iret dX11_faultOf_55 rfl (by rw [show flR b N = (pgJ b N 0, none) from if_neg hno]; exact ⟨rfl, hk6.tr q2, fun j s z => absurd (congrArg Prod.snd z) (fun w => (by cases w))⟩) (by first | rfl | exact hn45)
