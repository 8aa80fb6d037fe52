/-! ===== all, rule, undo, keep, on ===== -/
set_option maxRecDepth 100000 in
theorem c_X10_all {E : xE} {M : xMem} {s n W H B dd : Nat} {g : Nat → Nat → Nat} {S : gLay × Nat} {P : Nat → gLay × Nat} (hc : cHy M s n W H B g dd S P) {v : Int32} : Ct E mX10_all [.ref 1, .int v] M (xN M) (fun r m => r = some (.int (aAll n W H (aA B g) (aD B g) (aT g) dd S P v).1) ∧ cD M m ∧ stC m 6 (aAll n W H (aA B g) (aD B g) (aT g) dd S P v).2.1 (aAll n W H (aA B g) (aD B g) (aT g) dd S P v).2.2.1 (aAll n W H (aA B g) (aD B g) (aT g) dd S P v).2.2.2) := by
  have hc0 := hc
  obtain ⟨hM, hW, hs, hcu, hsh, hok, hst, hly, hru⟩ := hc
  have hp0 : 0 < s := hs.1
  have h8 : n ≤ 8 := hok.1
  have hb : lyB S.1 := (hsh.s hok).b hly
  have hl : lyC (M.1 8) S.1 := hst.2.2.1
  have hpg := pgL_le hb 8
  have hd4 : dd ≤ 40 := hst.2.1
  have hsC := hsh.s hok
  have hsT := hsh.t hok
  have h7 := xob_7 hs
  refine Ct.of (lo := [some (.ref 1), some (.int v)]) pln_X10 (Nat.le_of_ble_eq_true rfl) rfl (Nat.le_refl _) ?_
  refine px_iload_n dX10_all_0 rfl rfl ?_
  refine px_iconst dX10_all_1 ic_3 ?_
  refine px_fS2i dX10_all_2 kX10_all_84 (Nat.le_of_ble_eq_true rfl) (c_X10_isBelow) ?_
  refine px_zif_eq 15 dX10_all_5 rfl (fun h5 => ?_) (fun h5 => ?_)
  · refine px_iconst dX10_all_15 ic_m1 ?_
    exact px_iret dX10_all_16 rfl (by rw [show aAll n W H (aA B g) (aD B g) (aT g) dd S P v = (-1, dd, S, P) from by simp only [aAll, h5, not_true_eq_false, not_false_eq_true, if_true, if_false, and_self, true_and, and_true, ite_true, ite_false, reduceIte, eq_self]]; exact ⟨rfl, cD.rf M, hst⟩) (by first | rfl | exact hn53)
  · refine px_aload_n dX10_all_8 rfl rfl ?_
    refine px_fV0i dX10_all_9 kX10_all_141 (xol rfl) hM (Nat.le_of_ble_eq_true rfl) (c_X10_hasNoSheet hM hs hcu hp0) ?_
    refine px_top (y := zb (n = 0)) (by rw [hsh.1]; exact no_c h8) ?_
    refine px_zif_eq 17 dX10_all_12 rfl (fun h12 => ?_) (fun h12 => ?_)
    · obtain ⟨od, hod, rfl⟩ := in_nat (n := 3) (by decide) (show 0 ≤ v ∧ v < nI 3 from h5)
      have hno : (nI od).toNatClampNeg = od := nI_clamp (by omega)
      refine px_aload_n dX10_all_17 rfl rfl ?_
      refine px_getR dX10_all_18 fX10_32 (xol rfl) hM rfl (wr_10_4 hW (xol rfl)) (Nat.succ_pos _) ?_
      refine px_fV0i dX10_all_21 kX10_all_198 (xol rfl) hM (Nat.le_of_ble_eq_true rfl) (c_X8_isFull (a := 6) (xol rfl) hM) ?_
      refine px_top (y := zb (dd = 40)) (by rw [hst.1]; exact full_c hd4) ?_
      refine px_zif_eq 30 dX10_all_24 rfl (fun h24 => ?_) (fun h24 => ?_)
      · have hlt : dd < 40 := by omega
        have hst2 := stBeg_st hst hlt
        have hsh2 := (cD.beg M dd).sh hs hsh h8
        have hly2 : lyOK n W H (aA B g) (aD B g) (allG S.2 od n W H (aA B g) (aD B g) (aT g)) := allG_ok (fun f hf => (hsT f hf).1) hok.2.1 hok.2.2.1
        have hb2 := hsC.b hly2
        refine px_aload_n dX10_all_30 rfl rfl ?_
        refine px_getR dX10_all_31 fX10_32 (xol rfl) hM rfl (wr_10_4 hW (xol rfl)) (Nat.succ_pos _) ?_
        refine px_fV0v dX10_all_34 kX10_all_201 (xol rfl) hM (Nat.le_of_ble_eq_true rfl) (c_X8_beginDeed (a := 6) (dd := dd) (xol rfl) hM hW hst.1 hlt) ?_
        refine px_aload_n dX10_all_37 rfl rfl ?_
        refine px_getR dX10_all_38 fX10_53 (xol rfl) hM rfl (wr_10_7 hW (xol rfl)) (Nat.succ_pos _) ?_
        refine px_aload_n dX10_all_41 rfl rfl ?_
        refine px_getR dX10_all_42 fX10_71 (xol rfl) hM rfl (by assumption) (by assumption) ?_
        refine px_aload_n dX10_all_45 rfl rfl ?_
        refine px_getR dX10_all_46 fX10_32 (xol rfl) hM rfl (wr_10_4 hW (xol rfl)) (Nat.succ_pos _) ?_
        refine px_getR dX10_all_49 fX10_163 (xol rfl) hM rfl (wr_8_0 hW (xol rfl)) (Nat.succ_pos _) ?_
        refine px_iload_n dX10_all_52 rfl rfl ?_
        refine px_gV3 dX10_all_53 kX10_all_213 (xol rfl) hM (Nat.le_of_ble_eq_true rfl) (c_X2_setAllAnew (la := 7) (T := aT g) hM hW hs (xol rfl) (hsh2.s hok) (hsh2.t hok) hst2.2.2.2.1 hru hod) (fun r53 M53 hq53 hn53 => ?_)
        obtain ⟨rfl, q1, q2⟩ := hq53
        have hm : xNT ≤ xN M53 := by rw [hn53]; exact hM
        have hw : xWire M53.2.1 := by rw [q1.w]; exact hW
        refine px_aload_n dX10_all_56 rfl rfl ?_
        refine px_getR dX10_all_57 fX10_32 (xol rfl) hm rfl (wr_10_4 hw (xol rfl)) (Nat.succ_pos _) ?_
        refine px_getR dX10_all_60 fX10_163 (xol rfl) hm rfl (wr_8_0 hw (xol rfl)) (Nat.succ_pos _) ?_
        refine px_fV0i dX10_all_63 kX10_all_210 (xol rfl) hm (Nat.le_of_ble_eq_true rfl) (c_X1_pages (la := 7) hm hw (xol rfl) q2 hb2) ?_
        exact px_iret dX10_all_66 rfl (by rw [show aAll n W H (aA B g) (aD B g) (aT g) dd S P (nI od) = (nI (pgL (allG S.2 od n W H (aA B g) (aD B g) (aT g)) 8), dd + 1, (allG S.2 od n W H (aA B g) (aD B g) (aT g), S.2), psh P dd S) from by simp only [aAll, h5, h12, h24, hno, not_true_eq_false, not_false_eq_true, if_true, if_false, and_self, true_and, and_true, ite_true, ite_false, reduceIte, eq_self]]; exact ⟨rfl, (cD.beg M dd).tr q1.d, stC_ly hst2 (q1.2 6 (by decide) (by decide) (by decide) (by decide) (by decide)) (q1.2 9 (by decide) (by decide) (by decide) (by decide) (by decide)) q2 (by rw [q1.2 (6 + 1) (by decide) (by decide) (by decide) (by decide) (by decide)]; exact hst2.2.2.2.1)⟩) (by first | rfl | exact hn53)
      · refine px_bipush dX10_all_27 bp_m2 ?_
        exact px_iret dX10_all_29 rfl (by rw [show aAll n W H (aA B g) (aD B g) (aT g) dd S P (nI od) = (-2, dd, S, P) from by simp only [aAll, h5, h12, h24, not_true_eq_false, not_false_eq_true, if_true, if_false, and_self, true_and, and_true, ite_true, ite_false, reduceIte, eq_self]]; exact ⟨rfl, cD.rf M, hst⟩) (by first | rfl | exact hn53)
    · refine px_iconst dX10_all_15 ic_m1 ?_
      exact px_iret dX10_all_16 rfl (by rw [show aAll n W H (aA B g) (aD B g) (aT g) dd S P v = (-1, dd, S, P) from by simp only [aAll, h5, h12, not_true_eq_false, not_false_eq_true, if_true, if_false, and_self, true_and, and_true, ite_true, ite_false, reduceIte, eq_self]]; exact ⟨rfl, cD.rf M, hst⟩) (by first | rfl | exact hn53)

set_option maxRecDepth 100000 in
theorem c_X11_all {E : xE} {M : xMem} {n W H B dd : Nat} {g : Nat → Nat → Nat} {S : gLay × Nat} {P : Nat → gLay × Nat} (hc : rHy M n W H B g dd S P) {v : Int32} : Ct E mX11_all [.ref 74, .int v] M (xN M) (fun r m => r = some (.int (aAll n W H (aA B g) (aD B g) (aT g) dd S P v).1) ∧ rD M m ∧ stM m (aAll n W H (aA B g) (aD B g) (aT g) dd S P v).2.1 (aAll n W H (aA B g) (aD B g) (aT g) dd S P v).2.2.1 (aAll n W H (aA B g) (aD B g) (aT g) dd S P v).2.2.2) := by
  have hc0 := hc
  obtain ⟨hM, hW, hsh, hok, hst, hly, hru⟩ := hc
  have h8 : n ≤ 8 := hok.1
  have hb : lyB S.1 := (hsh.s hok).b hly
  have hl : lyM (M.1 83) S.1 := lyM_c hst.2.2.1.1 (fun k _ => by rw [Nat.zero_add])
  have hpg := pgL_le hb 8
  have hd4 : dd ≤ 40 := hst.2.1
  have hsM := hsh.s hok
  have hsU := hsh.u hok
  refine Ct.of (lo := [some (.ref 74), some (.int v)]) pln_X11 (Nat.le_of_ble_eq_true rfl) rfl (Nat.le_refl _) ?_
  refine px_iload_n dX11_all_0 rfl rfl ?_
  refine px_iconst dX11_all_1 ic_0 ?_
  refine px_iconst dX11_all_2 ic_2 ?_
  refine px_fS3i dX11_all_3 kX11_all_75 (Nat.le_of_ble_eq_true rfl) (c_X11_in) ?_
  refine px_top (y := zb (0 ≤ v ∧ v < 3)) (zb_c (in_l2 (n := 3) (by decide) (by decide))) ?_
  refine px_zif_eq 16 dX11_all_6 rfl (fun h6 => ?_) (fun h6 => ?_)
  · refine px_iconst dX11_all_16 ic_m1 ?_
    exact px_iret dX11_all_17 rfl (by rw [show aAll n W H (aA B g) (aD B g) (aT g) dd S P v = (-1, dd, S, P) from by simp only [aAll, ← n0_i h8, ← d40_i hd4, h6, not_true_eq_false, not_false_eq_true, if_true, if_false, and_self, true_and, and_true, ite_true, ite_false, reduceIte, eq_self]]; exact ⟨rfl, rD.rf M, hst⟩) (by first | rfl | exact hn36)
  · refine px_aload_n dX11_all_9 rfl rfl ?_
    refine px_getI dX11_all_10 fX11_179 (xol rfl) hM rfl ?_
    refine px_top (y := nI n) hsh.1 ?_
    refine px_if_ne 18 dX11_all_13 rfl (fun h13 => ?_) (fun h13 => ?_)
    · obtain ⟨od, hod, rfl⟩ := in_nat (n := 3) (by decide) (show 0 ≤ v ∧ v < nI 3 from h6)
      have hno : (nI od).toNatClampNeg = od := nI_clamp (by omega)
      refine px_aload_n dX11_all_18 rfl rfl ?_
      refine px_getI dX11_all_19 fX11_185 (xol rfl) hM rfl ?_
      refine px_top (y := nI dd) hst.1 ?_
      refine px_bipush dX11_all_22 bp_40 ?_
      refine px_icmp_ne 30 dX11_all_24 rfl (fun h24 => ?_) (fun h24 => ?_)
      · have h40 : ¬ dd = 40 := fun z => h24 ((d40_i hd4).mpr z)
        have hlt : dd < 40 := by omega
        have hst2 := stM_rem hst hlt
        have hsh2 := (rDrem M dd).sh hsh
        have hly2 : lyOK n W H (aA B g) (aD B g) (allG S.2 od n W H (aA B g) (aD B g) (aT g)) := allG_ok (fun f hf => (hsU f hf).1) hok.2.1 hok.2.2.1
        have hb2 := hsM.b hly2
        refine px_aload_n dX11_all_30 rfl rfl ?_
        refine px_fV0v dX11_all_31 kX11_all_293 (xol rfl) hM (Nat.le_of_ble_eq_true rfl) (c_X11_remember (dd := dd) hM hW hst.1 hlt) ?_
        refine px_aload_n dX11_all_34 rfl rfl ?_
        refine px_iload_n dX11_all_35 rfl rfl ?_
        refine px_gV1 dX11_all_36 kX11_all_299 (xol rfl) hM (Nat.le_of_ble_eq_true rfl) (c_X11_setsAll (T := aT g) hM hW (hsh2.s hok) (hsh2.u hok) (rRow_0.mp hst2.2.2.1).2 hru hod) (fun r36 M36 hq36 hn36 => ?_)
        obtain ⟨rfl, q1, q2⟩ := hq36
        have hm : xNT ≤ xN M36 := by rw [hn36]; exact hM
        have hw : xWire M36.2.1 := by rw [q1.w]; exact hW
        refine px_aload_n dX11_all_39 rfl rfl ?_
        refine px_fV0i dX11_all_40 kX11_all_270 (xol rfl) hm (Nat.le_of_ble_eq_true rfl) (c_X11_pageMany (N := n) hm hw h8 ((q1.2.2.1 11 (by decide) (by decide)).trans hsh2.1)) ?_
        refine px_top (y := nI (pgL (allG S.2 od n W H (aA B g) (aD B g) (aT g)) 8)) (by rw [pgF_L q2 hb2 n h8, (L_more hly2.1 8 h8).1]) ?_
        exact px_iret dX11_all_43 rfl (by rw [show aAll n W H (aA B g) (aD B g) (aT g) dd S P (nI od) = (nI (pgL (allG S.2 od n W H (aA B g) (aD B g) (aT g)) 8), dd + 1, (allG S.2 od n W H (aA B g) (aD B g) (aT g), S.2), psh P dd S) from by simp only [aAll, ← n0_i h8, ← d40_i hd4, h6, h13, h24, hno, not_true_eq_false, not_false_eq_true, if_true, if_false, and_self, true_and, and_true, ite_true, ite_false, reduceIte, eq_self]]; exact ⟨rfl, (rDrem M dd).tr q1.d, stM_ly hst2 (q1.2.2.1 36 (by decide) (by decide)) (q1.2.1 90 (by decide) (by decide) (by decide) (by decide) (by decide) (by decide) (by decide)) q2 (by rw [q1.2.2.2]; exact (rRow_0.mp hst2.2.2.1).2)⟩) (by first | rfl | exact hn36)
      · refine px_bipush dX11_all_27 bp_m2 ?_
        exact px_iret dX11_all_29 rfl (by rw [show aAll n W H (aA B g) (aD B g) (aT g) dd S P (nI od) = (-2, dd, S, P) from by simp only [aAll, ← n0_i h8, ← d40_i hd4, h6, h13, h24, not_true_eq_false, not_false_eq_true, if_true, if_false, and_self, true_and, and_true, ite_true, ite_false, reduceIte, eq_self]]; exact ⟨rfl, rD.rf M, hst⟩) (by first | rfl | exact hn36)
    · refine px_iconst dX11_all_16 ic_m1 ?_
      exact px_iret dX11_all_17 rfl (by rw [show aAll n W H (aA B g) (aD B g) (aT g) dd S P v = (-1, dd, S, P) from by simp only [aAll, ← n0_i h8, ← d40_i hd4, h6, h13, not_true_eq_false, not_false_eq_true, if_true, if_false, and_self, true_and, and_true, ite_true, ite_false, reduceIte, eq_self]]; exact ⟨rfl, rD.rf M, hst⟩) (by first | rfl | exact hn36)

set_option maxRecDepth 100000 in
theorem c_X10_rule {E : xE} {M : xMem} {s n W H B dd : Nat} {g : Nat → Nat → Nat} {S : gLay × Nat} {P : Nat → gLay × Nat} (hc : cHy M s n W H B g dd S P) {v : Int32} : Ct E mX10_rule [.ref 1, .int v] M (xN M) (fun r m => r = some (.int (aRul n dd S P v).1) ∧ cD M m ∧ stC m 6 (aRul n dd S P v).2.1 (aRul n dd S P v).2.2.1 (aRul n dd S P v).2.2.2) := by
  have hc0 := hc
  obtain ⟨hM, hW, hs, hcu, hsh, hok, hst, hly, hru⟩ := hc
  have hp0 : 0 < s := hs.1
  have h8 : n ≤ 8 := hok.1
  have hb : lyB S.1 := (hsh.s hok).b hly
  have hl : lyC (M.1 8) S.1 := hst.2.2.1
  have hpg := pgL_le hb 8
  have hd4 : dd ≤ 40 := hst.2.1
  have hsC := hsh.s hok
  have hsT := hsh.t hok
  have h7 := xob_7 hs
  refine Ct.of (lo := [some (.ref 1), some (.int v), none]) pln_X10 (Nat.le_of_ble_eq_true rfl) rfl (Nat.le_refl _) ?_
  refine px_iload_n dX10_rule_0 rfl rfl ?_
  refine px_iconst dX10_rule_1 ic_4 ?_
  refine px_fS2i dX10_rule_2 kX10_rule_84 (Nat.le_of_ble_eq_true rfl) (c_X10_isBelow) ?_
  refine px_zif_ne 10 dX10_rule_5 rfl (fun h5 => ?_) (fun h5 => ?_)
  · obtain ⟨k, hk, rfl⟩ := in_nat (n := 4) (by decide) (show 0 ≤ v ∧ v < nI 4 from h5)
    have hno : (nI k).toNatClampNeg = k := nI_clamp (by omega)
    refine px_aload_n dX10_rule_10 rfl rfl ?_
    refine px_fV0i dX10_rule_11 kX10_rule_141 (xol rfl) hM (Nat.le_of_ble_eq_true rfl) (c_X10_hasNoSheet hM hs hcu hp0) ?_
    refine px_top (y := zb (n = 0)) (by rw [hsh.1]; exact no_c h8) ?_
    refine px_zif_ne 31 dX10_rule_14 rfl (fun h14 => ?_) (fun h14 => ?_)
    · refine px_bipush dX10_rule_31 bp_m4 ?_
      exact px_iret dX10_rule_33 rfl (by rw [show aRul n dd S P (nI k) = (-4, dd, S, P) from by simp only [aRul, h5, h14, not_true_eq_false, not_false_eq_true, if_true, if_false, and_self, true_and, and_true, ite_true, ite_false, reduceIte, eq_self]]; exact ⟨rfl, cD.rf M, hst⟩) (rfl)
    · refine px_aload_n dX10_rule_17 rfl rfl ?_
      refine px_getR dX10_rule_18 fX10_32 (xol rfl) hM rfl (wr_10_4 hW (xol rfl)) (Nat.succ_pos _) ?_
      refine px_getR dX10_rule_21 fX10_163 (xol rfl) hM rfl (wr_8_0 hW (xol rfl)) (Nat.succ_pos _) ?_
      refine px_getI dX10_rule_24 fX10_217 (xol rfl) hM rfl ?_
      refine px_top (y := nI S.2) hst.2.2.2.1 ?_
      refine px_iload_n dX10_rule_27 rfl rfl ?_
      refine px_icmp_ne 34 dX10_rule_28 rfl (fun h28 => ?_) (fun h28 => ?_)
      · refine px_aload_n dX10_rule_34 rfl rfl ?_
        refine px_getR dX10_rule_35 fX10_32 (xol rfl) hM rfl (wr_10_4 hW (xol rfl)) (Nat.succ_pos _) ?_
        refine px_fV0i dX10_rule_38 kX10_rule_198 (xol rfl) hM (Nat.le_of_ble_eq_true rfl) (c_X8_isFull (a := 6) (xol rfl) hM) ?_
        refine px_top (y := zb (dd = 40)) (by rw [hst.1]; exact full_c hd4) ?_
        refine px_zif_eq 47 dX10_rule_41 rfl (fun h41 => ?_) (fun h41 => ?_)
        · have hlt : dd < 40 := by omega
          have hst2 := stBeg_st hst hlt
          refine px_aload_n dX10_rule_47 rfl rfl ?_
          refine px_getR dX10_rule_48 fX10_32 (xol rfl) hM rfl (wr_10_4 hW (xol rfl)) (Nat.succ_pos _) ?_
          refine px_getR dX10_rule_51 fX10_163 (xol rfl) hM rfl (wr_8_0 hW (xol rfl)) (Nat.succ_pos _) ?_
          refine px_getI dX10_rule_54 fX10_217 (xol rfl) hM rfl ?_
          refine px_top (y := nI S.2) hst.2.2.2.1 ?_
          refine px_si_2 dX10_rule_57 rfl ?_
          refine px_aload_n dX10_rule_58 rfl rfl ?_
          refine px_getR dX10_rule_59 fX10_32 (xol rfl) hM rfl (wr_10_4 hW (xol rfl)) (Nat.succ_pos _) ?_
          refine px_fV0v dX10_rule_62 kX10_rule_201 (xol rfl) hM (Nat.le_of_ble_eq_true rfl) (c_X8_beginDeed (a := 6) (dd := dd) (xol rfl) hM hW hst.1 hlt) ?_
          refine px_aload_n dX10_rule_65 rfl rfl ?_
          refine px_getR dX10_rule_66 fX10_32 (xol rfl) hM rfl (wr_10_4 hW (xol rfl)) (Nat.succ_pos _) ?_
          refine px_getR dX10_rule_69 fX10_163 (xol rfl) hM rfl (wr_8_0 hW (xol rfl)) (Nat.succ_pos _) ?_
          refine px_iload_n dX10_rule_72 rfl rfl ?_
          refine px_putI dX10_rule_73 fX10_217 p1_1 (xol rfl) hM rfl ?_
          refine px_iload_n dX10_rule_76 rfl rfl ?_
          exact px_iret dX10_rule_77 rfl (by rw [show aRul n dd S P (nI k) = (nI S.2, dd + 1, (S.1, k), psh P dd S) from by simp only [aRul, h5, h14, h28, h41, hno, not_true_eq_false, not_false_eq_true, if_true, if_false, and_self, true_and, and_true, ite_true, ite_false, reduceIte, eq_self]]; exact ⟨rfl, (cD.beg M dd).tr (cD.wI (by omega)), stC_ly hst2 (by funext k; rw [xI_wI, if_neg (fun z => by omega)]) (by funext k; rw [xI_wI, if_neg (fun z => by omega)]) (lyC_c hst2.2.2.1 (fun k _ => by rw [xI_wI, if_neg (fun z => by omega)])) (wI_self _ _ _ _)⟩) (rfl)
        · refine px_bipush dX10_rule_44 bp_m2 ?_
          exact px_iret dX10_rule_46 rfl (by rw [show aRul n dd S P (nI k) = (-2, dd, S, P) from by simp only [aRul, h5, h14, h28, h41, not_true_eq_false, not_false_eq_true, if_true, if_false, and_self, true_and, and_true, ite_true, ite_false, reduceIte, eq_self]]; exact ⟨rfl, cD.rf M, hst⟩) (rfl)
      · refine px_bipush dX10_rule_31 bp_m4 ?_
        exact px_iret dX10_rule_33 rfl (by rw [show aRul n dd S P (nI k) = (-4, dd, S, P) from by simp only [aRul, h5, h14, h28, not_true_eq_false, not_false_eq_true, if_true, if_false, and_self, true_and, and_true, ite_true, ite_false, reduceIte, eq_self]]; exact ⟨rfl, cD.rf M, hst⟩) (rfl)
  · refine px_iconst dX10_rule_8 ic_m1 ?_
    exact px_iret dX10_rule_9 rfl (by rw [show aRul n dd S P v = (-1, dd, S, P) from by simp only [aRul, h5, not_true_eq_false, not_false_eq_true, if_true, if_false, and_self, true_and, and_true, ite_true, ite_false, reduceIte, eq_self]]; exact ⟨rfl, cD.rf M, hst⟩) (rfl)

set_option maxRecDepth 100000 in
theorem c_X11_rule {E : xE} {M : xMem} {n W H B dd : Nat} {g : Nat → Nat → Nat} {S : gLay × Nat} {P : Nat → gLay × Nat} (hc : rHy M n W H B g dd S P) {v : Int32} : Ct E mX11_rule [.ref 74, .int v] M (xN M) (fun r m => r = some (.int (aRul n dd S P v).1) ∧ rD M m ∧ stM m (aRul n dd S P v).2.1 (aRul n dd S P v).2.2.1 (aRul n dd S P v).2.2.2) := by
  have hc0 := hc
  obtain ⟨hM, hW, hsh, hok, hst, hly, hru⟩ := hc
  have h8 : n ≤ 8 := hok.1
  have hb : lyB S.1 := (hsh.s hok).b hly
  have hl : lyM (M.1 83) S.1 := lyM_c hst.2.2.1.1 (fun k _ => by rw [Nat.zero_add])
  have hpg := pgL_le hb 8
  have hd4 : dd ≤ 40 := hst.2.1
  have hsM := hsh.s hok
  have hsU := hsh.u hok
  refine Ct.of (lo := [some (.ref 74), some (.int v), none]) pln_X11 (Nat.le_of_ble_eq_true rfl) rfl (Nat.le_refl _) ?_
  refine px_iload_n dX11_rule_0 rfl rfl ?_
  refine px_iconst dX11_rule_1 ic_0 ?_
  refine px_iconst dX11_rule_2 ic_3 ?_
  refine px_fS3i dX11_rule_3 kX11_rule_75 (Nat.le_of_ble_eq_true rfl) (c_X11_in) ?_
  refine px_top (y := zb (0 ≤ v ∧ v < 4)) (zb_c (in_l2 (n := 4) (by decide) (by decide))) ?_
  refine px_zif_ne 11 dX11_rule_6 rfl (fun h6 => ?_) (fun h6 => ?_)
  · obtain ⟨k, hk, rfl⟩ := in_nat (n := 4) (by decide) (show 0 ≤ v ∧ v < nI 4 from h6)
    have hno : (nI k).toNatClampNeg = k := nI_clamp (by omega)
    refine px_aload_n dX11_rule_11 rfl rfl ?_
    refine px_getR dX11_rule_12 fX11_35 (xol rfl) hM rfl (wr_11_23 hW (xol rfl)) (Nat.succ_pos _) ?_
    refine px_bipush dX11_rule_15 bp_32 ?_
    refine px_iald dX11_rule_17 (xal (n := 33) rfl) hM (vp_in_nI (n := 32) (by decide) (by decide)) ?_
    refine px_top (y := nI S.2) (rRow_0.mp hst.2.2.1).2 ?_
    refine px_si_2 dX11_rule_18 rfl ?_
    refine px_aload_n dX11_rule_19 rfl rfl ?_
    refine px_getI dX11_rule_20 fX11_179 (xol rfl) hM rfl ?_
    refine px_top (y := nI n) hsh.1 ?_
    refine px_if_eq 31 dX11_rule_23 rfl (fun h23 => ?_) (fun h23 => ?_)
    · refine px_bipush dX11_rule_31 bp_m4 ?_
      exact px_iret dX11_rule_33 rfl (by rw [show aRul n dd S P (nI k) = (-4, dd, S, P) from by simp only [aRul, ← n0_i h8, ← d40_i hd4, h6, h23, not_true_eq_false, not_false_eq_true, if_true, if_false, and_self, true_and, and_true, ite_true, ite_false, reduceIte, eq_self]]; exact ⟨rfl, rD.rf M, hst⟩) (rfl)
    · refine px_iload_n dX11_rule_26 rfl rfl ?_
      refine px_iload_n dX11_rule_27 rfl rfl ?_
      refine px_icmp_ne 34 dX11_rule_28 rfl (fun h28 => ?_) (fun h28 => ?_)
      · refine px_aload_n dX11_rule_34 rfl rfl ?_
        refine px_getI dX11_rule_35 fX11_185 (xol rfl) hM rfl ?_
        refine px_top (y := nI dd) hst.1 ?_
        refine px_bipush dX11_rule_38 bp_40 ?_
        refine px_icmp_ne 46 dX11_rule_40 rfl (fun h40 => ?_) (fun h40 => ?_)
        · have h40n : ¬ dd = 40 := fun z => h40 ((d40_i hd4).mpr z)
          have hlt : dd < 40 := by omega
          have hst2 := stM_rem hst hlt
          refine px_aload_n dX11_rule_46 rfl rfl ?_
          refine px_fV0v dX11_rule_47 kX11_rule_293 (xol rfl) hM (Nat.le_of_ble_eq_true rfl) (c_X11_remember (dd := dd) hM hW hst.1 hlt) ?_
          refine px_aload_n dX11_rule_50 rfl rfl ?_
          refine px_getR dX11_rule_51 fX11_35 (xol rfl) hM rfl (wr_11_23 hW (xol rfl)) (Nat.succ_pos _) ?_
          refine px_bipush dX11_rule_54 bp_32 ?_
          refine px_iload_n dX11_rule_56 rfl rfl ?_
          refine px_iast dX11_rule_57 (xal (n := 33) rfl) hM (vp_in_nI (n := 32) (by decide) (by decide)) ?_
          refine px_iload_n dX11_rule_58 rfl rfl ?_
          exact px_iret dX11_rule_59 rfl (by rw [show aRul n dd S P (nI k) = (nI S.2, dd + 1, (S.1, k), psh P dd S) from by simp only [aRul, ← n0_i h8, ← d40_i hd4, h6, h23, h28, h40, hno, not_true_eq_false, not_false_eq_true, if_true, if_false, and_self, true_and, and_true, ite_true, ite_false, reduceIte, eq_self]]; exact ⟨rfl, (rDrem M dd).tr (rD.wI (by omega)), stM_ly hst2 rfl rfl (lyM_c (rRow_0.mp hst2.2.2.1).1 (fun k hk => by rw [xI_wI, if_neg (fun z => absurd z.2 (show k ≠ 32 by omega))])) (wI_self _ _ _ _)⟩) (rfl)
        · refine px_bipush dX11_rule_43 bp_m2 ?_
          exact px_iret dX11_rule_45 rfl (by rw [show aRul n dd S P (nI k) = (-2, dd, S, P) from by simp only [aRul, ← n0_i h8, ← d40_i hd4, h6, h23, h28, h40, not_true_eq_false, not_false_eq_true, if_true, if_false, and_self, true_and, and_true, ite_true, ite_false, reduceIte, eq_self]]; exact ⟨rfl, rD.rf M, hst⟩) (rfl)
      · refine px_bipush dX11_rule_31 bp_m4 ?_
        exact px_iret dX11_rule_33 rfl (by rw [show aRul n dd S P (nI k) = (-4, dd, S, P) from by simp only [aRul, ← n0_i h8, ← d40_i hd4, h6, h23, h28, not_true_eq_false, not_false_eq_true, if_true, if_false, and_self, true_and, and_true, ite_true, ite_false, reduceIte, eq_self]]; exact ⟨rfl, rD.rf M, hst⟩) (rfl)
  · refine px_iconst dX11_rule_9 ic_m1 ?_
    exact px_iret dX11_rule_10 rfl (by rw [show aRul n dd S P v = (-1, dd, S, P) from by simp only [aRul, ← n0_i h8, ← d40_i hd4, h6, not_true_eq_false, not_false_eq_true, if_true, if_false, and_self, true_and, and_true, ite_true, ite_false, reduceIte, eq_self]]; exact ⟨rfl, rD.rf M, hst⟩) (rfl)
