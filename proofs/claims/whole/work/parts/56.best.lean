/-! ===== would, best ===== -/
set_option maxRecDepth 100000 in
theorem l_bits {E : xE} {M : xMem} {ne : Nat} {w0 : Int32} (hn : xN M = ne) : ∀ k v c, v < 256 → tzB k v = true → PR E mX11_bitsOf ne 4 [some (.int w0), some (.int (nI c)), some (.int (nI v))] [] M (fun r m => r = some (.int (nI (c + kern k v))) ∧ m = M)
  | 0, v, c, hv, ht => by
    have e0 : v = 0 := by simpa [tzB] using ht
    refine px_iload_n dX11_bitsOf_4 rfl rfl ?_
    refine px_if_eq 20 dX11_bitsOf_5 rfl (fun h5 => ?_) (fun h5 => absurd (by rw [e0]; rfl) h5)
    refine px_iload_n dX11_bitsOf_20 rfl rfl ?_
    exact px_iret dX11_bitsOf_21 rfl ⟨by rw [kern, Nat.add_zero], rfl⟩ hn
  | k + 1, v, c, hv, ht => by
    refine px_iload_n dX11_bitsOf_4 rfl rfl ?_
    refine px_if_eq 20 dX11_bitsOf_5 rfl (fun h5 => ?_) (fun h5 => ?_)
    · have e0 : v = 0 := nI_is (show (0 : Int32) = nI 0 from rfl) (by omega) (by decide) h5
      refine px_iload_n dX11_bitsOf_20 rfl rfl ?_
      exact px_iret dX11_bitsOf_21 rfl ⟨by rw [e0, kern, if_pos rfl, Nat.add_zero], rfl⟩ (hn)
    · have e0 : ¬ v = 0 := fun z => h5 (by rw [z]; rfl)
      have ep := and_pr v hv e0
      refine px_inc_1 dX11_bitsOf_8 rfl ic_1 ?_
      refine px_iload_n dX11_bitsOf_11 rfl rfl ?_
      refine px_iload_n dX11_bitsOf_12 rfl rfl ?_
      refine px_iconst dX11_bitsOf_13 ic_1 ?_
      refine px_isub dX11_bitsOf_14 ?_
      refine px_iand dX11_bitsOf_15 ?_
      refine px_top (y := nI (v &&& (v - 1))) ep.1 ?_
      refine px_si_2 dX11_bitsOf_16 rfl ?_
      refine px_goto 4 dX11_bitsOf_17 rfl ?_
      refine px_eq (by rw [nI_1]) rfl (px_q ?_ (l_bits hn k (v &&& (v - 1)) (c + 1) ep.2 ht))
      rintro r m ⟨h1, h2⟩
      exact ⟨by rw [h1, kern, if_neg e0]; congr 3; omega, h2⟩

set_option maxRecDepth 100000 in
theorem c_X11_bitsOf {E : xE} {M : xMem} {v : Nat} (hv : v < 256) : Cf E mX11_bitsOf [.int (nI v)] M (some (.int (nI (kern 8 v)))) M := by
  refine Ct.of (lo := [some (.int (nI v)), none, none]) pln_X11 (Nat.le_of_ble_eq_true rfl) rfl (Nat.le_refl _) ?_
  refine px_iconst dX11_bitsOf_0 ic_0 ?_
  refine px_si_1 dX11_bitsOf_1 rfl ?_
  refine px_iload_n dX11_bitsOf_2 rfl rfl ?_
  refine px_si_2 dX11_bitsOf_3 rfl ?_
  have k := l_bits (E := E) (M := M) (w0 := nI v) rfl 8 v 0 hv (tz_all v hv)
  rw [Nat.zero_add] at k
  exact k

set_option maxRecDepth 100000 in
theorem c_X10_shortcoming {E : xE} {M : xMem} {s la n W H : Nat} {A D : Nat → Nat} {lay : gLay} (hM : xNT ≤ xN M) (hW : xWire M.2.1) (hs : xob s 7) (hcu : M.2.1 1 10 = s) (hla : xob la 1) (hsh : shC M s n W H A D) (hl : lyC (M.1 (la + 1)) lay) (ho : lyOK n W H A D lay) : Cf E mX10_shortcoming [.ref 1, .ref la] M (some (.int (nI (scN n A D lay)))) M := by
  refine Ct.of (lo := [some (.ref 1), some (.ref la), none, none, none]) pln_X10 (Nat.le_of_ble_eq_true rfl) rfl (Nat.le_refl _) ?_
  have hp0 : 0 < s := hs.1
  have h8 : n ≤ 8 := hsh.2.2.2.1
  have hb : lyB lay := hsh.b ho
  have hst : stL lay 8 ≤ n := by rw [(L_more ho.1 8 h8).2.1]; exact stL_le lay n
  refine px_aload_n dX10_shortcoming_0 rfl rfl ?_
  refine px_fV0i dX10_shortcoming_1 kX10_shortcoming_210 hla hM (Nat.le_of_ble_eq_true rfl) (c_X1_pages hM hW hla hl hb) ?_
  refine px_si_2 dX10_shortcoming_4 rfl ?_
  refine px_aload_n dX10_shortcoming_5 rfl rfl ?_
  refine px_getR dX10_shortcoming_6 fX10_71 (xol rfl) hM rfl (by assumption) (by assumption) ?_
  refine px_aload_n dX10_shortcoming_9 rfl rfl ?_
  refine px_iload_n dX10_shortcoming_10 rfl rfl ?_
  refine px_iconst dX10_shortcoming_11 ic_1 ?_
  refine px_isub dX10_shortcoming_12 ?_
  refine px_fV2i dX10_shortcoming_13 kX10_shortcoming_281 hs hM (Nat.le_of_ble_eq_true rfl) (c_X7_placesTaken hM hW hs hla hsh hl hb) ?_
  refine px_si_3 dX10_shortcoming_16 rfl ?_
  refine px_aload_n dX10_shortcoming_17 rfl rfl ?_
  refine px_getR dX10_shortcoming_18 fX10_71 (xol rfl) hM rfl (by assumption) (by assumption) ?_
  refine px_getI dX10_shortcoming_21 fX10_140 hs hM rfl ?_
  refine px_top (y := nI n) hsh.1 ?_
  refine px_aload_n dX10_shortcoming_24 rfl rfl ?_
  refine px_fV0i dX10_shortcoming_25 kX10_shortcoming_304 hla hM (Nat.le_of_ble_eq_true rfl) (c_X1_framesSet hM hW hla hl hb) ?_
  refine px_isub dX10_shortcoming_28 ?_
  refine px_top (y := nI (n - stL lay 8)) (pk_sub hst) ?_
  refine px_si_4 dX10_shortcoming_29 rfl ?_
  refine px_iload dX10_shortcoming_31 rfl ?_
  refine px_bipush dX10_shortcoming_33 bp_9 ?_
  refine px_imul dX10_shortcoming_35 ?_
  refine px_top (y := nI ((n - stL lay 8) * 9)) (by rw [show (9 : Int32) = nI 9 from rfl, pk_mul]) ?_
  refine px_iload_n dX10_shortcoming_36 rfl rfl ?_
  refine px_iadd dX10_shortcoming_37 ?_
  refine px_top (y := nI ((n - stL lay 8) * 9 + pgL lay 8)) (nI_add _ _) ?_
  refine px_sipush dX10_shortcoming_38 sp_257 ?_
  refine px_imul dX10_shortcoming_41 ?_
  refine px_top (y := nI (((n - stL lay 8) * 9 + pgL lay 8) * 257)) (by rw [show (257 : Int32) = nI 257 from rfl, pk_mul]) ?_
  refine px_iload_n dX10_shortcoming_42 rfl rfl ?_
  refine px_iadd dX10_shortcoming_43 ?_
  refine px_top (y := nI (scN n A D lay)) (nI_add _ _) ?_
  exact px_iret dX10_shortcoming_44 rfl ⟨rfl, rfl⟩ (rfl)

set_option maxRecDepth 100000 in
theorem l_X10_would {E : xE} {M : xMem} {s n o1 o2 : Nat} {lay : gLay} (hM : xNT ≤ xN M) (hW : xWire M.2.1) (hs : xob s 7) (hcu : M.2.1 1 10 = s) (hsz : M.1 s 1 = nI n) (h8 : n ≤ 8) (hl : lyC (M.1 30) lay) (hb : lyB lay) : PR E mX10_would (xN M) 54 [some (.ref 1), some (.int (nI o1)), some (.int (nI o2)), some (.int (msI lay 0)), some (.int (nI 0))] [] (M) (fun r m => r = some (.int (nI (pgL lay 8))) ∧ m = telM M (msI lay n)) := by
  have hp0 : 0 < s := hs.1
  refine px_for (P := fun i => PR E mX10_would (xN M) 54 [some (.ref 1), some (.int (nI o1)), some (.int (nI o2)), some (.int (msI lay i)), some (.int (nI i))] [] (M) (fun r m => r = some (.int (nI (pgL lay 8))) ∧ m = telM M (msI lay n))) (n) (fun i hi nx => ?_) (0) (Nat.zero_le _)
  refine px_iload dX10_would_54 rfl ?_
  refine px_aload_n dX10_would_56 rfl rfl ?_
  refine px_getR dX10_would_57 fX10_71 (xol rfl) hM rfl (by assumption) (by assumption) ?_
  refine px_getI dX10_would_60 fX10_140 hs hM rfl ?_
  refine px_top (y := nI n) hsz ?_
  refine px_icmp_ge 91 dX10_would_63 rfl (fun h63 => ?_) (fun h63 => ?_)
  · have hi2 : i = n := by rw [nI_leI (by omega) (by omega)] at h63; omega
    subst hi2
    refine px_aload_n dX10_would_91 rfl rfl ?_
    refine px_iload_n dX10_would_92 rfl rfl ?_
    refine px_putI dX10_would_93 fX10_75 p10_11 (xol rfl) hM rfl ?_
    refine px_aload_n dX10_would_96 rfl rfl ?_
    refine px_getR dX10_would_97 fX10_60 (xol rfl) hM rfl (wr_10_8 hW (xol rfl)) (Nat.succ_pos _) ?_
    refine px_fV0i dX10_would_100 kX10_would_210 (xol rfl) hM (Nat.le_of_ble_eq_true rfl) (c_X1_pages (la := 29) hM hW (xol rfl) (lyC_c hl (fun k _ => rfl)) hb) ?_
    exact px_iret dX10_would_103 rfl ⟨rfl, rfl⟩ (rfl)
  · have hlt : i < n := by rw [nI_leI (by omega) (by omega)] at h63; omega
    have hfi : vp_in (nI i) 8 := vp_in_nI (by omega) (by decide)
    refine px_aload_n dX10_would_66 rfl rfl ?_
    refine px_getR dX10_would_67 fX10_60 (xol rfl) hM rfl (wr_10_8 hW (xol rfl)) (Nat.succ_pos _) ?_
    refine px_iload dX10_would_70 rfl ?_
    refine px_fV1i dX10_would_72 kX10_would_166 (xol rfl) hM (Nat.le_of_ble_eq_true rfl) (c_X1_isSet (a := 29) (xol rfl) hM hW hfi) ?_
    refine px_top (y := zb (¬ lay i = none)) (lyC_is hl hb (by omega)) ?_
    refine px_zif_ne 85 dX10_would_75 rfl (fun h75 => ?_) (fun h75 => ?_)
    · refine px_inc_4 dX10_would_85 rfl ic_1 ?_
      refine px_goto 54 dX10_would_88 rfl ?_
      first
        | exact px_eq (by rw [nI_1, msI_s h75]) rfl (nx hlt)
        | exact px_eq (by rw [nI_1, msI_n e]) rfl (nx hlt)
    · have e : lay i = none := Classical.byContradiction h75
      refine px_iload_n dX10_would_78 rfl rfl ?_
      refine px_iconst dX10_would_79 ic_1 ?_
      refine px_iload dX10_would_80 rfl ?_
      refine px_ishl dX10_would_82 ?_
      refine px_ior dX10_would_83 ?_
      refine px_si_3 dX10_would_84 rfl ?_
      refine px_inc_4 dX10_would_85 rfl ic_1 ?_
      refine px_goto 54 dX10_would_88 rfl ?_
      first
        | exact px_eq (by rw [nI_1, msI_s h75]) rfl (nx hlt)
        | exact px_eq (by rw [nI_1, msI_n e]) rfl (nx hlt)

set_option maxRecDepth 100000 in
theorem c_X10_would {E : xE} {M : xMem} {s n W H B dd : Nat} {g : Nat → Nat → Nat} {S : gLay × Nat} {P : Nat → gLay × Nat} (hc : cHy M s n W H B g dd S P) {v w : Int32} : Ct E mX10_would [.ref 1, .int v, .int w] M (xN M) (fun r m => r = some (.int (aWou n W H (aA B g) (aD B g) (aT g) v w).1) ∧ cS (oC M (aWou n W H (aA B g) (aD B g) (aT g) v w).2.1 (aWou n W H (aA B g) (aD B g) (aT g) v w).2.2) m) := by
  obtain ⟨hM, hW, hs, hcu, hsh, hok, hst, hly, hru⟩ := hc
  have hp0 : 0 < s := hs.1
  have h8 : n ≤ 8 := hok.1
  have hb : lyB S.1 := (hsh.s hok).b hly
  have hl : lyC (M.1 8) S.1 := hst.2.2.1
  have hpg := pgL_le hb 8
  have hsC := hsh.s hok
  have hsT := hsh.t hok
  have h7 := xob_7 hs
  refine Ct.of (lo := [some (.ref 1), some (.int v), some (.int w), none, none]) pln_X10 (Nat.le_of_ble_eq_true rfl) rfl (Nat.le_refl _) ?_
  refine px_iload_n dX10_would_0 rfl rfl ?_
  refine px_iconst dX10_would_1 ic_4 ?_
  refine px_fS2i dX10_would_2 kX10_would_84 (Nat.le_of_ble_eq_true rfl) (c_X10_isBelow) ?_
  refine px_zif_eq 23 dX10_would_5 rfl (fun h5 => ?_) (fun h5 => ?_)
  · refine px_iconst dX10_would_23 ic_m1 ?_
    exact px_iret dX10_would_24 rfl (by rw [show aWou n W H (aA B g) (aD B g) (aT g) v w = aBad from by simp only [aWou, h5, not_true_eq_false, not_false_eq_true, if_true, if_false, and_self, true_and, and_true, ite_true, ite_false, reduceIte, eq_self, ite_self]]; exact ⟨rfl, cS.rf M⟩) (rfl)
  · refine px_iload_n dX10_would_8 rfl rfl ?_
    refine px_iconst dX10_would_9 ic_3 ?_
    refine px_fS2i dX10_would_10 kX10_would_84 (Nat.le_of_ble_eq_true rfl) (c_X10_isBelow) ?_
    refine px_zif_eq 23 dX10_would_13 rfl (fun h13 => ?_) (fun h13 => ?_)
    · refine px_iconst dX10_would_23 ic_m1 ?_
      exact px_iret dX10_would_24 rfl (by rw [show aWou n W H (aA B g) (aD B g) (aT g) v w = aBad from by simp only [aWou, h5, h13, not_true_eq_false, not_false_eq_true, if_true, if_false, and_self, true_and, and_true, ite_true, ite_false, reduceIte, eq_self, ite_self]]; exact ⟨rfl, cS.rf M⟩) (rfl)
    · refine px_aload_n dX10_would_16 rfl rfl ?_
      refine px_fV0i dX10_would_17 kX10_would_141 (xol rfl) hM (Nat.le_of_ble_eq_true rfl) (c_X10_hasNoSheet hM hs hcu hp0) ?_
      refine px_top (y := zb (n = 0)) (by rw [hsh.1]; exact no_c h8) ?_
      refine px_zif_eq 25 dX10_would_20 rfl (fun h20 => ?_) (fun h20 => ?_)
      · obtain ⟨ri, hri, rfl⟩ := in_nat (n := 4) (by decide) (show 0 ≤ v ∧ v < nI 4 from h5)
        obtain ⟨od, hod, rfl⟩ := in_nat (n := 3) (by decide) (show 0 ≤ w ∧ w < nI 3 from h13)
        have hnr : (nI ri).toNatClampNeg = ri := nI_clamp (by omega)
        have hno : (nI od).toNatClampNeg = od := nI_clamp (by omega)
        have hly2 : lyOK n W H (aA B g) (aD B g) (allG ri od n W H (aA B g) (aD B g) (aT g)) := allG_ok (fun f hf => (hsT f hf).1) hok.2.1 hok.2.2.1
        have hb2 := hsC.b hly2
        have hsh2 := (cSin (M := M) (a := 29) (j := 1) (v := nI ri) (by omega)).sh hs hsh h8
        refine px_aload_n dX10_would_25 rfl rfl ?_
        refine px_getR dX10_would_26 fX10_60 (xol rfl) hM rfl (wr_10_8 hW (xol rfl)) (Nat.succ_pos _) ?_
        refine px_iload_n dX10_would_29 rfl rfl ?_
        refine px_putI dX10_would_30 fX10_217 p1_1 (xol rfl) hM rfl ?_
        refine px_aload_n dX10_would_33 rfl rfl ?_
        refine px_getR dX10_would_34 fX10_53 (xol rfl) hM rfl (wr_10_7 hW (xol rfl)) (Nat.succ_pos _) ?_
        refine px_aload_n dX10_would_37 rfl rfl ?_
        refine px_getR dX10_would_38 fX10_71 (xol rfl) hM rfl (by assumption) (by assumption) ?_
        refine px_aload_n dX10_would_41 rfl rfl ?_
        refine px_getR dX10_would_42 fX10_60 (xol rfl) hM rfl (wr_10_8 hW (xol rfl)) (Nat.succ_pos _) ?_
        refine px_iload_n dX10_would_45 rfl rfl ?_
        refine px_gV3 dX10_would_46 kX10_would_213 (xol rfl) hM (Nat.le_of_ble_eq_true rfl) (c_X2_setAllAnew (la := 29) (T := aT g) hM hW hs (xol rfl) (hsh2.s hok) (hsh2.t hok) (wI_self _ _ _ _) hri hod) (fun r46 M46 hq46 hn46 => ?_)
        obtain ⟨rfl, q1, q2⟩ := hq46
        have hm : xNT ≤ xN M46 := by rw [hn46]; exact hM
        have hw : xWire M46.2.1 := by rw [q1.w]; exact hW
        have qS : cS M M46 := (cSin (a := 29) (by omega)).tr q1.c
        refine px_iconst dX10_would_49 ic_0 ?_
        refine px_si_3 dX10_would_50 rfl ?_
        refine px_iconst dX10_would_51 ic_0 ?_
        refine px_si_4 dX10_would_52 rfl ?_
        rw [show aWou n W H (aA B g) (aD B g) (aT g) (nI ri) (nI od) = (nI (pgL (allG ri od n W H (aA B g) (aD B g) (aT g)) 8), some (msI (allG ri od n W H (aA B g) (aD B g) (aT g)) n), none) from by simp only [aWou, h5, h13, h20, hnr, hno, not_true_eq_false, not_false_eq_true, if_true, if_false, and_self, true_and, and_true, ite_true, ite_false, reduceIte, eq_self]]
        refine px_q ?_ (show PR E mX10_would (xN M) 54 _ _ M46 _ from (hn46 : xN M46 = xN M) ▸ l_X10_would (M := M46) (o1 := ri) (o2 := od) hm hw hs ((by rw [q1.w]; exact hcu)) ((qS.sh hs hsh h8).1) h8 q2 hb2)
        rintro r m ⟨rfl, rfl⟩
        exact ⟨rfl, qS.wI _ _ _⟩
      · refine px_iconst dX10_would_23 ic_m1 ?_
        exact px_iret dX10_would_24 rfl (by rw [show aWou n W H (aA B g) (aD B g) (aT g) v w = aBad from by simp only [aWou, h5, h13, h20, not_true_eq_false, not_false_eq_true, if_true, if_false, and_self, true_and, and_true, ite_true, ite_false, reduceIte, eq_self, ite_self]]; exact ⟨rfl, cS.rf M⟩) (rfl)

set_option maxRecDepth 100000 in
theorem l_X10_best2 {E : xE} {M : xMem} {s n W H B dd : Nat} {g : Nat → Nat → Nat} {S : gLay × Nat} {P : Nat → gLay × Nat} (hc : cHy M s n W H B g dd S P) (hn0 : ¬ n = 0) {ii : Nat} (hii : ii < 4) (kk : ∀ m, cS M m → ∀ l5 l6, PR E mX10_best (xN M) 20 [some (.ref 1), some (.int (bV (fun r o => scN n (aA B g) (aD B g) (allG r o n W H (aA B g) (aD B g) (aT g))) (bsG (fun r o => scN n (aA B g) (aD B g) (allG r o n W H (aA B g) (aD B g) (aT g))) (3 * (ii + 1) + 0)))), some (.int (bV (fun r o => pgL (allG r o n W H (aA B g) (aD B g) (aT g)) 8) (bsG (fun r o => scN n (aA B g) (aD B g) (allG r o n W H (aA B g) (aD B g) (aT g))) (3 * (ii + 1) + 0)))), some (.int (bW (bsG (fun r o => scN n (aA B g) (aD B g) (allG r o n W H (aA B g) (aD B g) (aT g))) (3 * (ii + 1) + 0)))), some (.int (nI (ii + 1))), l5, l6] [] m (fun r m => r = some (.int (aBst n (aA B g) (aD B g) (fun r o => allG r o n W H (aA B g) (aD B g) (aT g))).1) ∧ cS (oC M (aBst n (aA B g) (aD B g) (fun r o => allG r o n W H (aA B g) (aD B g) (aT g))).2.1 (aBst n (aA B g) (aD B g) (fun r o => allG r o n W H (aA B g) (aD B g) (aT g))).2.2) m)) : ∀ m, cS M m → ∀ l6, PR E mX10_best (xN M) 29 [some (.ref 1), some (.int (bV (fun r o => scN n (aA B g) (aD B g) (allG r o n W H (aA B g) (aD B g) (aT g))) (bsG (fun r o => scN n (aA B g) (aD B g) (allG r o n W H (aA B g) (aD B g) (aT g))) (3 * ii + 0)))), some (.int (bV (fun r o => pgL (allG r o n W H (aA B g) (aD B g) (aT g)) 8) (bsG (fun r o => scN n (aA B g) (aD B g) (allG r o n W H (aA B g) (aD B g) (aT g))) (3 * ii + 0)))), some (.int (bW (bsG (fun r o => scN n (aA B g) (aD B g) (allG r o n W H (aA B g) (aD B g) (aT g))) (3 * ii + 0)))), some (.int (nI ii)), some (.int (nI 0)), l6] [] (m) (fun r m => r = some (.int (aBst n (aA B g) (aD B g) (fun r o => allG r o n W H (aA B g) (aD B g) (aT g))).1) ∧ cS (oC M (aBst n (aA B g) (aD B g) (fun r o => allG r o n W H (aA B g) (aD B g) (aT g))).2.1 (aBst n (aA B g) (aD B g) (fun r o => allG r o n W H (aA B g) (aD B g) (aT g))).2.2) m) := by
  obtain ⟨hM, hW, hs, hcu, hsh, hok, hst, hly, hru⟩ := hc
  have hp0 : 0 < s := hs.1
  have h8 : n ≤ 8 := hok.1
  have hb : lyB S.1 := (hsh.s hok).b hly
  have hl : lyC (M.1 8) S.1 := hst.2.2.1
  have hpg := pgL_le hb 8
  have hsC := hsh.s hok
  have hsT := hsh.t hok
  have h7 := xob_7 hs
  refine px_for (P := fun i => ∀ m, cS M m → ∀ l6, PR E mX10_best (xN M) 29 [some (.ref 1), some (.int (bV (fun r o => scN n (aA B g) (aD B g) (allG r o n W H (aA B g) (aD B g) (aT g))) (bsG (fun r o => scN n (aA B g) (aD B g) (allG r o n W H (aA B g) (aD B g) (aT g))) (3 * ii + i)))), some (.int (bV (fun r o => pgL (allG r o n W H (aA B g) (aD B g) (aT g)) 8) (bsG (fun r o => scN n (aA B g) (aD B g) (allG r o n W H (aA B g) (aD B g) (aT g))) (3 * ii + i)))), some (.int (bW (bsG (fun r o => scN n (aA B g) (aD B g) (allG r o n W H (aA B g) (aD B g) (aT g))) (3 * ii + i)))), some (.int (nI ii)), some (.int (nI i)), l6] [] (m) (fun r m => r = some (.int (aBst n (aA B g) (aD B g) (fun r o => allG r o n W H (aA B g) (aD B g) (aT g))).1) ∧ cS (oC M (aBst n (aA B g) (aD B g) (fun r o => allG r o n W H (aA B g) (aD B g) (aT g))).2.1 (aBst n (aA B g) (aD B g) (fun r o => allG r o n W H (aA B g) (aD B g) (aT g))).2.2) m)) (3) (fun i hi nx => ?_) (0) (Nat.zero_le _)
  intro m hk l6
  have hm : xNT ≤ xN m := by rw [hk.m]; exact hM
  have hw : xWire m.2.1 := by rw [hk.w]; exact hW
  have hcm : m.2.1 1 10 = s := by rw [hk.w]; exact hcu
  refine px_iload dX10_best_29 rfl ?_
  refine px_iconst dX10_best_31 ic_3 ?_
  refine px_icmp_ge 109 dX10_best_32 rfl (fun h32 => ?_) (fun h32 => ?_)
  · have hi2 : i = 3 := by rw [show (3 : Int32) = nI 3 from rfl, nI_leI (by omega) (by omega)] at h32; omega
    subst hi2
    refine px_inc_4 dX10_best_109 rfl ic_1 ?_
    refine px_goto 20 dX10_best_112 rfl ?_
    exact px_eq (by rw [nI_1]; rfl) rfl (kk m hk _ _)
  · have hlt : i < 3 := by rw [show (3 : Int32) = nI 3 from rfl, nI_leI (by omega) (by omega)] at h32; omega
    have hsh1 := hk.sh hs hsh h8
    have hly2 : lyOK n W H (aA B g) (aD B g) (allG ii i n W H (aA B g) (aD B g) (aT g)) := allG_ok (fun f hf => (hsT f hf).1) hok.2.1 hok.2.2.1
    have hb2 := hsC.b hly2
    have hls := ls_le (n := n) hly2 hb2 hok.2.1 hok.2.2.1
    have hpg2 := pgL_le hb2 8
    have hstl : stL (allG ii i n W H (aA B g) (aD B g) (aT g)) 8 ≤ n := by rw [(L_more hly2.1 8 h8).2.1]; exact stL_le _ n
    have hsh2 := (cSin (M := m) (a := 29) (j := 1) (v := nI ii) (by omega)).sh hs hsh1 h8
    refine px_aload_n dX10_best_35 rfl rfl ?_
    refine px_getR dX10_best_36 fX10_60 (xol rfl) hm rfl (wr_10_8 hw (xol rfl)) (Nat.succ_pos _) ?_
    refine px_iload dX10_best_39 rfl ?_
    refine px_putI dX10_best_41 fX10_217 p1_1 (xol rfl) hm rfl ?_
    refine px_aload_n dX10_best_44 rfl rfl ?_
    refine px_getR dX10_best_45 fX10_53 (xol rfl) hm rfl (wr_10_7 hw (xol rfl)) (Nat.succ_pos _) ?_
    refine px_aload_n dX10_best_48 rfl rfl ?_
    refine px_getR dX10_best_49 fX10_71 (xol rfl) hm rfl (by assumption) (by assumption) ?_
    refine px_aload_n dX10_best_52 rfl rfl ?_
    refine px_getR dX10_best_53 fX10_60 (xol rfl) hm rfl (wr_10_8 hw (xol rfl)) (Nat.succ_pos _) ?_
    refine px_iload dX10_best_56 rfl ?_
    refine px_gV3 dX10_best_58 kX10_best_213 (xol rfl) hm (Nat.le_of_ble_eq_true rfl) (c_X2_setAllAnew (la := 29) (T := aT g) hm hw hs (xol rfl) (hsh2.s hok) (hsh2.t hok) (wI_self _ _ _ _) hii hlt) (fun r58 M58 hq58 hn58 => ?_)
    obtain ⟨rfl, q1, q2⟩ := hq58
    have hm5 : xNT ≤ xN M58 := by rw [hn58]; exact hm
    have hw5 : xWire M58.2.1 := by rw [q1.w]; exact hw
    have hc5 : M58.2.1 1 10 = s := by rw [q1.w]; exact hcm
    have qS : cS M M58 := hk.tr ((cSin (a := 29) (by omega)).tr q1.c)
    have hsh5 := (qS.sh hs hsh h8).s hok
    refine px_aload_n dX10_best_61 rfl rfl ?_
    refine px_aload_n dX10_best_62 rfl rfl ?_
    refine px_getR dX10_best_63 fX10_60 (xol rfl) hm5 rfl (wr_10_8 hw5 (xol rfl)) (Nat.succ_pos _) ?_
    refine px_fV1i dX10_best_66 kX10_best_292 (xol rfl) hm5 (Nat.le_of_ble_eq_true rfl) (c_X10_shortcoming (la := 29) hm5 hw5 hs hc5 (xol rfl) hsh5 q2 hly2) ?_
    have hsc : scN n (aA B g) (aD B g) (allG ii i n W H (aA B g) (aD B g) (aT g)) < 2 ^ 30 := by unfold scN; omega
    refine px_si_6 dX10_best_69 rfl ?_
    refine px_iload_n dX10_best_71 rfl rfl ?_
    refine px_bipush dX10_best_72 bp_m9 ?_
    refine px_icmp_eq 83 dX10_best_74 rfl (fun h74 => ?_) (fun h74 => ?_)
    · refine px_iload dX10_best_83 rfl ?_
      refine px_si_1 dX10_best_85 rfl ?_
      refine px_aload_n dX10_best_86 rfl rfl ?_
      refine px_getR dX10_best_87 fX10_60 (xol rfl) hm5 rfl (wr_10_8 hw5 (xol rfl)) (Nat.succ_pos _) ?_
      refine px_fV0i dX10_best_90 kX10_best_210 (xol rfl) hm5 (Nat.le_of_ble_eq_true rfl) (c_X1_pages (la := 29) hm5 hw5 (xol rfl) q2 hb2) ?_
      refine px_si_2 dX10_best_93 rfl ?_
      refine px_bipush dX10_best_94 bp_10 ?_
      refine px_iload dX10_best_96 rfl ?_
      refine px_imul dX10_best_98 ?_
      refine px_iload dX10_best_99 rfl ?_
      refine px_iadd dX10_best_101 ?_
      refine px_top (y := nI (10 * ii + i)) (by rw [show (10 : Int32) = nI 10 from rfl, pk_mul, nI_add]) ?_
      refine px_si_3 dX10_best_102 rfl ?_
      refine px_inc_5 dX10_best_103 rfl ic_1 ?_
      refine px_goto 29 dX10_best_106 rfl ?_
      first
        | (have eB := bsG_n (i := ii) hlt (bW_n (by omega) h74); exact px_eq (by rw [nI_1, eB]; rfl) rfl (nx hlt M58 qS _))
        | (obtain ⟨q, hq⟩ := bW_s h74; have hqi := bsG_in _ q (by omega) hq; rw [hq] at h80; have h80 : ¬ nI (scN n (aA B g) (aD B g) (allG q.1 q.2 n W H (aA B g) (aD B g) (aT g))) ≤ nI (scN n (aA B g) (aD B g) (allG ii i n W H (aA B g) (aD B g) (aT g))) := h80; have hl3 : lyOK n W H (aA B g) (aD B g) (allG q.1 q.2 n W H (aA B g) (aD B g) (aT g)) := allG_ok (fun f hf => (hsT f hf).1) hok.2.1 hok.2.2.1; have hb3 := hsC.b hl3; have hls3 := ls_le (n := n) hl3 hb3 hok.2.1 hok.2.2.1; have hpg3 := pgL_le hb3 8; have hsc3 : scN n (aA B g) (aD B g) (allG q.1 q.2 n W H (aA B g) (aD B g) (aT g)) < 2 ^ 30 := (by unfold scN; omega); have h80 : ¬ scN n (aA B g) (aD B g) (allG q.1 q.2 n W H (aA B g) (aD B g) (aT g)) ≤ scN n (aA B g) (aD B g) (allG ii i n W H (aA B g) (aD B g) (aT g)) := fun z => h80 ((nI_leI (by omega) (by omega)).mpr z); have eB := bsG_l (sc := (fun r o => scN n (aA B g) (aD B g) (allG r o n W H (aA B g) (aD B g) (aT g)))) hlt hq (by show scN _ _ _ _ < scN _ _ _ _; omega); exact px_eq (by rw [nI_1, eB]; rfl) rfl (nx hlt M58 qS _))
        | (obtain ⟨q, hq⟩ := bW_s h74; have hqi := bsG_in _ q (by omega) hq; rw [hq] at h80; have h80 :  nI (scN n (aA B g) (aD B g) (allG q.1 q.2 n W H (aA B g) (aD B g) (aT g))) ≤ nI (scN n (aA B g) (aD B g) (allG ii i n W H (aA B g) (aD B g) (aT g))) := h80; have hl3 : lyOK n W H (aA B g) (aD B g) (allG q.1 q.2 n W H (aA B g) (aD B g) (aT g)) := allG_ok (fun f hf => (hsT f hf).1) hok.2.1 hok.2.2.1; have hb3 := hsC.b hl3; have hls3 := ls_le (n := n) hl3 hb3 hok.2.1 hok.2.2.1; have hpg3 := pgL_le hb3 8; have hsc3 : scN n (aA B g) (aD B g) (allG q.1 q.2 n W H (aA B g) (aD B g) (aT g)) < 2 ^ 30 := (by unfold scN; omega); have h80 := (nI_leI (by omega) (by omega)).mp h80; have eB := bsG_k (sc := (fun r o => scN n (aA B g) (aD B g) (allG r o n W H (aA B g) (aD B g) (aT g)))) hlt hq (by show ¬ scN _ _ _ _ < scN _ _ _ _; omega); exact px_eq (by rw [nI_1, eB, hq]) rfl (nx hlt M58 qS _))
    · refine px_iload dX10_best_77 rfl ?_
      refine px_iload_n dX10_best_79 rfl rfl ?_
      refine px_icmp_ge 103 dX10_best_80 rfl (fun h80 => ?_) (fun h80 => ?_)
      · refine px_inc_5 dX10_best_103 rfl ic_1 ?_
        refine px_goto 29 dX10_best_106 rfl ?_
        first
          | (have eB := bsG_n (i := ii) hlt (bW_n (by omega) h74); exact px_eq (by rw [nI_1, eB]; rfl) rfl (nx hlt M58 qS _))
          | (obtain ⟨q, hq⟩ := bW_s h74; have hqi := bsG_in _ q (by omega) hq; rw [hq] at h80; have h80 : ¬ nI (scN n (aA B g) (aD B g) (allG q.1 q.2 n W H (aA B g) (aD B g) (aT g))) ≤ nI (scN n (aA B g) (aD B g) (allG ii i n W H (aA B g) (aD B g) (aT g))) := h80; have hl3 : lyOK n W H (aA B g) (aD B g) (allG q.1 q.2 n W H (aA B g) (aD B g) (aT g)) := allG_ok (fun f hf => (hsT f hf).1) hok.2.1 hok.2.2.1; have hb3 := hsC.b hl3; have hls3 := ls_le (n := n) hl3 hb3 hok.2.1 hok.2.2.1; have hpg3 := pgL_le hb3 8; have hsc3 : scN n (aA B g) (aD B g) (allG q.1 q.2 n W H (aA B g) (aD B g) (aT g)) < 2 ^ 30 := (by unfold scN; omega); have h80 : ¬ scN n (aA B g) (aD B g) (allG q.1 q.2 n W H (aA B g) (aD B g) (aT g)) ≤ scN n (aA B g) (aD B g) (allG ii i n W H (aA B g) (aD B g) (aT g)) := fun z => h80 ((nI_leI (by omega) (by omega)).mpr z); have eB := bsG_l (sc := (fun r o => scN n (aA B g) (aD B g) (allG r o n W H (aA B g) (aD B g) (aT g)))) hlt hq (by show scN _ _ _ _ < scN _ _ _ _; omega); exact px_eq (by rw [nI_1, eB]; rfl) rfl (nx hlt M58 qS _))
          | (obtain ⟨q, hq⟩ := bW_s h74; have hqi := bsG_in _ q (by omega) hq; rw [hq] at h80; have h80 :  nI (scN n (aA B g) (aD B g) (allG q.1 q.2 n W H (aA B g) (aD B g) (aT g))) ≤ nI (scN n (aA B g) (aD B g) (allG ii i n W H (aA B g) (aD B g) (aT g))) := h80; have hl3 : lyOK n W H (aA B g) (aD B g) (allG q.1 q.2 n W H (aA B g) (aD B g) (aT g)) := allG_ok (fun f hf => (hsT f hf).1) hok.2.1 hok.2.2.1; have hb3 := hsC.b hl3; have hls3 := ls_le (n := n) hl3 hb3 hok.2.1 hok.2.2.1; have hpg3 := pgL_le hb3 8; have hsc3 : scN n (aA B g) (aD B g) (allG q.1 q.2 n W H (aA B g) (aD B g) (aT g)) < 2 ^ 30 := (by unfold scN; omega); have h80 := (nI_leI (by omega) (by omega)).mp h80; have eB := bsG_k (sc := (fun r o => scN n (aA B g) (aD B g) (allG r o n W H (aA B g) (aD B g) (aT g)))) hlt hq (by show ¬ scN _ _ _ _ < scN _ _ _ _; omega); exact px_eq (by rw [nI_1, eB, hq]) rfl (nx hlt M58 qS _))
      · refine px_iload dX10_best_83 rfl ?_
        refine px_si_1 dX10_best_85 rfl ?_
        refine px_aload_n dX10_best_86 rfl rfl ?_
        refine px_getR dX10_best_87 fX10_60 (xol rfl) hm5 rfl (wr_10_8 hw5 (xol rfl)) (Nat.succ_pos _) ?_
        refine px_fV0i dX10_best_90 kX10_best_210 (xol rfl) hm5 (Nat.le_of_ble_eq_true rfl) (c_X1_pages (la := 29) hm5 hw5 (xol rfl) q2 hb2) ?_
        refine px_si_2 dX10_best_93 rfl ?_
        refine px_bipush dX10_best_94 bp_10 ?_
        refine px_iload dX10_best_96 rfl ?_
        refine px_imul dX10_best_98 ?_
        refine px_iload dX10_best_99 rfl ?_
        refine px_iadd dX10_best_101 ?_
        refine px_top (y := nI (10 * ii + i)) (by rw [show (10 : Int32) = nI 10 from rfl, pk_mul, nI_add]) ?_
        refine px_si_3 dX10_best_102 rfl ?_
        refine px_inc_5 dX10_best_103 rfl ic_1 ?_
        refine px_goto 29 dX10_best_106 rfl ?_
        first
          | (have eB := bsG_n (i := ii) hlt (bW_n (by omega) h74); exact px_eq (by rw [nI_1, eB]; rfl) rfl (nx hlt M58 qS _))
          | (obtain ⟨q, hq⟩ := bW_s h74; have hqi := bsG_in _ q (by omega) hq; rw [hq] at h80; have h80 : ¬ nI (scN n (aA B g) (aD B g) (allG q.1 q.2 n W H (aA B g) (aD B g) (aT g))) ≤ nI (scN n (aA B g) (aD B g) (allG ii i n W H (aA B g) (aD B g) (aT g))) := h80; have hl3 : lyOK n W H (aA B g) (aD B g) (allG q.1 q.2 n W H (aA B g) (aD B g) (aT g)) := allG_ok (fun f hf => (hsT f hf).1) hok.2.1 hok.2.2.1; have hb3 := hsC.b hl3; have hls3 := ls_le (n := n) hl3 hb3 hok.2.1 hok.2.2.1; have hpg3 := pgL_le hb3 8; have hsc3 : scN n (aA B g) (aD B g) (allG q.1 q.2 n W H (aA B g) (aD B g) (aT g)) < 2 ^ 30 := (by unfold scN; omega); have h80 : ¬ scN n (aA B g) (aD B g) (allG q.1 q.2 n W H (aA B g) (aD B g) (aT g)) ≤ scN n (aA B g) (aD B g) (allG ii i n W H (aA B g) (aD B g) (aT g)) := fun z => h80 ((nI_leI (by omega) (by omega)).mpr z); have eB := bsG_l (sc := (fun r o => scN n (aA B g) (aD B g) (allG r o n W H (aA B g) (aD B g) (aT g)))) hlt hq (by show scN _ _ _ _ < scN _ _ _ _; omega); exact px_eq (by rw [nI_1, eB]; rfl) rfl (nx hlt M58 qS _))
          | (obtain ⟨q, hq⟩ := bW_s h74; have hqi := bsG_in _ q (by omega) hq; rw [hq] at h80; have h80 :  nI (scN n (aA B g) (aD B g) (allG q.1 q.2 n W H (aA B g) (aD B g) (aT g))) ≤ nI (scN n (aA B g) (aD B g) (allG ii i n W H (aA B g) (aD B g) (aT g))) := h80; have hl3 : lyOK n W H (aA B g) (aD B g) (allG q.1 q.2 n W H (aA B g) (aD B g) (aT g)) := allG_ok (fun f hf => (hsT f hf).1) hok.2.1 hok.2.2.1; have hb3 := hsC.b hl3; have hls3 := ls_le (n := n) hl3 hb3 hok.2.1 hok.2.2.1; have hpg3 := pgL_le hb3 8; have hsc3 : scN n (aA B g) (aD B g) (allG q.1 q.2 n W H (aA B g) (aD B g) (aT g)) < 2 ^ 30 := (by unfold scN; omega); have h80 := (nI_leI (by omega) (by omega)).mp h80; have eB := bsG_k (sc := (fun r o => scN n (aA B g) (aD B g) (allG r o n W H (aA B g) (aD B g) (aT g)))) hlt hq (by show ¬ scN _ _ _ _ < scN _ _ _ _; omega); exact px_eq (by rw [nI_1, eB, hq]) rfl (nx hlt M58 qS _))

set_option maxRecDepth 100000 in
theorem l_X10_best1 {E : xE} {M : xMem} {s n W H B dd : Nat} {g : Nat → Nat → Nat} {S : gLay × Nat} {P : Nat → gLay × Nat} (hc : cHy M s n W H B g dd S P) (hn0 : ¬ n = 0) : ∀ m, cS M m → ∀ l5 l6, PR E mX10_best (xN M) 20 [some (.ref 1), some (.int (bV (fun r o => scN n (aA B g) (aD B g) (allG r o n W H (aA B g) (aD B g) (aT g))) (bsG (fun r o => scN n (aA B g) (aD B g) (allG r o n W H (aA B g) (aD B g) (aT g))) (3 * 0 + 0)))), some (.int (bV (fun r o => pgL (allG r o n W H (aA B g) (aD B g) (aT g)) 8) (bsG (fun r o => scN n (aA B g) (aD B g) (allG r o n W H (aA B g) (aD B g) (aT g))) (3 * 0 + 0)))), some (.int (bW (bsG (fun r o => scN n (aA B g) (aD B g) (allG r o n W H (aA B g) (aD B g) (aT g))) (3 * 0 + 0)))), some (.int (nI 0)), l5, l6] [] (m) (fun r m => r = some (.int (aBst n (aA B g) (aD B g) (fun r o => allG r o n W H (aA B g) (aD B g) (aT g))).1) ∧ cS (oC M (aBst n (aA B g) (aD B g) (fun r o => allG r o n W H (aA B g) (aD B g) (aT g))).2.1 (aBst n (aA B g) (aD B g) (fun r o => allG r o n W H (aA B g) (aD B g) (aT g))).2.2) m) := by
  have hc0 := hc
  obtain ⟨hM, hW, hs, hcu, hsh, hok, hst, hly, hru⟩ := hc
  have hp0 : 0 < s := hs.1
  have h8 : n ≤ 8 := hok.1
  have hb : lyB S.1 := (hsh.s hok).b hly
  have hl : lyC (M.1 8) S.1 := hst.2.2.1
  have hpg := pgL_le hb 8
  have hsC := hsh.s hok
  have hsT := hsh.t hok
  have h7 := xob_7 hs
  refine px_for (P := fun i => ∀ m, cS M m → ∀ l5 l6, PR E mX10_best (xN M) 20 [some (.ref 1), some (.int (bV (fun r o => scN n (aA B g) (aD B g) (allG r o n W H (aA B g) (aD B g) (aT g))) (bsG (fun r o => scN n (aA B g) (aD B g) (allG r o n W H (aA B g) (aD B g) (aT g))) (3 * i + 0)))), some (.int (bV (fun r o => pgL (allG r o n W H (aA B g) (aD B g) (aT g)) 8) (bsG (fun r o => scN n (aA B g) (aD B g) (allG r o n W H (aA B g) (aD B g) (aT g))) (3 * i + 0)))), some (.int (bW (bsG (fun r o => scN n (aA B g) (aD B g) (allG r o n W H (aA B g) (aD B g) (aT g))) (3 * i + 0)))), some (.int (nI i)), l5, l6] [] (m) (fun r m => r = some (.int (aBst n (aA B g) (aD B g) (fun r o => allG r o n W H (aA B g) (aD B g) (aT g))).1) ∧ cS (oC M (aBst n (aA B g) (aD B g) (fun r o => allG r o n W H (aA B g) (aD B g) (aT g))).2.1 (aBst n (aA B g) (aD B g) (fun r o => allG r o n W H (aA B g) (aD B g) (aT g))).2.2) m)) (4) (fun i hi nx => ?_) (0) (Nat.zero_le _)
  intro m hk l5 l6
  have hm : xNT ≤ xN m := by rw [hk.m]; exact hM
  have hw : xWire m.2.1 := by rw [hk.w]; exact hW
  have hcm : m.2.1 1 10 = s := by rw [hk.w]; exact hcu
  refine px_iload dX10_best_20 rfl ?_
  refine px_iconst dX10_best_22 ic_4 ?_
  refine px_icmp_ge 115 dX10_best_23 rfl (fun h23 => ?_) (fun h23 => ?_)
  · have hi2 : i = 4 := by rw [show (4 : Int32) = nI 4 from rfl, nI_leI (by omega) (by omega)] at h23; omega
    subst hi2
    refine px_aload_n dX10_best_115 rfl rfl ?_
    refine px_iload_n dX10_best_116 rfl rfl ?_
    refine px_putI dX10_best_117 fX10_75 p10_11 (xol rfl) hm rfl ?_
    refine px_iload_n dX10_best_120 rfl rfl ?_
    exact px_iret dX10_best_121 rfl (by rw [show aBst n (aA B g) (aD B g) (fun r o => allG r o n W H (aA B g) (aD B g) (aT g)) = (bW (bsG (fun r o => scN n (aA B g) (aD B g) (allG r o n W H (aA B g) (aD B g) (aT g))) 12), some (bV (fun r o => pgL (allG r o n W H (aA B g) (aD B g) (aT g)) 8) (bsG (fun r o => scN n (aA B g) (aD B g) (allG r o n W H (aA B g) (aD B g) (aT g))) 12)), none) from by unfold aBst; rw [if_neg hn0]]; exact ⟨rfl, hk.wI _ _ _⟩) (hk.m)
  · have hlt : i < 4 := by rw [show (4 : Int32) = nI 4 from rfl, nI_leI (by omega) (by omega)] at h23; omega
    refine px_iconst dX10_best_26 ic_0 ?_
    refine px_si_5 dX10_best_27 rfl ?_
    exact l_X10_best2 hc0 hn0 hlt (nx hlt) m hk _

set_option maxRecDepth 100000 in
theorem c_X10_best {E : xE} {M : xMem} {s n W H B dd : Nat} {g : Nat → Nat → Nat} {S : gLay × Nat} {P : Nat → gLay × Nat} (hc : cHy M s n W H B g dd S P) : Ct E mX10_best [.ref 1] M (xN M) (fun r m => r = some (.int (aBst n (aA B g) (aD B g) (fun r o => allG r o n W H (aA B g) (aD B g) (aT g))).1) ∧ cS (oC M (aBst n (aA B g) (aD B g) (fun r o => allG r o n W H (aA B g) (aD B g) (aT g))).2.1 (aBst n (aA B g) (aD B g) (fun r o => allG r o n W H (aA B g) (aD B g) (aT g))).2.2) m) := by
  have hc0 := hc
  obtain ⟨hM, hW, hs, hcu, hsh, hok, hst, hly, hru⟩ := hc
  have hp0 : 0 < s := hs.1
  have h8 : n ≤ 8 := hok.1
  have hb : lyB S.1 := (hsh.s hok).b hly
  have hl : lyC (M.1 8) S.1 := hst.2.2.1
  have hpg := pgL_le hb 8
  have hsC := hsh.s hok
  have hsT := hsh.t hok
  have h7 := xob_7 hs
  refine Ct.of (lo := [some (.ref 1), none, none, none, none, none, none]) pln_X10 (Nat.le_of_ble_eq_true rfl) rfl (Nat.le_refl _) ?_
  refine px_aload_n dX10_best_0 rfl rfl ?_
  refine px_fV0i dX10_best_1 kX10_best_141 (xol rfl) hM (Nat.le_of_ble_eq_true rfl) (c_X10_hasNoSheet hM hs hcu hp0) ?_
  refine px_top (y := zb (n = 0)) (by rw [hsh.1]; exact no_c h8) ?_
  refine px_zif_eq 10 dX10_best_4 rfl (fun h4 => ?_) (fun h4 => ?_)
  · refine px_iconst dX10_best_10 ic_0 ?_
    refine px_si_1 dX10_best_11 rfl ?_
    refine px_iconst dX10_best_12 ic_0 ?_
    refine px_si_2 dX10_best_13 rfl ?_
    refine px_bipush dX10_best_14 bp_m9 ?_
    refine px_si_3 dX10_best_16 rfl ?_
    refine px_iconst dX10_best_17 ic_0 ?_
    refine px_si_4 dX10_best_18 rfl ?_
    exact l_X10_best1 hc0 h4 M (cS.rf M) _ _
  · refine px_bipush dX10_best_7 bp_m4 ?_
    exact px_iret dX10_best_9 rfl (by rw [show aBst n (aA B g) (aD B g) (fun r o => allG r o n W H (aA B g) (aD B g) (aT g)) = (-4, none, none) from if_pos h4]; exact ⟨rfl, cS.rf M⟩) (rfl)
