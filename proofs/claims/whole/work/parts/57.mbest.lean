/-! ===== would, best of the reference ===== -/
theorem wI_2 (M : xMem) (a j : Nat) (v w : Int32) : wI (wI M a j v) a j w = wI M a j w := by
  refine Prod.ext ?_ rfl
  funext b k
  show (if b = a ∧ k = j then w else if b = a ∧ k = j then v else M.1 b k) = if b = a ∧ k = j then w else M.1 b k
  by_cases h : b = a ∧ k = j
  · rw [if_pos h, if_pos h]
  · rw [if_neg h, if_neg h, if_neg h]
theorem lexR {a1 a2 a3 b1 b2 b3 : Nat} (h1 : a1 ≤ 8) (h2 : a2 ≤ 8) (h3 : a3 ≤ 256) (g1 : b1 ≤ 8) (g2 : b2 ≤ 8) (g3 : b3 ≤ 256) : 0 ≤ (if (if nI a1 - nI b1 = 0 then nI a2 - nI b2 else nI a1 - nI b1) = 0 then nI a3 - nI b3 else (if nI a1 - nI b1 = 0 then nI a2 - nI b2 else nI a1 - nI b1)) ↔ ¬ (a1 * 9 + a2) * 257 + a3 < (b1 * 9 + b2) * 257 + b3 := by
  by_cases e1 : a1 = b1
  · rw [if_pos ((nI_s0 (by omega) (by omega)).mpr e1)]
    by_cases e2 : a2 = b2
    · rw [if_pos ((nI_s0 (by omega) (by omega)).mpr e2), nI_sn (by omega) (by omega)]; omega
    · rw [if_neg (fun z => e2 ((nI_s0 (by omega) (by omega)).mp z)), nI_sn (by omega) (by omega)]; omega
  · rw [if_neg (fun z => e1 ((nI_s0 (by omega) (by omega)).mp z)), if_neg (fun z => e1 ((nI_s0 (by omega) (by omega)).mp z)), nI_sn (by omega) (by omega)]; omega

set_option maxRecDepth 100000 in
theorem l_tries119 {E : xE} {M : xMem} {l1 : Option Value} {w2 : Int32} {ne : Nat} (hM : xNT ≤ xN M) (hW : xWire M.2.1) (hn : xN M = ne) : PR E mX11_tries (ne) 119 [some (.ref 74), l1, some (.int w2), some (.int (nI 0))] [] (mcpM M 83 0 (M.1 93) 0) (fun r m => r = none ∧ m = mcpM M 83 0 (M.1 93) 33) := by
  refine px_for (P := fun i => PR E mX11_tries (ne) 119 [some (.ref 74), l1, some (.int w2), some (.int (nI i))] [] (mcpM M 83 0 (M.1 93) i) (fun r m => r = none ∧ m = mcpM M 83 0 (M.1 93) 33)) (33) (fun i hi nx => ?_) (0) (Nat.zero_le _)
  refine px_iload_n dX11_tries_119 rfl rfl ?_
  refine px_bipush dX11_tries_120 bp_33 ?_
  refine px_icmp_ge 143 dX11_tries_122 rfl (fun h122 => ?_) (fun h122 => ?_)
  · have hi2 : i = 33 := by rw [show (33 : Int32) = nI 33 from rfl, nI_leI (by omega) (by omega)] at h122; omega
    subst hi2
    exact px_ret dX11_tries_143 rfl ⟨rfl, rfl⟩ (hn)
  · have hlt : i < 33 := by rw [show (33 : Int32) = nI 33 from rfl, nI_leI (by omega) (by omega)] at h122; omega
    refine px_aload_n dX11_tries_125 rfl rfl ?_
    refine px_getR dX11_tries_126 fX11_35 (xol rfl) hM rfl (wr_11_23 hW (xol rfl)) (Nat.succ_pos _) ?_
    refine px_iload_n dX11_tries_129 rfl rfl ?_
    refine px_aload_n dX11_tries_130 rfl rfl ?_
    refine px_getR dX11_tries_131 fX11_65 (xol rfl) hM rfl (wr_11_40 hW (xol rfl)) (Nat.succ_pos _) ?_
    refine px_iload_n dX11_tries_134 rfl rfl ?_
    refine px_iald dX11_tries_135 (xal (n := 33) rfl) hM (vp_in_nI (by omega) (by decide)) ?_
    refine px_top (y := M.1 93 i) (by rw [nI_clamp (by omega)]; rfl) ?_
    refine px_iast dX11_tries_136 (xal (n := 33) rfl) hM (vp_in_nI (by omega) (by decide)) ?_
    refine px_inc_3 dX11_tries_137 rfl ic_1 ?_
    refine px_goto 119 dX11_tries_140 rfl ?_
    exact px_eq (by rw [nI_1]) (by rw [nI_clamp (by omega)]; have e := mcp_s M 83 0 (M.1 93) i; rw [Nat.zero_add] at e; exact e) (nx hlt)

set_option maxRecDepth 100000 in
theorem l_tries54 {E : xE} {M : xMem} {n W H : Nat} {A D : Nat → Nat} {lay : gLay} {l1 : Option Value} {w2 : Int32} {ne : Nat} (hM : xNT ≤ xN M) (hW : xWire M.2.1) (hn : xN M = ne) (hs : shM M n W H A D) (hl : lyM (M.1 83) lay) (ho : lyOK n W H A D lay) (h41 : M.1 74 41 = nI (pgL lay 8)) : PR E mX11_tries (ne) 54 [some (.ref 74), l1, some (.int w2), some (.int (nI 0))] [] (wI M 74 42 (msI lay 0)) (fun r m => r = none ∧ m = mcpM (wI (wI M 74 42 (msI lay n)) 74 43 (nI (lsN A D lay n))) 83 0 (M.1 93) 33) := by
  have h8 : n ≤ 8 := hs.2.2.2.1
  have hb : lyB lay := hs.b ho
  have hpg := pgL_le hb 8
  refine px_for (P := fun i => PR E mX11_tries (ne) 54 [some (.ref 74), l1, some (.int w2), some (.int (nI i))] [] (wI M 74 42 (msI lay i)) (fun r m => r = none ∧ m = mcpM (wI (wI M 74 42 (msI lay n)) 74 43 (nI (lsN A D lay n))) 83 0 (M.1 93) 33)) (n) (fun i hi nx => ?_) (0) (Nat.zero_le _)
  refine px_iload_n dX11_tries_54 rfl rfl ?_
  refine px_aload_n dX11_tries_55 rfl rfl ?_
  refine px_getI dX11_tries_56 fX11_179 (xol rfl) hM rfl ?_
  refine px_top (y := nI n) hs.1 ?_
  refine px_icmp_ge 92 dX11_tries_59 rfl (fun h59 => ?_) (fun h59 => ?_)
  · have hi2 : i = n := by rw [nI_leI (by omega) (by omega)] at h59; omega
    subst hi2
    have hs2 : shM (wI M 74 42 (msI lay i)) i W H A D := shM_keep hs rfl (fun k k1 k2 => by rw [xI_wI, if_neg (fun z => by omega)])
    refine px_aload_n dX11_tries_92 rfl rfl ?_
    refine px_aload_n dX11_tries_93 rfl rfl ?_
    refine px_getI dX11_tries_94 fX11_317 (xol rfl) hM rfl ?_
    refine px_top (y := nI (pgL lay 8)) h41 ?_
    refine px_if_ne 104 dX11_tries_97 rfl (fun h97 => ?_) (fun h97 => ?_)
    · refine px_aload_n dX11_tries_104 rfl rfl ?_
      refine px_aload_n dX11_tries_105 rfl rfl ?_
      refine px_getI dX11_tries_106 fX11_317 (xol rfl) hM rfl ?_
      refine px_top (y := nI (pgL lay 8)) h41 ?_
      refine px_iconst dX11_tries_109 ic_1 ?_
      refine px_isub dX11_tries_110 ?_
      refine px_fV1i dX11_tries_111 kX11_tries_314 (xol rfl) hM (Nat.le_of_ble_eq_true rfl) (c_X11_takenOf (N := i) hM hW h8 hs2.1) ?_
      refine px_top (y := nI (lsN A D lay i)) (by first | (rw [ls_0 hb (nI_is (show (0 : Int32) = nI 0 from rfl) (by omega) (by decide) h97)]; done) | (rw [ls_0 hb (nI_is (show (0 : Int32) = nI 0 from rfl) (by omega) (by decide) h97)]; rfl) | (obtain ⟨p, ep⟩ : ∃ p, pgL lay 8 = p + 1 := ⟨pgL lay 8 - 1, by have : ¬ pgL lay 8 = 0 := fun z => h97 (by rw [z]; rfl); omega⟩; rw [ls_p ep, ep, nI_pred]; exact tkF_N (by omega) hs2 hl i (Nat.le_refl _))) ?_
      refine px_putI dX11_tries_114 fX11_323 p11_43 (xol rfl) hM rfl ?_
      refine px_iconst dX11_tries_117 ic_0 ?_
      refine px_si_3 dX11_tries_118 rfl ?_
      have k := l_tries119 (E := E) (M := wI (wI M 74 42 (msI lay i)) 74 43 (nI (lsN A D lay i))) (l1 := l1) (w2 := w2) (ne := ne) hM hW hn
      rw [mcp_0] at k
      exact k
    · refine px_iconst dX11_tries_100 ic_0 ?_
      refine px_goto 114 dX11_tries_101 rfl ?_
      refine px_top (y := nI (lsN A D lay i)) (by first | (rw [ls_0 hb (nI_is (show (0 : Int32) = nI 0 from rfl) (by omega) (by decide) h97)]; done) | (rw [ls_0 hb (nI_is (show (0 : Int32) = nI 0 from rfl) (by omega) (by decide) h97)]; rfl) | (obtain ⟨p, ep⟩ : ∃ p, pgL lay 8 = p + 1 := ⟨pgL lay 8 - 1, by have : ¬ pgL lay 8 = 0 := fun z => h97 (by rw [z]; rfl); omega⟩; rw [ls_p ep, ep, nI_pred]; exact tkF_N (by omega) hs2 hl i (Nat.le_refl _))) ?_
      refine px_putI dX11_tries_114 fX11_323 p11_43 (xol rfl) hM rfl ?_
      refine px_iconst dX11_tries_117 ic_0 ?_
      refine px_si_3 dX11_tries_118 rfl ?_
      have k := l_tries119 (E := E) (M := wI (wI M 74 42 (msI lay i)) 74 43 (nI (lsN A D lay i))) (l1 := l1) (w2 := w2) (ne := ne) hM hW hn
      rw [mcp_0] at k
      exact k
  · have hlt : i < n := by rw [nI_leI (by omega) (by omega)] at h59; omega
    refine px_aload_n dX11_tries_62 rfl rfl ?_
    first | refine px_dupi dX11_tries_63 ?_ | refine px_dupa dX11_tries_63 ?_
    refine px_getI dX11_tries_64 fX11_320 (xol rfl) hM rfl ?_
    refine px_top (y := msI lay i) (wI_self _ _ _ _) ?_
    refine px_aload_n dX11_tries_67 rfl rfl ?_
    refine px_iload_n dX11_tries_68 rfl rfl ?_
    refine px_fV1i dX11_tries_69 kX11_tries_232 (xol rfl) hM (Nat.le_of_ble_eq_true rfl) (c_X11_isSet (by omega) hM hW) ?_
    refine px_top (y := zb (¬ lay i = none)) (lyM_is hl hb (by omega)) ?_
    refine px_zif_eq 79 dX11_tries_72 rfl (fun h72 => ?_) (fun h72 => ?_)
    · refine px_iconst dX11_tries_79 ic_1 ?_
      refine px_iload_n dX11_tries_80 rfl rfl ?_
      refine px_ishl dX11_tries_81 ?_
      refine px_ior dX11_tries_82 ?_
      refine px_top (y := msI lay (i + 1)) (by first | rw [msI_s h72, Int32.or_zero] | rw [msI_n (Classical.byContradiction h72)]) ?_
      refine px_putI dX11_tries_83 fX11_320 p11_42 (xol rfl) hM rfl ?_
      refine px_inc_3 dX11_tries_86 rfl ic_1 ?_
      refine px_goto 54 dX11_tries_89 rfl ?_
      exact px_eq (by rw [nI_1]) (wI_2 _ _ _ _ _) (nx hlt)
    · refine px_iconst dX11_tries_75 ic_0 ?_
      refine px_goto 82 dX11_tries_76 rfl ?_
      refine px_ior dX11_tries_82 ?_
      refine px_top (y := msI lay (i + 1)) (by first | rw [msI_s h72, Int32.or_zero] | rw [msI_n (Classical.byContradiction h72)]) ?_
      refine px_putI dX11_tries_83 fX11_320 p11_42 (xol rfl) hM rfl ?_
      refine px_inc_3 dX11_tries_86 rfl ic_1 ?_
      refine px_goto 54 dX11_tries_89 rfl ?_
      exact px_eq (by rw [nI_1]) (wI_2 _ _ _ _ _) (nx hlt)

set_option maxRecDepth 100000 in
theorem l_tries2 {E : xE} {M : xMem} {n W H B ri od : Nat} {g : Nat → Nat → Nat} (hM : xNT ≤ xN M) (hW : xWire M.2.1) (hsh : mSh M n W H B g) (hok : okSh n W H B g) (hri : ri < 4) (hod : od < 3) : PR E mX11_tries (xN M) 2 [some (.ref 74), some (.int (nI ri)), some (.int (nI od)), some (.int (nI 0))] [] (mcpM M 93 0 (M.1 83) 0) (fun r m => r = none ∧ rX M m ∧ m.1 74 41 = nI (pgL (allG ri od n W H (aA B g) (aD B g) (aT g)) 8) ∧ m.1 74 42 = msI (allG ri od n W H (aA B g) (aD B g) (aT g)) n ∧ m.1 74 43 = nI (lsN (aA B g) (aD B g) (allG ri od n W H (aA B g) (aD B g) (aT g)) n)) := by
  have h8 : n ≤ 8 := hok.1
  have hsM := hsh.s hok
  have hsU := hsh.u hok
  have hly2 : lyOK n W H (aA B g) (aD B g) (allG ri od n W H (aA B g) (aD B g) (aT g)) := allG_ok (fun f hf => (hsU f hf).1) hok.2.1 hok.2.2.1
  have hb2 := hsM.b hly2
  refine px_for (P := fun i => PR E mX11_tries (xN M) 2 [some (.ref 74), some (.int (nI ri)), some (.int (nI od)), some (.int (nI i))] [] (mcpM M 93 0 (M.1 83) i) (fun r m => r = none ∧ rX M m ∧ m.1 74 41 = nI (pgL (allG ri od n W H (aA B g) (aD B g) (aT g)) 8) ∧ m.1 74 42 = msI (allG ri od n W H (aA B g) (aD B g) (aT g)) n ∧ m.1 74 43 = nI (lsN (aA B g) (aD B g) (allG ri od n W H (aA B g) (aD B g) (aT g)) n))) (33) (fun i hi nx => ?_) (0) (Nat.zero_le _)
  refine px_iload_n dX11_tries_2 rfl rfl ?_
  refine px_bipush dX11_tries_3 bp_33 ?_
  refine px_icmp_ge 26 dX11_tries_5 rfl (fun h5 => ?_) (fun h5 => ?_)
  · have hi2 : i = 33 := by rw [show (33 : Int32) = nI 33 from rfl, nI_leI (by omega) (by omega)] at h5; omega
    subst hi2
    refine px_aload_n dX11_tries_26 rfl rfl ?_
    refine px_getR dX11_tries_27 fX11_35 (xol rfl) hM rfl (wr_11_23 hW (xol rfl)) (Nat.succ_pos _) ?_
    refine px_bipush dX11_tries_30 bp_32 ?_
    refine px_iload_n dX11_tries_32 rfl rfl ?_
    refine px_iast dX11_tries_33 (xal (n := 33) rfl) hM (vp_in_nI (n := 32) (by decide) (by decide)) ?_
    have hsh2 : mSh (wI (mcpM M 93 0 (M.1 83) 33) 83 32 (nI ri)) n W H B g := mSh_k hsh rfl (fun k k1 k2 => rfl)
    refine px_aload_n dX11_tries_34 rfl rfl ?_
    refine px_iload_n dX11_tries_35 rfl rfl ?_
    refine px_gV1 dX11_tries_36 kX11_tries_299 (xol rfl) hM (Nat.le_of_ble_eq_true rfl) (c_X11_setsAll (M := wI (mcpM M 93 0 (M.1 83) 33) 83 32 (nI ri)) (T := aT g) hM hW (hsh2.s hok) (hsh2.u hok) (wI_self _ _ _ _) hri hod) (fun r36 M36 hq36 hn36 => ?_)
    obtain ⟨rfl, q1, q2⟩ := hq36
    have hm : xNT ≤ xN M36 := by rw [hn36]; exact hM
    have hw : xWire M36.2.1 := by rw [q1.w]; exact hW
    refine px_aload_n dX11_tries_39 rfl rfl ?_
    refine px_aload_n dX11_tries_40 rfl rfl ?_
    refine px_fV0i dX11_tries_41 kX11_tries_270 (xol rfl) hm (Nat.le_of_ble_eq_true rfl) (c_X11_pageMany (N := n) hm hw h8 ((q1.2.2.1 11 (by decide) (by decide)).trans hsh2.1)) ?_
    refine px_top (y := nI (pgL (allG ri od n W H (aA B g) (aD B g) (aT g)) 8)) (by rw [pgF_L q2 hb2 n h8, (L_more hly2.1 8 h8).1]) ?_
    refine px_putI dX11_tries_44 fX11_317 p11_41 (xol rfl) hm rfl ?_
    refine px_aload_n dX11_tries_47 rfl rfl ?_
    refine px_iconst dX11_tries_48 ic_0 ?_
    refine px_putI dX11_tries_49 fX11_320 p11_42 (xol rfl) hm rfl ?_
    refine px_iconst dX11_tries_52 ic_0 ?_
    refine px_si_3 dX11_tries_53 rfl ?_
    refine px_q ?_ (l_tries54 (M := wI M36 74 41 (nI (pgL (allG ri od n W H (aA B g) (aD B g) (aT g)) 8))) (l1 := some (.int (nI ri))) (w2 := nI od) (ne := xN M) (lay := allG ri od n W H (aA B g) (aD B g) (aT g)) hm hw hn36 (shM_keep (q1.sh (hsh2.s hok)) rfl (fun k k1 k2 => by rw [xI_wI, if_neg (fun z => by omega)])) q2 hly2 (wI_self _ _ _ _))
    rintro r m ⟨rfl, rfl⟩
    refine ⟨rfl, ⟨?_, fun a a1 a2 a3 a4 => ?_, fun k k1 k2 k3 => ?_, fun k hk => ?_⟩, rfl, rfl, rfl⟩
    · show M36.2 = M.2
      rw [q1.1]; rfl
    · rw [mcp_at _ _ _ _ _ a2]
      have e1 : (wI (wI (wI M36 74 41 (nI (pgL (allG ri od n W H (aA B g) (aD B g) (aT g)) 8))) 74 42 (msI (allG ri od n W H (aA B g) (aD B g) (aT g)) n)) 74 43 (nI (lsN (aA B g) (aD B g) (allG ri od n W H (aA B g) (aD B g) (aT g)) n))).1 a = M36.1 a := by funext k; rw [xI_wI, if_neg (fun z => a1 z.1), xI_wI, if_neg (fun z => a1 z.1), xI_wI, if_neg (fun z => a1 z.1)]
      rw [e1, q1.2.1 a a1 a2 (by omega) (by omega) (by omega) (by omega) (by omega)]
      have e2 : (wI (mcpM M 93 0 (M.1 83) 33) 83 32 (nI ri)).1 a = (mcpM M 93 0 (M.1 83) 33).1 a := by funext k; rw [xI_wI, if_neg (fun z => a2 z.1)]
      rw [e2, mcp_at _ _ _ _ _ a4]
    · rw [mcp_at _ _ _ _ _ (by decide), xI_wI, if_neg (fun z => by omega), xI_wI, if_neg (fun z => by omega), xI_wI, if_neg (fun z => by omega), q1.2.2.1 k k1 k2]
      rfl
    · have e1 := mcp_self (wI (wI (wI M36 74 41 (nI (pgL (allG ri od n W H (aA B g) (aD B g) (aT g)) 8))) 74 42 (msI (allG ri od n W H (aA B g) (aD B g) (aT g)) n)) 74 43 (nI (lsN (aA B g) (aD B g) (allG ri od n W H (aA B g) (aD B g) (aT g)) n))) 83 0 ((wI M36 74 41 (nI (pgL (allG ri od n W H (aA B g) (aD B g) (aT g)) 8))).1 93) hk
      have e2 := mcp_self M 93 0 (M.1 83) hk
      rw [Nat.zero_add] at e1 e2
      refine e1.trans ?_
      show M36.1 93 k = M.1 83 k
      rw [q1.2.1 93 (by decide) (by decide) (by decide) (by decide) (by decide) (by decide) (by decide)]
      exact e2
  · have hlt : i < 33 := by rw [show (33 : Int32) = nI 33 from rfl, nI_leI (by omega) (by omega)] at h5; omega
    refine px_aload_n dX11_tries_8 rfl rfl ?_
    refine px_getR dX11_tries_9 fX11_65 (xol rfl) hM rfl (wr_11_40 hW (xol rfl)) (Nat.succ_pos _) ?_
    refine px_iload_n dX11_tries_12 rfl rfl ?_
    refine px_aload_n dX11_tries_13 rfl rfl ?_
    refine px_getR dX11_tries_14 fX11_35 (xol rfl) hM rfl (wr_11_23 hW (xol rfl)) (Nat.succ_pos _) ?_
    refine px_iload_n dX11_tries_17 rfl rfl ?_
    refine px_iald dX11_tries_18 (xal (n := 33) rfl) hM (vp_in_nI (by omega) (by decide)) ?_
    refine px_top (y := M.1 83 i) (by rw [nI_clamp (by omega)]; rfl) ?_
    refine px_iast dX11_tries_19 (xal (n := 33) rfl) hM (vp_in_nI (by omega) (by decide)) ?_
    refine px_inc_3 dX11_tries_20 rfl ic_1 ?_
    refine px_goto 2 dX11_tries_23 rfl ?_
    exact px_eq (by rw [nI_1]) (by rw [nI_clamp (by omega)]; have e := mcp_s M 93 0 (M.1 83) i; rw [Nat.zero_add] at e; exact e) (nx hlt)

set_option maxRecDepth 100000 in
theorem c_X11_tries {E : xE} {M : xMem} {n W H B ri od : Nat} {g : Nat → Nat → Nat} (hM : xNT ≤ xN M) (hW : xWire M.2.1) (hsh : mSh M n W H B g) (hok : okSh n W H B g) (hri : ri < 4) (hod : od < 3) : Ct E mX11_tries [.ref 74, .int (nI ri), .int (nI od)] M (xN M) (fun r m => r = none ∧ rX M m ∧ m.1 74 41 = nI (pgL (allG ri od n W H (aA B g) (aD B g) (aT g)) 8) ∧ m.1 74 42 = msI (allG ri od n W H (aA B g) (aD B g) (aT g)) n ∧ m.1 74 43 = nI (lsN (aA B g) (aD B g) (allG ri od n W H (aA B g) (aD B g) (aT g)) n)) := by
  refine Ct.of (lo := [some (.ref 74), some (.int (nI ri)), some (.int (nI od)), none]) pln_X11 (Nat.le_of_ble_eq_true rfl) rfl (Nat.le_refl _) ?_
  refine px_iconst dX11_tries_0 ic_0 ?_
  refine px_si_3 dX11_tries_1 rfl ?_
  have k := l_tries2 (E := E) hM hW hsh hok hri hod
  rw [mcp_0] at k
  exact k

set_option maxRecDepth 100000 in
theorem c_X11_would {E : xE} {M : xMem} {n W H B dd : Nat} {g : Nat → Nat → Nat} {S : gLay × Nat} {P : Nat → gLay × Nat} (hc : rHy M n W H B g dd S P) {v w : Int32} : Ct E mX11_would [.ref 74, .int v, .int w] M (xN M) (fun r m => r = some (.int (aWou n W H (aA B g) (aD B g) (aT g) v w).1) ∧ rX (oR M (aWou n W H (aA B g) (aD B g) (aT g) v w).2.1 (aWou n W H (aA B g) (aD B g) (aT g) v w).2.2) m) := by
  obtain ⟨hM, hW, hsh, hok, hst, hly, hru⟩ := hc
  have h8 : n ≤ 8 := hok.1
  have hb : lyB S.1 := (hsh.s hok).b hly
  have hl : lyM (M.1 83) S.1 := lyM_c hst.2.2.1.1 (fun k _ => by rw [Nat.zero_add])
  have hpg := pgL_le hb 8
  have hsM := hsh.s hok
  have hsU := hsh.u hok
  refine Ct.of (lo := [some (.ref 74), some (.int v), some (.int w)]) pln_X11 (Nat.le_of_ble_eq_true rfl) rfl (Nat.le_refl _) ?_
  refine px_iload_n dX11_would_0 rfl rfl ?_
  refine px_iconst dX11_would_1 ic_0 ?_
  refine px_iconst dX11_would_2 ic_3 ?_
  refine px_fS3i dX11_would_3 kX11_would_75 (Nat.le_of_ble_eq_true rfl) (c_X11_in) ?_
  refine px_top (y := zb (0 ≤ v ∧ v < 4)) in_c3 ?_
  refine px_zif_eq 25 dX11_would_6 rfl (fun h6 => ?_) (fun h6 => ?_)
  · refine px_iconst dX11_would_25 ic_m1 ?_
    exact px_iret dX11_would_26 rfl (by rw [show aWou n W H (aA B g) (aD B g) (aT g) v w = aBad from by simp only [aWou, ← n0_i h8, h6, not_true_eq_false, not_false_eq_true, if_true, if_false, and_self, true_and, and_true, ite_true, ite_false, reduceIte, eq_self, ite_self]]; exact ⟨rfl, rX.rf M⟩) (by first | rfl | exact hn30)
  · refine px_iload_n dX11_would_9 rfl rfl ?_
    refine px_iconst dX11_would_10 ic_0 ?_
    refine px_iconst dX11_would_11 ic_2 ?_
    refine px_fS3i dX11_would_12 kX11_would_75 (Nat.le_of_ble_eq_true rfl) (c_X11_in) ?_
    refine px_top (y := zb (0 ≤ w ∧ w < 3)) in_c2 ?_
    refine px_zif_eq 25 dX11_would_15 rfl (fun h15 => ?_) (fun h15 => ?_)
    · refine px_iconst dX11_would_25 ic_m1 ?_
      exact px_iret dX11_would_26 rfl (by rw [show aWou n W H (aA B g) (aD B g) (aT g) v w = aBad from by simp only [aWou, ← n0_i h8, h6, h15, not_true_eq_false, not_false_eq_true, if_true, if_false, and_self, true_and, and_true, ite_true, ite_false, reduceIte, eq_self, ite_self]]; exact ⟨rfl, rX.rf M⟩) (by first | rfl | exact hn30)
    · refine px_aload_n dX11_would_18 rfl rfl ?_
      refine px_getI dX11_would_19 fX11_179 (xol rfl) hM rfl ?_
      refine px_top (y := nI n) hsh.1 ?_
      refine px_if_ne 27 dX11_would_22 rfl (fun h22 => ?_) (fun h22 => ?_)
      · obtain ⟨ri, hri, rfl⟩ := in_nat (n := 4) (by decide) (show 0 ≤ v ∧ v < nI 4 from h6)
        obtain ⟨od, hod, rfl⟩ := in_nat (n := 3) (by decide) (show 0 ≤ w ∧ w < nI 3 from h15)
        have hnr : (nI ri).toNatClampNeg = ri := nI_clamp (by omega)
        have hno : (nI od).toNatClampNeg = od := nI_clamp (by omega)
        refine px_aload_n dX11_would_27 rfl rfl ?_
        refine px_iload_n dX11_would_28 rfl rfl ?_
        refine px_iload_n dX11_would_29 rfl rfl ?_
        refine px_gV2 dX11_would_30 kX11_would_326 (xol rfl) hM (Nat.le_of_ble_eq_true rfl) (c_X11_tries hM hW hsh hok hri hod) (fun r30 M30 hq30 hn30 => ?_)
        obtain ⟨rfl, q1, q2, q3, q4⟩ := hq30
        have hm : xNT ≤ xN M30 := by rw [hn30]; exact hM
        refine px_aload_n dX11_would_33 rfl rfl ?_
        refine px_aload_n dX11_would_34 rfl rfl ?_
        refine px_getI dX11_would_35 fX11_320 (xol rfl) hm rfl ?_
        refine px_top (y := msI (allG ri od n W H (aA B g) (aD B g) (aT g)) n) q3 ?_
        refine px_aload_n dX11_would_38 rfl rfl ?_
        refine px_getI dX11_would_39 fX11_317 (xol rfl) hm rfl ?_
        refine px_top (y := nI (pgL (allG ri od n W H (aA B g) (aD B g) (aT g)) 8)) q2 ?_
        refine px_fV2i dX11_would_42 kX11_would_91 (xol rfl) hm (Nat.le_of_ble_eq_true rfl) (c_X11_tells hm) ?_
        exact px_iret dX11_would_45 rfl (by rw [show aWou n W H (aA B g) (aD B g) (aT g) (nI ri) (nI od) = (nI (pgL (allG ri od n W H (aA B g) (aD B g) (aT g)) 8), some (msI (allG ri od n W H (aA B g) (aD B g) (aT g)) n), none) from by simp only [aWou, ← n0_i h8, h6, h15, h22, hnr, hno, not_true_eq_false, not_false_eq_true, if_true, if_false, and_self, true_and, and_true, ite_true, ite_false, reduceIte, eq_self]]; exact ⟨rfl, q1.wI _⟩) (by first | rfl | exact hn30)
      · refine px_iconst dX11_would_25 ic_m1 ?_
        exact px_iret dX11_would_26 rfl (by rw [show aWou n W H (aA B g) (aD B g) (aT g) v w = aBad from by simp only [aWou, ← n0_i h8, h6, h15, h22, not_true_eq_false, not_false_eq_true, if_true, if_false, and_self, true_and, and_true, ite_true, ite_false, reduceIte, eq_self, ite_self]]; exact ⟨rfl, rX.rf M⟩) (by first | rfl | exact hn30)

set_option maxRecDepth 100000 in
theorem l_X11_best2 {E : xE} {M : xMem} {n W H B dd : Nat} {g : Nat → Nat → Nat} {S : gLay × Nat} {P : Nat → gLay × Nat} (hc : rHy M n W H B g dd S P) (hn0 : ¬ n = 0) {ii : Nat} (hii : ii < 4) (kk : ∀ m, rX M m → ∀ l6 l7, PR E mX11_best (xN M) 23 [some (.ref 74), some (.int (bW (bsG (fun r o => scN n (aA B g) (aD B g) (allG r o n W H (aA B g) (aD B g) (aT g))) (3 * (ii + 1) + 0)))), some (.int (bV (fun r o => n - stL (allG r o n W H (aA B g) (aD B g) (aT g)) 8) (bsG (fun r o => scN n (aA B g) (aD B g) (allG r o n W H (aA B g) (aD B g) (aT g))) (3 * (ii + 1) + 0)))), some (.int (bV (fun r o => pgL (allG r o n W H (aA B g) (aD B g) (aT g)) 8) (bsG (fun r o => scN n (aA B g) (aD B g) (allG r o n W H (aA B g) (aD B g) (aT g))) (3 * (ii + 1) + 0)))), some (.int (bV (fun r o => lsN (aA B g) (aD B g) (allG r o n W H (aA B g) (aD B g) (aT g)) n) (bsG (fun r o => scN n (aA B g) (aD B g) (allG r o n W H (aA B g) (aD B g) (aT g))) (3 * (ii + 1) + 0)))), some (.int (nI (ii + 1))), l6, l7] [] m (fun r m => r = some (.int (aBst n (aA B g) (aD B g) (fun r o => allG r o n W H (aA B g) (aD B g) (aT g))).1) ∧ rX (oR M (aBst n (aA B g) (aD B g) (fun r o => allG r o n W H (aA B g) (aD B g) (aT g))).2.1 (aBst n (aA B g) (aD B g) (fun r o => allG r o n W H (aA B g) (aD B g) (aT g))).2.2) m)) : ∀ m, rX M m → ∀ l7, PR E mX11_best (xN M) 32 [some (.ref 74), some (.int (bW (bsG (fun r o => scN n (aA B g) (aD B g) (allG r o n W H (aA B g) (aD B g) (aT g))) (3 * ii + 0)))), some (.int (bV (fun r o => n - stL (allG r o n W H (aA B g) (aD B g) (aT g)) 8) (bsG (fun r o => scN n (aA B g) (aD B g) (allG r o n W H (aA B g) (aD B g) (aT g))) (3 * ii + 0)))), some (.int (bV (fun r o => pgL (allG r o n W H (aA B g) (aD B g) (aT g)) 8) (bsG (fun r o => scN n (aA B g) (aD B g) (allG r o n W H (aA B g) (aD B g) (aT g))) (3 * ii + 0)))), some (.int (bV (fun r o => lsN (aA B g) (aD B g) (allG r o n W H (aA B g) (aD B g) (aT g)) n) (bsG (fun r o => scN n (aA B g) (aD B g) (allG r o n W H (aA B g) (aD B g) (aT g))) (3 * ii + 0)))), some (.int (nI ii)), some (.int (nI 0)), l7] [] (m) (fun r m => r = some (.int (aBst n (aA B g) (aD B g) (fun r o => allG r o n W H (aA B g) (aD B g) (aT g))).1) ∧ rX (oR M (aBst n (aA B g) (aD B g) (fun r o => allG r o n W H (aA B g) (aD B g) (aT g))).2.1 (aBst n (aA B g) (aD B g) (fun r o => allG r o n W H (aA B g) (aD B g) (aT g))).2.2) m) := by
  obtain ⟨hM, hW, hsh, hok, hst, hly, hru⟩ := hc
  have h8 : n ≤ 8 := hok.1
  have hb : lyB S.1 := (hsh.s hok).b hly
  have hl : lyM (M.1 83) S.1 := lyM_c hst.2.2.1.1 (fun k _ => by rw [Nat.zero_add])
  have hpg := pgL_le hb 8
  have hsM := hsh.s hok
  have hsU := hsh.u hok
  refine px_for (P := fun i => ∀ m, rX M m → ∀ l7, PR E mX11_best (xN M) 32 [some (.ref 74), some (.int (bW (bsG (fun r o => scN n (aA B g) (aD B g) (allG r o n W H (aA B g) (aD B g) (aT g))) (3 * ii + i)))), some (.int (bV (fun r o => n - stL (allG r o n W H (aA B g) (aD B g) (aT g)) 8) (bsG (fun r o => scN n (aA B g) (aD B g) (allG r o n W H (aA B g) (aD B g) (aT g))) (3 * ii + i)))), some (.int (bV (fun r o => pgL (allG r o n W H (aA B g) (aD B g) (aT g)) 8) (bsG (fun r o => scN n (aA B g) (aD B g) (allG r o n W H (aA B g) (aD B g) (aT g))) (3 * ii + i)))), some (.int (bV (fun r o => lsN (aA B g) (aD B g) (allG r o n W H (aA B g) (aD B g) (aT g)) n) (bsG (fun r o => scN n (aA B g) (aD B g) (allG r o n W H (aA B g) (aD B g) (aT g))) (3 * ii + i)))), some (.int (nI ii)), some (.int (nI i)), l7] [] (m) (fun r m => r = some (.int (aBst n (aA B g) (aD B g) (fun r o => allG r o n W H (aA B g) (aD B g) (aT g))).1) ∧ rX (oR M (aBst n (aA B g) (aD B g) (fun r o => allG r o n W H (aA B g) (aD B g) (aT g))).2.1 (aBst n (aA B g) (aD B g) (fun r o => allG r o n W H (aA B g) (aD B g) (aT g))).2.2) m)) (3) (fun i hi nx => ?_) (0) (Nat.zero_le _)
  intro m hk l7
  have hm : xNT ≤ xN m := by rw [hk.m]; exact hM
  have hw : xWire m.2.1 := by rw [hk.w]; exact hW
  refine px_iload dX11_best_32 rfl ?_
  refine px_iconst dX11_best_34 ic_3 ?_
  refine px_icmp_ge 139 dX11_best_35 rfl (fun h35 => ?_) (fun h35 => ?_)
  · have hi2 : i = 3 := by rw [show (3 : Int32) = nI 3 from rfl, nI_leI (by omega) (by omega)] at h35; omega
    subst hi2
    refine px_inc_5 dX11_best_139 rfl ic_1 ?_
    refine px_goto 23 dX11_best_142 rfl ?_
    exact px_eq (by rw [nI_1]; rfl) rfl (kk m hk _ _)
  · have hlt : i < 3 := by rw [show (3 : Int32) = nI 3 from rfl, nI_leI (by omega) (by omega)] at h35; omega
    have hsh1 := hk.sh hsh
    have hly2 : lyOK n W H (aA B g) (aD B g) (allG ii i n W H (aA B g) (aD B g) (aT g)) := allG_ok (fun f hf => (hsU f hf).1) hok.2.1 hok.2.2.1
    have hb2 := hsM.b hly2
    have hls := ls_le (n := n) hly2 hb2 hok.2.1 hok.2.2.1
    have hpg2 := pgL_le hb2 8
    have hmk := ms_k (allG ii i n W H (aA B g) (aD B g) (aT g)) n h8
    have hst8 := (L_more hly2.1 8 h8).2.1
    have hms : msB (allG ii i n W H (aA B g) (aD B g) (aT g)) n < 256 := Nat.lt_of_lt_of_le (msB_lt _ n) (show 2 ^ n ≤ 2 ^ 8 from Nat.pow_le_pow_right (by decide) h8)
    refine px_aload_n dX11_best_38 rfl rfl ?_
    refine px_iload dX11_best_39 rfl ?_
    refine px_iload dX11_best_41 rfl ?_
    refine px_gV2 dX11_best_43 kX11_best_326 (xol rfl) hm (Nat.le_of_ble_eq_true rfl) (c_X11_tries hm hw hsh1 hok hii hlt) (fun r43 M43 hq43 hn43 => ?_)
    obtain ⟨rfl, q1, q2, q3, q4⟩ := hq43
    have hm5 : xNT ≤ xN M43 := by rw [hn43]; exact hm
    have hw5 : xWire M43.2.1 := by rw [q1.w]; exact hw
    have qS : rX M M43 := hk.tr q1
    refine px_aload_n dX11_best_46 rfl rfl ?_
    refine px_getI dX11_best_47 fX11_320 (xol rfl) hm5 rfl ?_
    refine px_top (y := nI (msB (allG ii i n W H (aA B g) (aD B g) (aT g)) n)) (q3.trans (ms_I _ n h8)) ?_
    refine px_fS1i dX11_best_50 kX11_best_329 (Nat.le_of_ble_eq_true rfl) (c_X11_bitsOf hms) ?_
    refine px_top (y := nI (n - stL (allG ii i n W H (aA B g) (aD B g) (aT g)) 8)) (by rw [hst8]; congr 1; omega) ?_
    refine px_iload_n dX11_best_53 rfl rfl ?_
    refine px_isub dX11_best_54 ?_
    refine px_si_7 dX11_best_55 rfl ?_
    refine px_iload dX11_best_57 rfl ?_
    refine px_if_ne 71 dX11_best_59 rfl (fun h59 => ?_) (fun h59 => ?_)
    · refine px_iload dX11_best_71 rfl ?_
      refine px_top (y := (if nI (n - stL (allG ii i n W H (aA B g) (aD B g) (aT g)) 8) - bV (fun r o => n - stL (allG r o n W H (aA B g) (aD B g) (aT g)) 8) (bsG (fun r o => scN n (aA B g) (aD B g) (allG r o n W H (aA B g) (aD B g) (aT g))) (3 * ii + i)) = 0 then nI (pgL (allG ii i n W H (aA B g) (aD B g) (aT g)) 8) - bV (fun r o => pgL (allG r o n W H (aA B g) (aD B g) (aT g)) 8) (bsG (fun r o => scN n (aA B g) (aD B g) (allG r o n W H (aA B g) (aD B g) (aT g))) (3 * ii + i)) else nI (n - stL (allG ii i n W H (aA B g) (aD B g) (aT g)) 8) - bV (fun r o => n - stL (allG r o n W H (aA B g) (aD B g) (aT g)) 8) (bsG (fun r o => scN n (aA B g) (aD B g) (allG r o n W H (aA B g) (aD B g) (aT g))) (3 * ii + i)))) (by first | exact (if_pos h59).symm | exact (if_neg h59).symm) ?_
      refine px_si_7 dX11_best_73 rfl ?_
      refine px_iload dX11_best_75 rfl ?_
      refine px_if_ne 90 dX11_best_77 rfl (fun h77 => ?_) (fun h77 => ?_)
      · refine px_iload dX11_best_90 rfl ?_
        refine px_top (y := (if (if nI (n - stL (allG ii i n W H (aA B g) (aD B g) (aT g)) 8) - bV (fun r o => n - stL (allG r o n W H (aA B g) (aD B g) (aT g)) 8) (bsG (fun r o => scN n (aA B g) (aD B g) (allG r o n W H (aA B g) (aD B g) (aT g))) (3 * ii + i)) = 0 then nI (pgL (allG ii i n W H (aA B g) (aD B g) (aT g)) 8) - bV (fun r o => pgL (allG r o n W H (aA B g) (aD B g) (aT g)) 8) (bsG (fun r o => scN n (aA B g) (aD B g) (allG r o n W H (aA B g) (aD B g) (aT g))) (3 * ii + i)) else nI (n - stL (allG ii i n W H (aA B g) (aD B g) (aT g)) 8) - bV (fun r o => n - stL (allG r o n W H (aA B g) (aD B g) (aT g)) 8) (bsG (fun r o => scN n (aA B g) (aD B g) (allG r o n W H (aA B g) (aD B g) (aT g))) (3 * ii + i))) = 0 then nI (lsN (aA B g) (aD B g) (allG ii i n W H (aA B g) (aD B g) (aT g)) n) - bV (fun r o => lsN (aA B g) (aD B g) (allG r o n W H (aA B g) (aD B g) (aT g)) n) (bsG (fun r o => scN n (aA B g) (aD B g) (allG r o n W H (aA B g) (aD B g) (aT g))) (3 * ii + i)) else (if nI (n - stL (allG ii i n W H (aA B g) (aD B g) (aT g)) 8) - bV (fun r o => n - stL (allG r o n W H (aA B g) (aD B g) (aT g)) 8) (bsG (fun r o => scN n (aA B g) (aD B g) (allG r o n W H (aA B g) (aD B g) (aT g))) (3 * ii + i)) = 0 then nI (pgL (allG ii i n W H (aA B g) (aD B g) (aT g)) 8) - bV (fun r o => pgL (allG r o n W H (aA B g) (aD B g) (aT g)) 8) (bsG (fun r o => scN n (aA B g) (aD B g) (allG r o n W H (aA B g) (aD B g) (aT g))) (3 * ii + i)) else nI (n - stL (allG ii i n W H (aA B g) (aD B g) (aT g)) 8) - bV (fun r o => n - stL (allG r o n W H (aA B g) (aD B g) (aT g)) 8) (bsG (fun r o => scN n (aA B g) (aD B g) (allG r o n W H (aA B g) (aD B g) (aT g))) (3 * ii + i))))) (by first | exact (if_pos h77).symm | exact (if_neg h77).symm) ?_
        refine px_si_7 dX11_best_92 rfl ?_
        refine px_iload_n dX11_best_94 rfl rfl ?_
        refine px_bipush dX11_best_95 bp_m9 ?_
        refine px_icmp_eq 105 dX11_best_97 rfl (fun h97 => ?_) (fun h97 => ?_)
        · refine px_bipush dX11_best_105 bp_10 ?_
          refine px_iload dX11_best_107 rfl ?_
          refine px_imul dX11_best_109 ?_
          refine px_iload dX11_best_110 rfl ?_
          refine px_iadd dX11_best_112 ?_
          refine px_top (y := nI (10 * ii + i)) (by rw [show (10 : Int32) = nI 10 from rfl, pk_mul, nI_add]) ?_
          refine px_si_1 dX11_best_113 rfl ?_
          refine px_aload_n dX11_best_114 rfl rfl ?_
          refine px_getI dX11_best_115 fX11_320 (xol rfl) hm5 rfl ?_
          refine px_top (y := nI (msB (allG ii i n W H (aA B g) (aD B g) (aT g)) n)) (q3.trans (ms_I _ n h8)) ?_
          refine px_fS1i dX11_best_118 kX11_best_329 (Nat.le_of_ble_eq_true rfl) (c_X11_bitsOf hms) ?_
          refine px_top (y := nI (n - stL (allG ii i n W H (aA B g) (aD B g) (aT g)) 8)) (by rw [hst8]; congr 1; omega) ?_
          refine px_si_2 dX11_best_121 rfl ?_
          refine px_aload_n dX11_best_122 rfl rfl ?_
          refine px_getI dX11_best_123 fX11_317 (xol rfl) hm5 rfl ?_
          refine px_top (y := nI (pgL (allG ii i n W H (aA B g) (aD B g) (aT g)) 8)) q2 ?_
          refine px_si_3 dX11_best_126 rfl ?_
          refine px_aload_n dX11_best_127 rfl rfl ?_
          refine px_getI dX11_best_128 fX11_323 (xol rfl) hm5 rfl ?_
          refine px_top (y := nI (lsN (aA B g) (aD B g) (allG ii i n W H (aA B g) (aD B g) (aT g)) n)) q4 ?_
          refine px_si_4 dX11_best_131 rfl ?_
          refine px_inc_6 dX11_best_133 rfl ic_1 ?_
          refine px_goto 32 dX11_best_136 rfl ?_
          first
            | (have eB := bsG_n (i := ii) hlt (bW_n (by omega) h97); exact px_eq (by rw [nI_1, eB]; rfl) rfl (nx hlt M43 qS _))
            | (obtain ⟨q, hq⟩ := bW_s h97; have hqi := bsG_in _ q (by omega) hq; rw [hq] at h102; have hl3 : lyOK n W H (aA B g) (aD B g) (allG q.1 q.2 n W H (aA B g) (aD B g) (aT g)) := allG_ok (fun f hf => (hsU f hf).1) hok.2.1 hok.2.2.1; have hb3 := hsM.b hl3; have hls3 := ls_le (n := n) hl3 hb3 hok.2.1 hok.2.2.1; have hpg3 := pgL_le hb3 8; have hlx := lexR (a1 := n - stL (allG ii i n W H (aA B g) (aD B g) (aT g)) 8) (a2 := pgL (allG ii i n W H (aA B g) (aD B g) (aT g)) 8) (a3 := lsN (aA B g) (aD B g) (allG ii i n W H (aA B g) (aD B g) (aT g)) n) (b1 := n - stL (allG q.1 q.2 n W H (aA B g) (aD B g) (aT g)) 8) (b2 := pgL (allG q.1 q.2 n W H (aA B g) (aD B g) (aT g)) 8) (b3 := lsN (aA B g) (aD B g) (allG q.1 q.2 n W H (aA B g) (aD B g) (aT g)) n) (by omega) hpg2 hls (by omega) hpg3 hls3; have h102 := Classical.not_not.mp (fun z => h102 (hlx.mpr z)); have eB := bsG_l (sc := (fun r o => scN n (aA B g) (aD B g) (allG r o n W H (aA B g) (aD B g) (aT g)))) hlt hq h102; exact px_eq (by rw [nI_1, eB]; rfl) rfl (nx hlt M43 qS _))
            | (obtain ⟨q, hq⟩ := bW_s h97; have hqi := bsG_in _ q (by omega) hq; rw [hq] at h102; have hl3 : lyOK n W H (aA B g) (aD B g) (allG q.1 q.2 n W H (aA B g) (aD B g) (aT g)) := allG_ok (fun f hf => (hsU f hf).1) hok.2.1 hok.2.2.1; have hb3 := hsM.b hl3; have hls3 := ls_le (n := n) hl3 hb3 hok.2.1 hok.2.2.1; have hpg3 := pgL_le hb3 8; have hlx := lexR (a1 := n - stL (allG ii i n W H (aA B g) (aD B g) (aT g)) 8) (a2 := pgL (allG ii i n W H (aA B g) (aD B g) (aT g)) 8) (a3 := lsN (aA B g) (aD B g) (allG ii i n W H (aA B g) (aD B g) (aT g)) n) (b1 := n - stL (allG q.1 q.2 n W H (aA B g) (aD B g) (aT g)) 8) (b2 := pgL (allG q.1 q.2 n W H (aA B g) (aD B g) (aT g)) 8) (b3 := lsN (aA B g) (aD B g) (allG q.1 q.2 n W H (aA B g) (aD B g) (aT g)) n) (by omega) hpg2 hls (by omega) hpg3 hls3; have h102 := hlx.mp h102; have eB := bsG_k (sc := (fun r o => scN n (aA B g) (aD B g) (allG r o n W H (aA B g) (aD B g) (aT g)))) hlt hq h102; exact px_eq (by rw [nI_1, eB, hq]) rfl (nx hlt M43 qS _))
        · refine px_iload dX11_best_100 rfl ?_
          refine px_if_ge 133 dX11_best_102 rfl (fun h102 => ?_) (fun h102 => ?_)
          · refine px_inc_6 dX11_best_133 rfl ic_1 ?_
            refine px_goto 32 dX11_best_136 rfl ?_
            first
              | (have eB := bsG_n (i := ii) hlt (bW_n (by omega) h97); exact px_eq (by rw [nI_1, eB]; rfl) rfl (nx hlt M43 qS _))
              | (obtain ⟨q, hq⟩ := bW_s h97; have hqi := bsG_in _ q (by omega) hq; rw [hq] at h102; have hl3 : lyOK n W H (aA B g) (aD B g) (allG q.1 q.2 n W H (aA B g) (aD B g) (aT g)) := allG_ok (fun f hf => (hsU f hf).1) hok.2.1 hok.2.2.1; have hb3 := hsM.b hl3; have hls3 := ls_le (n := n) hl3 hb3 hok.2.1 hok.2.2.1; have hpg3 := pgL_le hb3 8; have hlx := lexR (a1 := n - stL (allG ii i n W H (aA B g) (aD B g) (aT g)) 8) (a2 := pgL (allG ii i n W H (aA B g) (aD B g) (aT g)) 8) (a3 := lsN (aA B g) (aD B g) (allG ii i n W H (aA B g) (aD B g) (aT g)) n) (b1 := n - stL (allG q.1 q.2 n W H (aA B g) (aD B g) (aT g)) 8) (b2 := pgL (allG q.1 q.2 n W H (aA B g) (aD B g) (aT g)) 8) (b3 := lsN (aA B g) (aD B g) (allG q.1 q.2 n W H (aA B g) (aD B g) (aT g)) n) (by omega) hpg2 hls (by omega) hpg3 hls3; have h102 := Classical.not_not.mp (fun z => h102 (hlx.mpr z)); have eB := bsG_l (sc := (fun r o => scN n (aA B g) (aD B g) (allG r o n W H (aA B g) (aD B g) (aT g)))) hlt hq h102; exact px_eq (by rw [nI_1, eB]; rfl) rfl (nx hlt M43 qS _))
              | (obtain ⟨q, hq⟩ := bW_s h97; have hqi := bsG_in _ q (by omega) hq; rw [hq] at h102; have hl3 : lyOK n W H (aA B g) (aD B g) (allG q.1 q.2 n W H (aA B g) (aD B g) (aT g)) := allG_ok (fun f hf => (hsU f hf).1) hok.2.1 hok.2.2.1; have hb3 := hsM.b hl3; have hls3 := ls_le (n := n) hl3 hb3 hok.2.1 hok.2.2.1; have hpg3 := pgL_le hb3 8; have hlx := lexR (a1 := n - stL (allG ii i n W H (aA B g) (aD B g) (aT g)) 8) (a2 := pgL (allG ii i n W H (aA B g) (aD B g) (aT g)) 8) (a3 := lsN (aA B g) (aD B g) (allG ii i n W H (aA B g) (aD B g) (aT g)) n) (b1 := n - stL (allG q.1 q.2 n W H (aA B g) (aD B g) (aT g)) 8) (b2 := pgL (allG q.1 q.2 n W H (aA B g) (aD B g) (aT g)) 8) (b3 := lsN (aA B g) (aD B g) (allG q.1 q.2 n W H (aA B g) (aD B g) (aT g)) n) (by omega) hpg2 hls (by omega) hpg3 hls3; have h102 := hlx.mp h102; have eB := bsG_k (sc := (fun r o => scN n (aA B g) (aD B g) (allG r o n W H (aA B g) (aD B g) (aT g)))) hlt hq h102; exact px_eq (by rw [nI_1, eB, hq]) rfl (nx hlt M43 qS _))
          · refine px_bipush dX11_best_105 bp_10 ?_
            refine px_iload dX11_best_107 rfl ?_
            refine px_imul dX11_best_109 ?_
            refine px_iload dX11_best_110 rfl ?_
            refine px_iadd dX11_best_112 ?_
            refine px_top (y := nI (10 * ii + i)) (by rw [show (10 : Int32) = nI 10 from rfl, pk_mul, nI_add]) ?_
            refine px_si_1 dX11_best_113 rfl ?_
            refine px_aload_n dX11_best_114 rfl rfl ?_
            refine px_getI dX11_best_115 fX11_320 (xol rfl) hm5 rfl ?_
            refine px_top (y := nI (msB (allG ii i n W H (aA B g) (aD B g) (aT g)) n)) (q3.trans (ms_I _ n h8)) ?_
            refine px_fS1i dX11_best_118 kX11_best_329 (Nat.le_of_ble_eq_true rfl) (c_X11_bitsOf hms) ?_
            refine px_top (y := nI (n - stL (allG ii i n W H (aA B g) (aD B g) (aT g)) 8)) (by rw [hst8]; congr 1; omega) ?_
            refine px_si_2 dX11_best_121 rfl ?_
            refine px_aload_n dX11_best_122 rfl rfl ?_
            refine px_getI dX11_best_123 fX11_317 (xol rfl) hm5 rfl ?_
            refine px_top (y := nI (pgL (allG ii i n W H (aA B g) (aD B g) (aT g)) 8)) q2 ?_
            refine px_si_3 dX11_best_126 rfl ?_
            refine px_aload_n dX11_best_127 rfl rfl ?_
            refine px_getI dX11_best_128 fX11_323 (xol rfl) hm5 rfl ?_
            refine px_top (y := nI (lsN (aA B g) (aD B g) (allG ii i n W H (aA B g) (aD B g) (aT g)) n)) q4 ?_
            refine px_si_4 dX11_best_131 rfl ?_
            refine px_inc_6 dX11_best_133 rfl ic_1 ?_
            refine px_goto 32 dX11_best_136 rfl ?_
            first
              | (have eB := bsG_n (i := ii) hlt (bW_n (by omega) h97); exact px_eq (by rw [nI_1, eB]; rfl) rfl (nx hlt M43 qS _))
              | (obtain ⟨q, hq⟩ := bW_s h97; have hqi := bsG_in _ q (by omega) hq; rw [hq] at h102; have hl3 : lyOK n W H (aA B g) (aD B g) (allG q.1 q.2 n W H (aA B g) (aD B g) (aT g)) := allG_ok (fun f hf => (hsU f hf).1) hok.2.1 hok.2.2.1; have hb3 := hsM.b hl3; have hls3 := ls_le (n := n) hl3 hb3 hok.2.1 hok.2.2.1; have hpg3 := pgL_le hb3 8; have hlx := lexR (a1 := n - stL (allG ii i n W H (aA B g) (aD B g) (aT g)) 8) (a2 := pgL (allG ii i n W H (aA B g) (aD B g) (aT g)) 8) (a3 := lsN (aA B g) (aD B g) (allG ii i n W H (aA B g) (aD B g) (aT g)) n) (b1 := n - stL (allG q.1 q.2 n W H (aA B g) (aD B g) (aT g)) 8) (b2 := pgL (allG q.1 q.2 n W H (aA B g) (aD B g) (aT g)) 8) (b3 := lsN (aA B g) (aD B g) (allG q.1 q.2 n W H (aA B g) (aD B g) (aT g)) n) (by omega) hpg2 hls (by omega) hpg3 hls3; have h102 := Classical.not_not.mp (fun z => h102 (hlx.mpr z)); have eB := bsG_l (sc := (fun r o => scN n (aA B g) (aD B g) (allG r o n W H (aA B g) (aD B g) (aT g)))) hlt hq h102; exact px_eq (by rw [nI_1, eB]; rfl) rfl (nx hlt M43 qS _))
              | (obtain ⟨q, hq⟩ := bW_s h97; have hqi := bsG_in _ q (by omega) hq; rw [hq] at h102; have hl3 : lyOK n W H (aA B g) (aD B g) (allG q.1 q.2 n W H (aA B g) (aD B g) (aT g)) := allG_ok (fun f hf => (hsU f hf).1) hok.2.1 hok.2.2.1; have hb3 := hsM.b hl3; have hls3 := ls_le (n := n) hl3 hb3 hok.2.1 hok.2.2.1; have hpg3 := pgL_le hb3 8; have hlx := lexR (a1 := n - stL (allG ii i n W H (aA B g) (aD B g) (aT g)) 8) (a2 := pgL (allG ii i n W H (aA B g) (aD B g) (aT g)) 8) (a3 := lsN (aA B g) (aD B g) (allG ii i n W H (aA B g) (aD B g) (aT g)) n) (b1 := n - stL (allG q.1 q.2 n W H (aA B g) (aD B g) (aT g)) 8) (b2 := pgL (allG q.1 q.2 n W H (aA B g) (aD B g) (aT g)) 8) (b3 := lsN (aA B g) (aD B g) (allG q.1 q.2 n W H (aA B g) (aD B g) (aT g)) n) (by omega) hpg2 hls (by omega) hpg3 hls3; have h102 := hlx.mp h102; have eB := bsG_k (sc := (fun r o => scN n (aA B g) (aD B g) (allG r o n W H (aA B g) (aD B g) (aT g)))) hlt hq h102; exact px_eq (by rw [nI_1, eB, hq]) rfl (nx hlt M43 qS _))
      · refine px_aload_n dX11_best_80 rfl rfl ?_
        refine px_getI dX11_best_81 fX11_323 (xol rfl) hm5 rfl ?_
        refine px_top (y := nI (lsN (aA B g) (aD B g) (allG ii i n W H (aA B g) (aD B g) (aT g)) n)) q4 ?_
        refine px_iload dX11_best_84 rfl ?_
        refine px_isub dX11_best_86 ?_
        refine px_goto 92 dX11_best_87 rfl ?_
        refine px_top (y := (if (if nI (n - stL (allG ii i n W H (aA B g) (aD B g) (aT g)) 8) - bV (fun r o => n - stL (allG r o n W H (aA B g) (aD B g) (aT g)) 8) (bsG (fun r o => scN n (aA B g) (aD B g) (allG r o n W H (aA B g) (aD B g) (aT g))) (3 * ii + i)) = 0 then nI (pgL (allG ii i n W H (aA B g) (aD B g) (aT g)) 8) - bV (fun r o => pgL (allG r o n W H (aA B g) (aD B g) (aT g)) 8) (bsG (fun r o => scN n (aA B g) (aD B g) (allG r o n W H (aA B g) (aD B g) (aT g))) (3 * ii + i)) else nI (n - stL (allG ii i n W H (aA B g) (aD B g) (aT g)) 8) - bV (fun r o => n - stL (allG r o n W H (aA B g) (aD B g) (aT g)) 8) (bsG (fun r o => scN n (aA B g) (aD B g) (allG r o n W H (aA B g) (aD B g) (aT g))) (3 * ii + i))) = 0 then nI (lsN (aA B g) (aD B g) (allG ii i n W H (aA B g) (aD B g) (aT g)) n) - bV (fun r o => lsN (aA B g) (aD B g) (allG r o n W H (aA B g) (aD B g) (aT g)) n) (bsG (fun r o => scN n (aA B g) (aD B g) (allG r o n W H (aA B g) (aD B g) (aT g))) (3 * ii + i)) else (if nI (n - stL (allG ii i n W H (aA B g) (aD B g) (aT g)) 8) - bV (fun r o => n - stL (allG r o n W H (aA B g) (aD B g) (aT g)) 8) (bsG (fun r o => scN n (aA B g) (aD B g) (allG r o n W H (aA B g) (aD B g) (aT g))) (3 * ii + i)) = 0 then nI (pgL (allG ii i n W H (aA B g) (aD B g) (aT g)) 8) - bV (fun r o => pgL (allG r o n W H (aA B g) (aD B g) (aT g)) 8) (bsG (fun r o => scN n (aA B g) (aD B g) (allG r o n W H (aA B g) (aD B g) (aT g))) (3 * ii + i)) else nI (n - stL (allG ii i n W H (aA B g) (aD B g) (aT g)) 8) - bV (fun r o => n - stL (allG r o n W H (aA B g) (aD B g) (aT g)) 8) (bsG (fun r o => scN n (aA B g) (aD B g) (allG r o n W H (aA B g) (aD B g) (aT g))) (3 * ii + i))))) (by first | exact (if_pos h77).symm | exact (if_neg h77).symm) ?_
        refine px_si_7 dX11_best_92 rfl ?_
        refine px_iload_n dX11_best_94 rfl rfl ?_
        refine px_bipush dX11_best_95 bp_m9 ?_
        refine px_icmp_eq 105 dX11_best_97 rfl (fun h97 => ?_) (fun h97 => ?_)
        · refine px_bipush dX11_best_105 bp_10 ?_
          refine px_iload dX11_best_107 rfl ?_
          refine px_imul dX11_best_109 ?_
          refine px_iload dX11_best_110 rfl ?_
          refine px_iadd dX11_best_112 ?_
          refine px_top (y := nI (10 * ii + i)) (by rw [show (10 : Int32) = nI 10 from rfl, pk_mul, nI_add]) ?_
          refine px_si_1 dX11_best_113 rfl ?_
          refine px_aload_n dX11_best_114 rfl rfl ?_
          refine px_getI dX11_best_115 fX11_320 (xol rfl) hm5 rfl ?_
          refine px_top (y := nI (msB (allG ii i n W H (aA B g) (aD B g) (aT g)) n)) (q3.trans (ms_I _ n h8)) ?_
          refine px_fS1i dX11_best_118 kX11_best_329 (Nat.le_of_ble_eq_true rfl) (c_X11_bitsOf hms) ?_
          refine px_top (y := nI (n - stL (allG ii i n W H (aA B g) (aD B g) (aT g)) 8)) (by rw [hst8]; congr 1; omega) ?_
          refine px_si_2 dX11_best_121 rfl ?_
          refine px_aload_n dX11_best_122 rfl rfl ?_
          refine px_getI dX11_best_123 fX11_317 (xol rfl) hm5 rfl ?_
          refine px_top (y := nI (pgL (allG ii i n W H (aA B g) (aD B g) (aT g)) 8)) q2 ?_
          refine px_si_3 dX11_best_126 rfl ?_
          refine px_aload_n dX11_best_127 rfl rfl ?_
          refine px_getI dX11_best_128 fX11_323 (xol rfl) hm5 rfl ?_
          refine px_top (y := nI (lsN (aA B g) (aD B g) (allG ii i n W H (aA B g) (aD B g) (aT g)) n)) q4 ?_
          refine px_si_4 dX11_best_131 rfl ?_
          refine px_inc_6 dX11_best_133 rfl ic_1 ?_
          refine px_goto 32 dX11_best_136 rfl ?_
          first
            | (have eB := bsG_n (i := ii) hlt (bW_n (by omega) h97); exact px_eq (by rw [nI_1, eB]; rfl) rfl (nx hlt M43 qS _))
            | (obtain ⟨q, hq⟩ := bW_s h97; have hqi := bsG_in _ q (by omega) hq; rw [hq] at h102; have hl3 : lyOK n W H (aA B g) (aD B g) (allG q.1 q.2 n W H (aA B g) (aD B g) (aT g)) := allG_ok (fun f hf => (hsU f hf).1) hok.2.1 hok.2.2.1; have hb3 := hsM.b hl3; have hls3 := ls_le (n := n) hl3 hb3 hok.2.1 hok.2.2.1; have hpg3 := pgL_le hb3 8; have hlx := lexR (a1 := n - stL (allG ii i n W H (aA B g) (aD B g) (aT g)) 8) (a2 := pgL (allG ii i n W H (aA B g) (aD B g) (aT g)) 8) (a3 := lsN (aA B g) (aD B g) (allG ii i n W H (aA B g) (aD B g) (aT g)) n) (b1 := n - stL (allG q.1 q.2 n W H (aA B g) (aD B g) (aT g)) 8) (b2 := pgL (allG q.1 q.2 n W H (aA B g) (aD B g) (aT g)) 8) (b3 := lsN (aA B g) (aD B g) (allG q.1 q.2 n W H (aA B g) (aD B g) (aT g)) n) (by omega) hpg2 hls (by omega) hpg3 hls3; have h102 := Classical.not_not.mp (fun z => h102 (hlx.mpr z)); have eB := bsG_l (sc := (fun r o => scN n (aA B g) (aD B g) (allG r o n W H (aA B g) (aD B g) (aT g)))) hlt hq h102; exact px_eq (by rw [nI_1, eB]; rfl) rfl (nx hlt M43 qS _))
            | (obtain ⟨q, hq⟩ := bW_s h97; have hqi := bsG_in _ q (by omega) hq; rw [hq] at h102; have hl3 : lyOK n W H (aA B g) (aD B g) (allG q.1 q.2 n W H (aA B g) (aD B g) (aT g)) := allG_ok (fun f hf => (hsU f hf).1) hok.2.1 hok.2.2.1; have hb3 := hsM.b hl3; have hls3 := ls_le (n := n) hl3 hb3 hok.2.1 hok.2.2.1; have hpg3 := pgL_le hb3 8; have hlx := lexR (a1 := n - stL (allG ii i n W H (aA B g) (aD B g) (aT g)) 8) (a2 := pgL (allG ii i n W H (aA B g) (aD B g) (aT g)) 8) (a3 := lsN (aA B g) (aD B g) (allG ii i n W H (aA B g) (aD B g) (aT g)) n) (b1 := n - stL (allG q.1 q.2 n W H (aA B g) (aD B g) (aT g)) 8) (b2 := pgL (allG q.1 q.2 n W H (aA B g) (aD B g) (aT g)) 8) (b3 := lsN (aA B g) (aD B g) (allG q.1 q.2 n W H (aA B g) (aD B g) (aT g)) n) (by omega) hpg2 hls (by omega) hpg3 hls3; have h102 := hlx.mp h102; have eB := bsG_k (sc := (fun r o => scN n (aA B g) (aD B g) (allG r o n W H (aA B g) (aD B g) (aT g)))) hlt hq h102; exact px_eq (by rw [nI_1, eB, hq]) rfl (nx hlt M43 qS _))
        · refine px_iload dX11_best_100 rfl ?_
          refine px_if_ge 133 dX11_best_102 rfl (fun h102 => ?_) (fun h102 => ?_)
          · refine px_inc_6 dX11_best_133 rfl ic_1 ?_
            refine px_goto 32 dX11_best_136 rfl ?_
            first
              | (have eB := bsG_n (i := ii) hlt (bW_n (by omega) h97); exact px_eq (by rw [nI_1, eB]; rfl) rfl (nx hlt M43 qS _))
              | (obtain ⟨q, hq⟩ := bW_s h97; have hqi := bsG_in _ q (by omega) hq; rw [hq] at h102; have hl3 : lyOK n W H (aA B g) (aD B g) (allG q.1 q.2 n W H (aA B g) (aD B g) (aT g)) := allG_ok (fun f hf => (hsU f hf).1) hok.2.1 hok.2.2.1; have hb3 := hsM.b hl3; have hls3 := ls_le (n := n) hl3 hb3 hok.2.1 hok.2.2.1; have hpg3 := pgL_le hb3 8; have hlx := lexR (a1 := n - stL (allG ii i n W H (aA B g) (aD B g) (aT g)) 8) (a2 := pgL (allG ii i n W H (aA B g) (aD B g) (aT g)) 8) (a3 := lsN (aA B g) (aD B g) (allG ii i n W H (aA B g) (aD B g) (aT g)) n) (b1 := n - stL (allG q.1 q.2 n W H (aA B g) (aD B g) (aT g)) 8) (b2 := pgL (allG q.1 q.2 n W H (aA B g) (aD B g) (aT g)) 8) (b3 := lsN (aA B g) (aD B g) (allG q.1 q.2 n W H (aA B g) (aD B g) (aT g)) n) (by omega) hpg2 hls (by omega) hpg3 hls3; have h102 := Classical.not_not.mp (fun z => h102 (hlx.mpr z)); have eB := bsG_l (sc := (fun r o => scN n (aA B g) (aD B g) (allG r o n W H (aA B g) (aD B g) (aT g)))) hlt hq h102; exact px_eq (by rw [nI_1, eB]; rfl) rfl (nx hlt M43 qS _))
              | (obtain ⟨q, hq⟩ := bW_s h97; have hqi := bsG_in _ q (by omega) hq; rw [hq] at h102; have hl3 : lyOK n W H (aA B g) (aD B g) (allG q.1 q.2 n W H (aA B g) (aD B g) (aT g)) := allG_ok (fun f hf => (hsU f hf).1) hok.2.1 hok.2.2.1; have hb3 := hsM.b hl3; have hls3 := ls_le (n := n) hl3 hb3 hok.2.1 hok.2.2.1; have hpg3 := pgL_le hb3 8; have hlx := lexR (a1 := n - stL (allG ii i n W H (aA B g) (aD B g) (aT g)) 8) (a2 := pgL (allG ii i n W H (aA B g) (aD B g) (aT g)) 8) (a3 := lsN (aA B g) (aD B g) (allG ii i n W H (aA B g) (aD B g) (aT g)) n) (b1 := n - stL (allG q.1 q.2 n W H (aA B g) (aD B g) (aT g)) 8) (b2 := pgL (allG q.1 q.2 n W H (aA B g) (aD B g) (aT g)) 8) (b3 := lsN (aA B g) (aD B g) (allG q.1 q.2 n W H (aA B g) (aD B g) (aT g)) n) (by omega) hpg2 hls (by omega) hpg3 hls3; have h102 := hlx.mp h102; have eB := bsG_k (sc := (fun r o => scN n (aA B g) (aD B g) (allG r o n W H (aA B g) (aD B g) (aT g)))) hlt hq h102; exact px_eq (by rw [nI_1, eB, hq]) rfl (nx hlt M43 qS _))
          · refine px_bipush dX11_best_105 bp_10 ?_
            refine px_iload dX11_best_107 rfl ?_
            refine px_imul dX11_best_109 ?_
            refine px_iload dX11_best_110 rfl ?_
            refine px_iadd dX11_best_112 ?_
            refine px_top (y := nI (10 * ii + i)) (by rw [show (10 : Int32) = nI 10 from rfl, pk_mul, nI_add]) ?_
            refine px_si_1 dX11_best_113 rfl ?_
            refine px_aload_n dX11_best_114 rfl rfl ?_
            refine px_getI dX11_best_115 fX11_320 (xol rfl) hm5 rfl ?_
            refine px_top (y := nI (msB (allG ii i n W H (aA B g) (aD B g) (aT g)) n)) (q3.trans (ms_I _ n h8)) ?_
            refine px_fS1i dX11_best_118 kX11_best_329 (Nat.le_of_ble_eq_true rfl) (c_X11_bitsOf hms) ?_
            refine px_top (y := nI (n - stL (allG ii i n W H (aA B g) (aD B g) (aT g)) 8)) (by rw [hst8]; congr 1; omega) ?_
            refine px_si_2 dX11_best_121 rfl ?_
            refine px_aload_n dX11_best_122 rfl rfl ?_
            refine px_getI dX11_best_123 fX11_317 (xol rfl) hm5 rfl ?_
            refine px_top (y := nI (pgL (allG ii i n W H (aA B g) (aD B g) (aT g)) 8)) q2 ?_
            refine px_si_3 dX11_best_126 rfl ?_
            refine px_aload_n dX11_best_127 rfl rfl ?_
            refine px_getI dX11_best_128 fX11_323 (xol rfl) hm5 rfl ?_
            refine px_top (y := nI (lsN (aA B g) (aD B g) (allG ii i n W H (aA B g) (aD B g) (aT g)) n)) q4 ?_
            refine px_si_4 dX11_best_131 rfl ?_
            refine px_inc_6 dX11_best_133 rfl ic_1 ?_
            refine px_goto 32 dX11_best_136 rfl ?_
            first
              | (have eB := bsG_n (i := ii) hlt (bW_n (by omega) h97); exact px_eq (by rw [nI_1, eB]; rfl) rfl (nx hlt M43 qS _))
              | (obtain ⟨q, hq⟩ := bW_s h97; have hqi := bsG_in _ q (by omega) hq; rw [hq] at h102; have hl3 : lyOK n W H (aA B g) (aD B g) (allG q.1 q.2 n W H (aA B g) (aD B g) (aT g)) := allG_ok (fun f hf => (hsU f hf).1) hok.2.1 hok.2.2.1; have hb3 := hsM.b hl3; have hls3 := ls_le (n := n) hl3 hb3 hok.2.1 hok.2.2.1; have hpg3 := pgL_le hb3 8; have hlx := lexR (a1 := n - stL (allG ii i n W H (aA B g) (aD B g) (aT g)) 8) (a2 := pgL (allG ii i n W H (aA B g) (aD B g) (aT g)) 8) (a3 := lsN (aA B g) (aD B g) (allG ii i n W H (aA B g) (aD B g) (aT g)) n) (b1 := n - stL (allG q.1 q.2 n W H (aA B g) (aD B g) (aT g)) 8) (b2 := pgL (allG q.1 q.2 n W H (aA B g) (aD B g) (aT g)) 8) (b3 := lsN (aA B g) (aD B g) (allG q.1 q.2 n W H (aA B g) (aD B g) (aT g)) n) (by omega) hpg2 hls (by omega) hpg3 hls3; have h102 := Classical.not_not.mp (fun z => h102 (hlx.mpr z)); have eB := bsG_l (sc := (fun r o => scN n (aA B g) (aD B g) (allG r o n W H (aA B g) (aD B g) (aT g)))) hlt hq h102; exact px_eq (by rw [nI_1, eB]; rfl) rfl (nx hlt M43 qS _))
              | (obtain ⟨q, hq⟩ := bW_s h97; have hqi := bsG_in _ q (by omega) hq; rw [hq] at h102; have hl3 : lyOK n W H (aA B g) (aD B g) (allG q.1 q.2 n W H (aA B g) (aD B g) (aT g)) := allG_ok (fun f hf => (hsU f hf).1) hok.2.1 hok.2.2.1; have hb3 := hsM.b hl3; have hls3 := ls_le (n := n) hl3 hb3 hok.2.1 hok.2.2.1; have hpg3 := pgL_le hb3 8; have hlx := lexR (a1 := n - stL (allG ii i n W H (aA B g) (aD B g) (aT g)) 8) (a2 := pgL (allG ii i n W H (aA B g) (aD B g) (aT g)) 8) (a3 := lsN (aA B g) (aD B g) (allG ii i n W H (aA B g) (aD B g) (aT g)) n) (b1 := n - stL (allG q.1 q.2 n W H (aA B g) (aD B g) (aT g)) 8) (b2 := pgL (allG q.1 q.2 n W H (aA B g) (aD B g) (aT g)) 8) (b3 := lsN (aA B g) (aD B g) (allG q.1 q.2 n W H (aA B g) (aD B g) (aT g)) n) (by omega) hpg2 hls (by omega) hpg3 hls3; have h102 := hlx.mp h102; have eB := bsG_k (sc := (fun r o => scN n (aA B g) (aD B g) (allG r o n W H (aA B g) (aD B g) (aT g)))) hlt hq h102; exact px_eq (by rw [nI_1, eB, hq]) rfl (nx hlt M43 qS _))
    · refine px_aload_n dX11_best_62 rfl rfl ?_
      refine px_getI dX11_best_63 fX11_317 (xol rfl) hm5 rfl ?_
      refine px_top (y := nI (pgL (allG ii i n W H (aA B g) (aD B g) (aT g)) 8)) q2 ?_
      refine px_iload_n dX11_best_66 rfl rfl ?_
      refine px_isub dX11_best_67 ?_
      refine px_goto 73 dX11_best_68 rfl ?_
      refine px_top (y := (if nI (n - stL (allG ii i n W H (aA B g) (aD B g) (aT g)) 8) - bV (fun r o => n - stL (allG r o n W H (aA B g) (aD B g) (aT g)) 8) (bsG (fun r o => scN n (aA B g) (aD B g) (allG r o n W H (aA B g) (aD B g) (aT g))) (3 * ii + i)) = 0 then nI (pgL (allG ii i n W H (aA B g) (aD B g) (aT g)) 8) - bV (fun r o => pgL (allG r o n W H (aA B g) (aD B g) (aT g)) 8) (bsG (fun r o => scN n (aA B g) (aD B g) (allG r o n W H (aA B g) (aD B g) (aT g))) (3 * ii + i)) else nI (n - stL (allG ii i n W H (aA B g) (aD B g) (aT g)) 8) - bV (fun r o => n - stL (allG r o n W H (aA B g) (aD B g) (aT g)) 8) (bsG (fun r o => scN n (aA B g) (aD B g) (allG r o n W H (aA B g) (aD B g) (aT g))) (3 * ii + i)))) (by first | exact (if_pos h59).symm | exact (if_neg h59).symm) ?_
      refine px_si_7 dX11_best_73 rfl ?_
      refine px_iload dX11_best_75 rfl ?_
      refine px_if_ne 90 dX11_best_77 rfl (fun h77 => ?_) (fun h77 => ?_)
      · refine px_iload dX11_best_90 rfl ?_
        refine px_top (y := (if (if nI (n - stL (allG ii i n W H (aA B g) (aD B g) (aT g)) 8) - bV (fun r o => n - stL (allG r o n W H (aA B g) (aD B g) (aT g)) 8) (bsG (fun r o => scN n (aA B g) (aD B g) (allG r o n W H (aA B g) (aD B g) (aT g))) (3 * ii + i)) = 0 then nI (pgL (allG ii i n W H (aA B g) (aD B g) (aT g)) 8) - bV (fun r o => pgL (allG r o n W H (aA B g) (aD B g) (aT g)) 8) (bsG (fun r o => scN n (aA B g) (aD B g) (allG r o n W H (aA B g) (aD B g) (aT g))) (3 * ii + i)) else nI (n - stL (allG ii i n W H (aA B g) (aD B g) (aT g)) 8) - bV (fun r o => n - stL (allG r o n W H (aA B g) (aD B g) (aT g)) 8) (bsG (fun r o => scN n (aA B g) (aD B g) (allG r o n W H (aA B g) (aD B g) (aT g))) (3 * ii + i))) = 0 then nI (lsN (aA B g) (aD B g) (allG ii i n W H (aA B g) (aD B g) (aT g)) n) - bV (fun r o => lsN (aA B g) (aD B g) (allG r o n W H (aA B g) (aD B g) (aT g)) n) (bsG (fun r o => scN n (aA B g) (aD B g) (allG r o n W H (aA B g) (aD B g) (aT g))) (3 * ii + i)) else (if nI (n - stL (allG ii i n W H (aA B g) (aD B g) (aT g)) 8) - bV (fun r o => n - stL (allG r o n W H (aA B g) (aD B g) (aT g)) 8) (bsG (fun r o => scN n (aA B g) (aD B g) (allG r o n W H (aA B g) (aD B g) (aT g))) (3 * ii + i)) = 0 then nI (pgL (allG ii i n W H (aA B g) (aD B g) (aT g)) 8) - bV (fun r o => pgL (allG r o n W H (aA B g) (aD B g) (aT g)) 8) (bsG (fun r o => scN n (aA B g) (aD B g) (allG r o n W H (aA B g) (aD B g) (aT g))) (3 * ii + i)) else nI (n - stL (allG ii i n W H (aA B g) (aD B g) (aT g)) 8) - bV (fun r o => n - stL (allG r o n W H (aA B g) (aD B g) (aT g)) 8) (bsG (fun r o => scN n (aA B g) (aD B g) (allG r o n W H (aA B g) (aD B g) (aT g))) (3 * ii + i))))) (by first | exact (if_pos h77).symm | exact (if_neg h77).symm) ?_
        refine px_si_7 dX11_best_92 rfl ?_
        refine px_iload_n dX11_best_94 rfl rfl ?_
        refine px_bipush dX11_best_95 bp_m9 ?_
        refine px_icmp_eq 105 dX11_best_97 rfl (fun h97 => ?_) (fun h97 => ?_)
        · refine px_bipush dX11_best_105 bp_10 ?_
          refine px_iload dX11_best_107 rfl ?_
          refine px_imul dX11_best_109 ?_
          refine px_iload dX11_best_110 rfl ?_
          refine px_iadd dX11_best_112 ?_
          refine px_top (y := nI (10 * ii + i)) (by rw [show (10 : Int32) = nI 10 from rfl, pk_mul, nI_add]) ?_
          refine px_si_1 dX11_best_113 rfl ?_
          refine px_aload_n dX11_best_114 rfl rfl ?_
          refine px_getI dX11_best_115 fX11_320 (xol rfl) hm5 rfl ?_
          refine px_top (y := nI (msB (allG ii i n W H (aA B g) (aD B g) (aT g)) n)) (q3.trans (ms_I _ n h8)) ?_
          refine px_fS1i dX11_best_118 kX11_best_329 (Nat.le_of_ble_eq_true rfl) (c_X11_bitsOf hms) ?_
          refine px_top (y := nI (n - stL (allG ii i n W H (aA B g) (aD B g) (aT g)) 8)) (by rw [hst8]; congr 1; omega) ?_
          refine px_si_2 dX11_best_121 rfl ?_
          refine px_aload_n dX11_best_122 rfl rfl ?_
          refine px_getI dX11_best_123 fX11_317 (xol rfl) hm5 rfl ?_
          refine px_top (y := nI (pgL (allG ii i n W H (aA B g) (aD B g) (aT g)) 8)) q2 ?_
          refine px_si_3 dX11_best_126 rfl ?_
          refine px_aload_n dX11_best_127 rfl rfl ?_
          refine px_getI dX11_best_128 fX11_323 (xol rfl) hm5 rfl ?_
          refine px_top (y := nI (lsN (aA B g) (aD B g) (allG ii i n W H (aA B g) (aD B g) (aT g)) n)) q4 ?_
          refine px_si_4 dX11_best_131 rfl ?_
          refine px_inc_6 dX11_best_133 rfl ic_1 ?_
          refine px_goto 32 dX11_best_136 rfl ?_
          first
            | (have eB := bsG_n (i := ii) hlt (bW_n (by omega) h97); exact px_eq (by rw [nI_1, eB]; rfl) rfl (nx hlt M43 qS _))
            | (obtain ⟨q, hq⟩ := bW_s h97; have hqi := bsG_in _ q (by omega) hq; rw [hq] at h102; have hl3 : lyOK n W H (aA B g) (aD B g) (allG q.1 q.2 n W H (aA B g) (aD B g) (aT g)) := allG_ok (fun f hf => (hsU f hf).1) hok.2.1 hok.2.2.1; have hb3 := hsM.b hl3; have hls3 := ls_le (n := n) hl3 hb3 hok.2.1 hok.2.2.1; have hpg3 := pgL_le hb3 8; have hlx := lexR (a1 := n - stL (allG ii i n W H (aA B g) (aD B g) (aT g)) 8) (a2 := pgL (allG ii i n W H (aA B g) (aD B g) (aT g)) 8) (a3 := lsN (aA B g) (aD B g) (allG ii i n W H (aA B g) (aD B g) (aT g)) n) (b1 := n - stL (allG q.1 q.2 n W H (aA B g) (aD B g) (aT g)) 8) (b2 := pgL (allG q.1 q.2 n W H (aA B g) (aD B g) (aT g)) 8) (b3 := lsN (aA B g) (aD B g) (allG q.1 q.2 n W H (aA B g) (aD B g) (aT g)) n) (by omega) hpg2 hls (by omega) hpg3 hls3; have h102 := Classical.not_not.mp (fun z => h102 (hlx.mpr z)); have eB := bsG_l (sc := (fun r o => scN n (aA B g) (aD B g) (allG r o n W H (aA B g) (aD B g) (aT g)))) hlt hq h102; exact px_eq (by rw [nI_1, eB]; rfl) rfl (nx hlt M43 qS _))
            | (obtain ⟨q, hq⟩ := bW_s h97; have hqi := bsG_in _ q (by omega) hq; rw [hq] at h102; have hl3 : lyOK n W H (aA B g) (aD B g) (allG q.1 q.2 n W H (aA B g) (aD B g) (aT g)) := allG_ok (fun f hf => (hsU f hf).1) hok.2.1 hok.2.2.1; have hb3 := hsM.b hl3; have hls3 := ls_le (n := n) hl3 hb3 hok.2.1 hok.2.2.1; have hpg3 := pgL_le hb3 8; have hlx := lexR (a1 := n - stL (allG ii i n W H (aA B g) (aD B g) (aT g)) 8) (a2 := pgL (allG ii i n W H (aA B g) (aD B g) (aT g)) 8) (a3 := lsN (aA B g) (aD B g) (allG ii i n W H (aA B g) (aD B g) (aT g)) n) (b1 := n - stL (allG q.1 q.2 n W H (aA B g) (aD B g) (aT g)) 8) (b2 := pgL (allG q.1 q.2 n W H (aA B g) (aD B g) (aT g)) 8) (b3 := lsN (aA B g) (aD B g) (allG q.1 q.2 n W H (aA B g) (aD B g) (aT g)) n) (by omega) hpg2 hls (by omega) hpg3 hls3; have h102 := hlx.mp h102; have eB := bsG_k (sc := (fun r o => scN n (aA B g) (aD B g) (allG r o n W H (aA B g) (aD B g) (aT g)))) hlt hq h102; exact px_eq (by rw [nI_1, eB, hq]) rfl (nx hlt M43 qS _))
        · refine px_iload dX11_best_100 rfl ?_
          refine px_if_ge 133 dX11_best_102 rfl (fun h102 => ?_) (fun h102 => ?_)
          · refine px_inc_6 dX11_best_133 rfl ic_1 ?_
            refine px_goto 32 dX11_best_136 rfl ?_
            first
              | (have eB := bsG_n (i := ii) hlt (bW_n (by omega) h97); exact px_eq (by rw [nI_1, eB]; rfl) rfl (nx hlt M43 qS _))
              | (obtain ⟨q, hq⟩ := bW_s h97; have hqi := bsG_in _ q (by omega) hq; rw [hq] at h102; have hl3 : lyOK n W H (aA B g) (aD B g) (allG q.1 q.2 n W H (aA B g) (aD B g) (aT g)) := allG_ok (fun f hf => (hsU f hf).1) hok.2.1 hok.2.2.1; have hb3 := hsM.b hl3; have hls3 := ls_le (n := n) hl3 hb3 hok.2.1 hok.2.2.1; have hpg3 := pgL_le hb3 8; have hlx := lexR (a1 := n - stL (allG ii i n W H (aA B g) (aD B g) (aT g)) 8) (a2 := pgL (allG ii i n W H (aA B g) (aD B g) (aT g)) 8) (a3 := lsN (aA B g) (aD B g) (allG ii i n W H (aA B g) (aD B g) (aT g)) n) (b1 := n - stL (allG q.1 q.2 n W H (aA B g) (aD B g) (aT g)) 8) (b2 := pgL (allG q.1 q.2 n W H (aA B g) (aD B g) (aT g)) 8) (b3 := lsN (aA B g) (aD B g) (allG q.1 q.2 n W H (aA B g) (aD B g) (aT g)) n) (by omega) hpg2 hls (by omega) hpg3 hls3; have h102 := Classical.not_not.mp (fun z => h102 (hlx.mpr z)); have eB := bsG_l (sc := (fun r o => scN n (aA B g) (aD B g) (allG r o n W H (aA B g) (aD B g) (aT g)))) hlt hq h102; exact px_eq (by rw [nI_1, eB]; rfl) rfl (nx hlt M43 qS _))
              | (obtain ⟨q, hq⟩ := bW_s h97; have hqi := bsG_in _ q (by omega) hq; rw [hq] at h102; have hl3 : lyOK n W H (aA B g) (aD B g) (allG q.1 q.2 n W H (aA B g) (aD B g) (aT g)) := allG_ok (fun f hf => (hsU f hf).1) hok.2.1 hok.2.2.1; have hb3 := hsM.b hl3; have hls3 := ls_le (n := n) hl3 hb3 hok.2.1 hok.2.2.1; have hpg3 := pgL_le hb3 8; have hlx := lexR (a1 := n - stL (allG ii i n W H (aA B g) (aD B g) (aT g)) 8) (a2 := pgL (allG ii i n W H (aA B g) (aD B g) (aT g)) 8) (a3 := lsN (aA B g) (aD B g) (allG ii i n W H (aA B g) (aD B g) (aT g)) n) (b1 := n - stL (allG q.1 q.2 n W H (aA B g) (aD B g) (aT g)) 8) (b2 := pgL (allG q.1 q.2 n W H (aA B g) (aD B g) (aT g)) 8) (b3 := lsN (aA B g) (aD B g) (allG q.1 q.2 n W H (aA B g) (aD B g) (aT g)) n) (by omega) hpg2 hls (by omega) hpg3 hls3; have h102 := hlx.mp h102; have eB := bsG_k (sc := (fun r o => scN n (aA B g) (aD B g) (allG r o n W H (aA B g) (aD B g) (aT g)))) hlt hq h102; exact px_eq (by rw [nI_1, eB, hq]) rfl (nx hlt M43 qS _))
          · refine px_bipush dX11_best_105 bp_10 ?_
            refine px_iload dX11_best_107 rfl ?_
            refine px_imul dX11_best_109 ?_
            refine px_iload dX11_best_110 rfl ?_
            refine px_iadd dX11_best_112 ?_
            refine px_top (y := nI (10 * ii + i)) (by rw [show (10 : Int32) = nI 10 from rfl, pk_mul, nI_add]) ?_
            refine px_si_1 dX11_best_113 rfl ?_
            refine px_aload_n dX11_best_114 rfl rfl ?_
            refine px_getI dX11_best_115 fX11_320 (xol rfl) hm5 rfl ?_
            refine px_top (y := nI (msB (allG ii i n W H (aA B g) (aD B g) (aT g)) n)) (q3.trans (ms_I _ n h8)) ?_
            refine px_fS1i dX11_best_118 kX11_best_329 (Nat.le_of_ble_eq_true rfl) (c_X11_bitsOf hms) ?_
            refine px_top (y := nI (n - stL (allG ii i n W H (aA B g) (aD B g) (aT g)) 8)) (by rw [hst8]; congr 1; omega) ?_
            refine px_si_2 dX11_best_121 rfl ?_
            refine px_aload_n dX11_best_122 rfl rfl ?_
            refine px_getI dX11_best_123 fX11_317 (xol rfl) hm5 rfl ?_
            refine px_top (y := nI (pgL (allG ii i n W H (aA B g) (aD B g) (aT g)) 8)) q2 ?_
            refine px_si_3 dX11_best_126 rfl ?_
            refine px_aload_n dX11_best_127 rfl rfl ?_
            refine px_getI dX11_best_128 fX11_323 (xol rfl) hm5 rfl ?_
            refine px_top (y := nI (lsN (aA B g) (aD B g) (allG ii i n W H (aA B g) (aD B g) (aT g)) n)) q4 ?_
            refine px_si_4 dX11_best_131 rfl ?_
            refine px_inc_6 dX11_best_133 rfl ic_1 ?_
            refine px_goto 32 dX11_best_136 rfl ?_
            first
              | (have eB := bsG_n (i := ii) hlt (bW_n (by omega) h97); exact px_eq (by rw [nI_1, eB]; rfl) rfl (nx hlt M43 qS _))
              | (obtain ⟨q, hq⟩ := bW_s h97; have hqi := bsG_in _ q (by omega) hq; rw [hq] at h102; have hl3 : lyOK n W H (aA B g) (aD B g) (allG q.1 q.2 n W H (aA B g) (aD B g) (aT g)) := allG_ok (fun f hf => (hsU f hf).1) hok.2.1 hok.2.2.1; have hb3 := hsM.b hl3; have hls3 := ls_le (n := n) hl3 hb3 hok.2.1 hok.2.2.1; have hpg3 := pgL_le hb3 8; have hlx := lexR (a1 := n - stL (allG ii i n W H (aA B g) (aD B g) (aT g)) 8) (a2 := pgL (allG ii i n W H (aA B g) (aD B g) (aT g)) 8) (a3 := lsN (aA B g) (aD B g) (allG ii i n W H (aA B g) (aD B g) (aT g)) n) (b1 := n - stL (allG q.1 q.2 n W H (aA B g) (aD B g) (aT g)) 8) (b2 := pgL (allG q.1 q.2 n W H (aA B g) (aD B g) (aT g)) 8) (b3 := lsN (aA B g) (aD B g) (allG q.1 q.2 n W H (aA B g) (aD B g) (aT g)) n) (by omega) hpg2 hls (by omega) hpg3 hls3; have h102 := Classical.not_not.mp (fun z => h102 (hlx.mpr z)); have eB := bsG_l (sc := (fun r o => scN n (aA B g) (aD B g) (allG r o n W H (aA B g) (aD B g) (aT g)))) hlt hq h102; exact px_eq (by rw [nI_1, eB]; rfl) rfl (nx hlt M43 qS _))
              | (obtain ⟨q, hq⟩ := bW_s h97; have hqi := bsG_in _ q (by omega) hq; rw [hq] at h102; have hl3 : lyOK n W H (aA B g) (aD B g) (allG q.1 q.2 n W H (aA B g) (aD B g) (aT g)) := allG_ok (fun f hf => (hsU f hf).1) hok.2.1 hok.2.2.1; have hb3 := hsM.b hl3; have hls3 := ls_le (n := n) hl3 hb3 hok.2.1 hok.2.2.1; have hpg3 := pgL_le hb3 8; have hlx := lexR (a1 := n - stL (allG ii i n W H (aA B g) (aD B g) (aT g)) 8) (a2 := pgL (allG ii i n W H (aA B g) (aD B g) (aT g)) 8) (a3 := lsN (aA B g) (aD B g) (allG ii i n W H (aA B g) (aD B g) (aT g)) n) (b1 := n - stL (allG q.1 q.2 n W H (aA B g) (aD B g) (aT g)) 8) (b2 := pgL (allG q.1 q.2 n W H (aA B g) (aD B g) (aT g)) 8) (b3 := lsN (aA B g) (aD B g) (allG q.1 q.2 n W H (aA B g) (aD B g) (aT g)) n) (by omega) hpg2 hls (by omega) hpg3 hls3; have h102 := hlx.mp h102; have eB := bsG_k (sc := (fun r o => scN n (aA B g) (aD B g) (allG r o n W H (aA B g) (aD B g) (aT g)))) hlt hq h102; exact px_eq (by rw [nI_1, eB, hq]) rfl (nx hlt M43 qS _))
      · refine px_aload_n dX11_best_80 rfl rfl ?_
        refine px_getI dX11_best_81 fX11_323 (xol rfl) hm5 rfl ?_
        refine px_top (y := nI (lsN (aA B g) (aD B g) (allG ii i n W H (aA B g) (aD B g) (aT g)) n)) q4 ?_
        refine px_iload dX11_best_84 rfl ?_
        refine px_isub dX11_best_86 ?_
        refine px_goto 92 dX11_best_87 rfl ?_
        refine px_top (y := (if (if nI (n - stL (allG ii i n W H (aA B g) (aD B g) (aT g)) 8) - bV (fun r o => n - stL (allG r o n W H (aA B g) (aD B g) (aT g)) 8) (bsG (fun r o => scN n (aA B g) (aD B g) (allG r o n W H (aA B g) (aD B g) (aT g))) (3 * ii + i)) = 0 then nI (pgL (allG ii i n W H (aA B g) (aD B g) (aT g)) 8) - bV (fun r o => pgL (allG r o n W H (aA B g) (aD B g) (aT g)) 8) (bsG (fun r o => scN n (aA B g) (aD B g) (allG r o n W H (aA B g) (aD B g) (aT g))) (3 * ii + i)) else nI (n - stL (allG ii i n W H (aA B g) (aD B g) (aT g)) 8) - bV (fun r o => n - stL (allG r o n W H (aA B g) (aD B g) (aT g)) 8) (bsG (fun r o => scN n (aA B g) (aD B g) (allG r o n W H (aA B g) (aD B g) (aT g))) (3 * ii + i))) = 0 then nI (lsN (aA B g) (aD B g) (allG ii i n W H (aA B g) (aD B g) (aT g)) n) - bV (fun r o => lsN (aA B g) (aD B g) (allG r o n W H (aA B g) (aD B g) (aT g)) n) (bsG (fun r o => scN n (aA B g) (aD B g) (allG r o n W H (aA B g) (aD B g) (aT g))) (3 * ii + i)) else (if nI (n - stL (allG ii i n W H (aA B g) (aD B g) (aT g)) 8) - bV (fun r o => n - stL (allG r o n W H (aA B g) (aD B g) (aT g)) 8) (bsG (fun r o => scN n (aA B g) (aD B g) (allG r o n W H (aA B g) (aD B g) (aT g))) (3 * ii + i)) = 0 then nI (pgL (allG ii i n W H (aA B g) (aD B g) (aT g)) 8) - bV (fun r o => pgL (allG r o n W H (aA B g) (aD B g) (aT g)) 8) (bsG (fun r o => scN n (aA B g) (aD B g) (allG r o n W H (aA B g) (aD B g) (aT g))) (3 * ii + i)) else nI (n - stL (allG ii i n W H (aA B g) (aD B g) (aT g)) 8) - bV (fun r o => n - stL (allG r o n W H (aA B g) (aD B g) (aT g)) 8) (bsG (fun r o => scN n (aA B g) (aD B g) (allG r o n W H (aA B g) (aD B g) (aT g))) (3 * ii + i))))) (by first | exact (if_pos h77).symm | exact (if_neg h77).symm) ?_
        refine px_si_7 dX11_best_92 rfl ?_
        refine px_iload_n dX11_best_94 rfl rfl ?_
        refine px_bipush dX11_best_95 bp_m9 ?_
        refine px_icmp_eq 105 dX11_best_97 rfl (fun h97 => ?_) (fun h97 => ?_)
        · refine px_bipush dX11_best_105 bp_10 ?_
          refine px_iload dX11_best_107 rfl ?_
          refine px_imul dX11_best_109 ?_
          refine px_iload dX11_best_110 rfl ?_
          refine px_iadd dX11_best_112 ?_
          refine px_top (y := nI (10 * ii + i)) (by rw [show (10 : Int32) = nI 10 from rfl, pk_mul, nI_add]) ?_
          refine px_si_1 dX11_best_113 rfl ?_
          refine px_aload_n dX11_best_114 rfl rfl ?_
          refine px_getI dX11_best_115 fX11_320 (xol rfl) hm5 rfl ?_
          refine px_top (y := nI (msB (allG ii i n W H (aA B g) (aD B g) (aT g)) n)) (q3.trans (ms_I _ n h8)) ?_
          refine px_fS1i dX11_best_118 kX11_best_329 (Nat.le_of_ble_eq_true rfl) (c_X11_bitsOf hms) ?_
          refine px_top (y := nI (n - stL (allG ii i n W H (aA B g) (aD B g) (aT g)) 8)) (by rw [hst8]; congr 1; omega) ?_
          refine px_si_2 dX11_best_121 rfl ?_
          refine px_aload_n dX11_best_122 rfl rfl ?_
          refine px_getI dX11_best_123 fX11_317 (xol rfl) hm5 rfl ?_
          refine px_top (y := nI (pgL (allG ii i n W H (aA B g) (aD B g) (aT g)) 8)) q2 ?_
          refine px_si_3 dX11_best_126 rfl ?_
          refine px_aload_n dX11_best_127 rfl rfl ?_
          refine px_getI dX11_best_128 fX11_323 (xol rfl) hm5 rfl ?_
          refine px_top (y := nI (lsN (aA B g) (aD B g) (allG ii i n W H (aA B g) (aD B g) (aT g)) n)) q4 ?_
          refine px_si_4 dX11_best_131 rfl ?_
          refine px_inc_6 dX11_best_133 rfl ic_1 ?_
          refine px_goto 32 dX11_best_136 rfl ?_
          first
            | (have eB := bsG_n (i := ii) hlt (bW_n (by omega) h97); exact px_eq (by rw [nI_1, eB]; rfl) rfl (nx hlt M43 qS _))
            | (obtain ⟨q, hq⟩ := bW_s h97; have hqi := bsG_in _ q (by omega) hq; rw [hq] at h102; have hl3 : lyOK n W H (aA B g) (aD B g) (allG q.1 q.2 n W H (aA B g) (aD B g) (aT g)) := allG_ok (fun f hf => (hsU f hf).1) hok.2.1 hok.2.2.1; have hb3 := hsM.b hl3; have hls3 := ls_le (n := n) hl3 hb3 hok.2.1 hok.2.2.1; have hpg3 := pgL_le hb3 8; have hlx := lexR (a1 := n - stL (allG ii i n W H (aA B g) (aD B g) (aT g)) 8) (a2 := pgL (allG ii i n W H (aA B g) (aD B g) (aT g)) 8) (a3 := lsN (aA B g) (aD B g) (allG ii i n W H (aA B g) (aD B g) (aT g)) n) (b1 := n - stL (allG q.1 q.2 n W H (aA B g) (aD B g) (aT g)) 8) (b2 := pgL (allG q.1 q.2 n W H (aA B g) (aD B g) (aT g)) 8) (b3 := lsN (aA B g) (aD B g) (allG q.1 q.2 n W H (aA B g) (aD B g) (aT g)) n) (by omega) hpg2 hls (by omega) hpg3 hls3; have h102 := Classical.not_not.mp (fun z => h102 (hlx.mpr z)); have eB := bsG_l (sc := (fun r o => scN n (aA B g) (aD B g) (allG r o n W H (aA B g) (aD B g) (aT g)))) hlt hq h102; exact px_eq (by rw [nI_1, eB]; rfl) rfl (nx hlt M43 qS _))
            | (obtain ⟨q, hq⟩ := bW_s h97; have hqi := bsG_in _ q (by omega) hq; rw [hq] at h102; have hl3 : lyOK n W H (aA B g) (aD B g) (allG q.1 q.2 n W H (aA B g) (aD B g) (aT g)) := allG_ok (fun f hf => (hsU f hf).1) hok.2.1 hok.2.2.1; have hb3 := hsM.b hl3; have hls3 := ls_le (n := n) hl3 hb3 hok.2.1 hok.2.2.1; have hpg3 := pgL_le hb3 8; have hlx := lexR (a1 := n - stL (allG ii i n W H (aA B g) (aD B g) (aT g)) 8) (a2 := pgL (allG ii i n W H (aA B g) (aD B g) (aT g)) 8) (a3 := lsN (aA B g) (aD B g) (allG ii i n W H (aA B g) (aD B g) (aT g)) n) (b1 := n - stL (allG q.1 q.2 n W H (aA B g) (aD B g) (aT g)) 8) (b2 := pgL (allG q.1 q.2 n W H (aA B g) (aD B g) (aT g)) 8) (b3 := lsN (aA B g) (aD B g) (allG q.1 q.2 n W H (aA B g) (aD B g) (aT g)) n) (by omega) hpg2 hls (by omega) hpg3 hls3; have h102 := hlx.mp h102; have eB := bsG_k (sc := (fun r o => scN n (aA B g) (aD B g) (allG r o n W H (aA B g) (aD B g) (aT g)))) hlt hq h102; exact px_eq (by rw [nI_1, eB, hq]) rfl (nx hlt M43 qS _))
        · refine px_iload dX11_best_100 rfl ?_
          refine px_if_ge 133 dX11_best_102 rfl (fun h102 => ?_) (fun h102 => ?_)
          · refine px_inc_6 dX11_best_133 rfl ic_1 ?_
            refine px_goto 32 dX11_best_136 rfl ?_
            first
              | (have eB := bsG_n (i := ii) hlt (bW_n (by omega) h97); exact px_eq (by rw [nI_1, eB]; rfl) rfl (nx hlt M43 qS _))
              | (obtain ⟨q, hq⟩ := bW_s h97; have hqi := bsG_in _ q (by omega) hq; rw [hq] at h102; have hl3 : lyOK n W H (aA B g) (aD B g) (allG q.1 q.2 n W H (aA B g) (aD B g) (aT g)) := allG_ok (fun f hf => (hsU f hf).1) hok.2.1 hok.2.2.1; have hb3 := hsM.b hl3; have hls3 := ls_le (n := n) hl3 hb3 hok.2.1 hok.2.2.1; have hpg3 := pgL_le hb3 8; have hlx := lexR (a1 := n - stL (allG ii i n W H (aA B g) (aD B g) (aT g)) 8) (a2 := pgL (allG ii i n W H (aA B g) (aD B g) (aT g)) 8) (a3 := lsN (aA B g) (aD B g) (allG ii i n W H (aA B g) (aD B g) (aT g)) n) (b1 := n - stL (allG q.1 q.2 n W H (aA B g) (aD B g) (aT g)) 8) (b2 := pgL (allG q.1 q.2 n W H (aA B g) (aD B g) (aT g)) 8) (b3 := lsN (aA B g) (aD B g) (allG q.1 q.2 n W H (aA B g) (aD B g) (aT g)) n) (by omega) hpg2 hls (by omega) hpg3 hls3; have h102 := Classical.not_not.mp (fun z => h102 (hlx.mpr z)); have eB := bsG_l (sc := (fun r o => scN n (aA B g) (aD B g) (allG r o n W H (aA B g) (aD B g) (aT g)))) hlt hq h102; exact px_eq (by rw [nI_1, eB]; rfl) rfl (nx hlt M43 qS _))
              | (obtain ⟨q, hq⟩ := bW_s h97; have hqi := bsG_in _ q (by omega) hq; rw [hq] at h102; have hl3 : lyOK n W H (aA B g) (aD B g) (allG q.1 q.2 n W H (aA B g) (aD B g) (aT g)) := allG_ok (fun f hf => (hsU f hf).1) hok.2.1 hok.2.2.1; have hb3 := hsM.b hl3; have hls3 := ls_le (n := n) hl3 hb3 hok.2.1 hok.2.2.1; have hpg3 := pgL_le hb3 8; have hlx := lexR (a1 := n - stL (allG ii i n W H (aA B g) (aD B g) (aT g)) 8) (a2 := pgL (allG ii i n W H (aA B g) (aD B g) (aT g)) 8) (a3 := lsN (aA B g) (aD B g) (allG ii i n W H (aA B g) (aD B g) (aT g)) n) (b1 := n - stL (allG q.1 q.2 n W H (aA B g) (aD B g) (aT g)) 8) (b2 := pgL (allG q.1 q.2 n W H (aA B g) (aD B g) (aT g)) 8) (b3 := lsN (aA B g) (aD B g) (allG q.1 q.2 n W H (aA B g) (aD B g) (aT g)) n) (by omega) hpg2 hls (by omega) hpg3 hls3; have h102 := hlx.mp h102; have eB := bsG_k (sc := (fun r o => scN n (aA B g) (aD B g) (allG r o n W H (aA B g) (aD B g) (aT g)))) hlt hq h102; exact px_eq (by rw [nI_1, eB, hq]) rfl (nx hlt M43 qS _))
          · refine px_bipush dX11_best_105 bp_10 ?_
            refine px_iload dX11_best_107 rfl ?_
            refine px_imul dX11_best_109 ?_
            refine px_iload dX11_best_110 rfl ?_
            refine px_iadd dX11_best_112 ?_
            refine px_top (y := nI (10 * ii + i)) (by rw [show (10 : Int32) = nI 10 from rfl, pk_mul, nI_add]) ?_
            refine px_si_1 dX11_best_113 rfl ?_
            refine px_aload_n dX11_best_114 rfl rfl ?_
            refine px_getI dX11_best_115 fX11_320 (xol rfl) hm5 rfl ?_
            refine px_top (y := nI (msB (allG ii i n W H (aA B g) (aD B g) (aT g)) n)) (q3.trans (ms_I _ n h8)) ?_
            refine px_fS1i dX11_best_118 kX11_best_329 (Nat.le_of_ble_eq_true rfl) (c_X11_bitsOf hms) ?_
            refine px_top (y := nI (n - stL (allG ii i n W H (aA B g) (aD B g) (aT g)) 8)) (by rw [hst8]; congr 1; omega) ?_
            refine px_si_2 dX11_best_121 rfl ?_
            refine px_aload_n dX11_best_122 rfl rfl ?_
            refine px_getI dX11_best_123 fX11_317 (xol rfl) hm5 rfl ?_
            refine px_top (y := nI (pgL (allG ii i n W H (aA B g) (aD B g) (aT g)) 8)) q2 ?_
            refine px_si_3 dX11_best_126 rfl ?_
            refine px_aload_n dX11_best_127 rfl rfl ?_
            refine px_getI dX11_best_128 fX11_323 (xol rfl) hm5 rfl ?_
            refine px_top (y := nI (lsN (aA B g) (aD B g) (allG ii i n W H (aA B g) (aD B g) (aT g)) n)) q4 ?_
            refine px_si_4 dX11_best_131 rfl ?_
            refine px_inc_6 dX11_best_133 rfl ic_1 ?_
            refine px_goto 32 dX11_best_136 rfl ?_
            first
              | (have eB := bsG_n (i := ii) hlt (bW_n (by omega) h97); exact px_eq (by rw [nI_1, eB]; rfl) rfl (nx hlt M43 qS _))
              | (obtain ⟨q, hq⟩ := bW_s h97; have hqi := bsG_in _ q (by omega) hq; rw [hq] at h102; have hl3 : lyOK n W H (aA B g) (aD B g) (allG q.1 q.2 n W H (aA B g) (aD B g) (aT g)) := allG_ok (fun f hf => (hsU f hf).1) hok.2.1 hok.2.2.1; have hb3 := hsM.b hl3; have hls3 := ls_le (n := n) hl3 hb3 hok.2.1 hok.2.2.1; have hpg3 := pgL_le hb3 8; have hlx := lexR (a1 := n - stL (allG ii i n W H (aA B g) (aD B g) (aT g)) 8) (a2 := pgL (allG ii i n W H (aA B g) (aD B g) (aT g)) 8) (a3 := lsN (aA B g) (aD B g) (allG ii i n W H (aA B g) (aD B g) (aT g)) n) (b1 := n - stL (allG q.1 q.2 n W H (aA B g) (aD B g) (aT g)) 8) (b2 := pgL (allG q.1 q.2 n W H (aA B g) (aD B g) (aT g)) 8) (b3 := lsN (aA B g) (aD B g) (allG q.1 q.2 n W H (aA B g) (aD B g) (aT g)) n) (by omega) hpg2 hls (by omega) hpg3 hls3; have h102 := Classical.not_not.mp (fun z => h102 (hlx.mpr z)); have eB := bsG_l (sc := (fun r o => scN n (aA B g) (aD B g) (allG r o n W H (aA B g) (aD B g) (aT g)))) hlt hq h102; exact px_eq (by rw [nI_1, eB]; rfl) rfl (nx hlt M43 qS _))
              | (obtain ⟨q, hq⟩ := bW_s h97; have hqi := bsG_in _ q (by omega) hq; rw [hq] at h102; have hl3 : lyOK n W H (aA B g) (aD B g) (allG q.1 q.2 n W H (aA B g) (aD B g) (aT g)) := allG_ok (fun f hf => (hsU f hf).1) hok.2.1 hok.2.2.1; have hb3 := hsM.b hl3; have hls3 := ls_le (n := n) hl3 hb3 hok.2.1 hok.2.2.1; have hpg3 := pgL_le hb3 8; have hlx := lexR (a1 := n - stL (allG ii i n W H (aA B g) (aD B g) (aT g)) 8) (a2 := pgL (allG ii i n W H (aA B g) (aD B g) (aT g)) 8) (a3 := lsN (aA B g) (aD B g) (allG ii i n W H (aA B g) (aD B g) (aT g)) n) (b1 := n - stL (allG q.1 q.2 n W H (aA B g) (aD B g) (aT g)) 8) (b2 := pgL (allG q.1 q.2 n W H (aA B g) (aD B g) (aT g)) 8) (b3 := lsN (aA B g) (aD B g) (allG q.1 q.2 n W H (aA B g) (aD B g) (aT g)) n) (by omega) hpg2 hls (by omega) hpg3 hls3; have h102 := hlx.mp h102; have eB := bsG_k (sc := (fun r o => scN n (aA B g) (aD B g) (allG r o n W H (aA B g) (aD B g) (aT g)))) hlt hq h102; exact px_eq (by rw [nI_1, eB, hq]) rfl (nx hlt M43 qS _))

set_option maxRecDepth 100000 in
theorem l_X11_best1 {E : xE} {M : xMem} {n W H B dd : Nat} {g : Nat → Nat → Nat} {S : gLay × Nat} {P : Nat → gLay × Nat} (hc : rHy M n W H B g dd S P) (hn0 : ¬ n = 0) : ∀ m, rX M m → ∀ l6 l7, PR E mX11_best (xN M) 23 [some (.ref 74), some (.int (bW (bsG (fun r o => scN n (aA B g) (aD B g) (allG r o n W H (aA B g) (aD B g) (aT g))) (3 * 0 + 0)))), some (.int (bV (fun r o => n - stL (allG r o n W H (aA B g) (aD B g) (aT g)) 8) (bsG (fun r o => scN n (aA B g) (aD B g) (allG r o n W H (aA B g) (aD B g) (aT g))) (3 * 0 + 0)))), some (.int (bV (fun r o => pgL (allG r o n W H (aA B g) (aD B g) (aT g)) 8) (bsG (fun r o => scN n (aA B g) (aD B g) (allG r o n W H (aA B g) (aD B g) (aT g))) (3 * 0 + 0)))), some (.int (bV (fun r o => lsN (aA B g) (aD B g) (allG r o n W H (aA B g) (aD B g) (aT g)) n) (bsG (fun r o => scN n (aA B g) (aD B g) (allG r o n W H (aA B g) (aD B g) (aT g))) (3 * 0 + 0)))), some (.int (nI 0)), l6, l7] [] (m) (fun r m => r = some (.int (aBst n (aA B g) (aD B g) (fun r o => allG r o n W H (aA B g) (aD B g) (aT g))).1) ∧ rX (oR M (aBst n (aA B g) (aD B g) (fun r o => allG r o n W H (aA B g) (aD B g) (aT g))).2.1 (aBst n (aA B g) (aD B g) (fun r o => allG r o n W H (aA B g) (aD B g) (aT g))).2.2) m) := by
  have hc0 := hc
  obtain ⟨hM, hW, hsh, hok, hst, hly, hru⟩ := hc
  have h8 : n ≤ 8 := hok.1
  have hb : lyB S.1 := (hsh.s hok).b hly
  have hl : lyM (M.1 83) S.1 := lyM_c hst.2.2.1.1 (fun k _ => by rw [Nat.zero_add])
  have hpg := pgL_le hb 8
  have hsM := hsh.s hok
  have hsU := hsh.u hok
  refine px_for (P := fun i => ∀ m, rX M m → ∀ l6 l7, PR E mX11_best (xN M) 23 [some (.ref 74), some (.int (bW (bsG (fun r o => scN n (aA B g) (aD B g) (allG r o n W H (aA B g) (aD B g) (aT g))) (3 * i + 0)))), some (.int (bV (fun r o => n - stL (allG r o n W H (aA B g) (aD B g) (aT g)) 8) (bsG (fun r o => scN n (aA B g) (aD B g) (allG r o n W H (aA B g) (aD B g) (aT g))) (3 * i + 0)))), some (.int (bV (fun r o => pgL (allG r o n W H (aA B g) (aD B g) (aT g)) 8) (bsG (fun r o => scN n (aA B g) (aD B g) (allG r o n W H (aA B g) (aD B g) (aT g))) (3 * i + 0)))), some (.int (bV (fun r o => lsN (aA B g) (aD B g) (allG r o n W H (aA B g) (aD B g) (aT g)) n) (bsG (fun r o => scN n (aA B g) (aD B g) (allG r o n W H (aA B g) (aD B g) (aT g))) (3 * i + 0)))), some (.int (nI i)), l6, l7] [] (m) (fun r m => r = some (.int (aBst n (aA B g) (aD B g) (fun r o => allG r o n W H (aA B g) (aD B g) (aT g))).1) ∧ rX (oR M (aBst n (aA B g) (aD B g) (fun r o => allG r o n W H (aA B g) (aD B g) (aT g))).2.1 (aBst n (aA B g) (aD B g) (fun r o => allG r o n W H (aA B g) (aD B g) (aT g))).2.2) m)) (4) (fun i hi nx => ?_) (0) (Nat.zero_le _)
  intro m hk l6 l7
  have hm : xNT ≤ xN m := by rw [hk.m]; exact hM
  have hw : xWire m.2.1 := by rw [hk.w]; exact hW
  refine px_iload dX11_best_23 rfl ?_
  refine px_iconst dX11_best_25 ic_4 ?_
  refine px_icmp_ge 145 dX11_best_26 rfl (fun h26 => ?_) (fun h26 => ?_)
  · have hi2 : i = 4 := by rw [show (4 : Int32) = nI 4 from rfl, nI_leI (by omega) (by omega)] at h26; omega
    subst hi2
    refine px_aload_n dX11_best_145 rfl rfl ?_
    refine px_iload_n dX11_best_146 rfl rfl ?_
    refine px_iload_n dX11_best_147 rfl rfl ?_
    refine px_fV2i dX11_best_148 kX11_best_91 (xol rfl) hm (Nat.le_of_ble_eq_true rfl) (c_X11_tells hm) ?_
    exact px_iret dX11_best_151 rfl (by rw [show aBst n (aA B g) (aD B g) (fun r o => allG r o n W H (aA B g) (aD B g) (aT g)) = (bW (bsG (fun r o => scN n (aA B g) (aD B g) (allG r o n W H (aA B g) (aD B g) (aT g))) 12), some (bV (fun r o => pgL (allG r o n W H (aA B g) (aD B g) (aT g)) 8) (bsG (fun r o => scN n (aA B g) (aD B g) (allG r o n W H (aA B g) (aD B g) (aT g))) 12)), none) from by unfold aBst; rw [if_neg hn0]]; exact ⟨rfl, hk.wI _⟩) (hk.m)
  · have hlt : i < 4 := by rw [show (4 : Int32) = nI 4 from rfl, nI_leI (by omega) (by omega)] at h26; omega
    refine px_iconst dX11_best_29 ic_0 ?_
    refine px_si_6 dX11_best_30 rfl ?_
    exact l_X11_best2 hc0 hn0 hlt (nx hlt) m hk _

set_option maxRecDepth 100000 in
theorem c_X11_best {E : xE} {M : xMem} {n W H B dd : Nat} {g : Nat → Nat → Nat} {S : gLay × Nat} {P : Nat → gLay × Nat} (hc : rHy M n W H B g dd S P) : Ct E mX11_best [.ref 74] M (xN M) (fun r m => r = some (.int (aBst n (aA B g) (aD B g) (fun r o => allG r o n W H (aA B g) (aD B g) (aT g))).1) ∧ rX (oR M (aBst n (aA B g) (aD B g) (fun r o => allG r o n W H (aA B g) (aD B g) (aT g))).2.1 (aBst n (aA B g) (aD B g) (fun r o => allG r o n W H (aA B g) (aD B g) (aT g))).2.2) m) := by
  have hc0 := hc
  obtain ⟨hM, hW, hsh, hok, hst, hly, hru⟩ := hc
  have h8 : n ≤ 8 := hok.1
  have hb : lyB S.1 := (hsh.s hok).b hly
  have hl : lyM (M.1 83) S.1 := lyM_c hst.2.2.1.1 (fun k _ => by rw [Nat.zero_add])
  have hpg := pgL_le hb 8
  have hsM := hsh.s hok
  have hsU := hsh.u hok
  refine Ct.of (lo := [some (.ref 74), none, none, none, none, none, none, none]) pln_X11 (Nat.le_of_ble_eq_true rfl) rfl (Nat.le_refl _) ?_
  refine px_aload_n dX11_best_0 rfl rfl ?_
  refine px_getI dX11_best_1 fX11_179 (xol rfl) hM rfl ?_
  refine px_top (y := nI n) hsh.1 ?_
  refine px_if_ne 10 dX11_best_4 rfl (fun h4 => ?_) (fun h4 => ?_)
  · have hn0 : ¬ n = 0 := fun z => h4 ((n0_i h8).mpr z)
    refine px_bipush dX11_best_10 bp_m9 ?_
    refine px_si_1 dX11_best_12 rfl ?_
    refine px_iconst dX11_best_13 ic_0 ?_
    refine px_si_2 dX11_best_14 rfl ?_
    refine px_iconst dX11_best_15 ic_0 ?_
    refine px_si_3 dX11_best_16 rfl ?_
    refine px_iconst dX11_best_17 ic_0 ?_
    refine px_si_4 dX11_best_18 rfl ?_
    refine px_iconst dX11_best_20 ic_0 ?_
    refine px_si_5 dX11_best_21 rfl ?_
    exact l_X11_best1 hc0 hn0 M (rX.rf M) _ _
  · refine px_bipush dX11_best_7 bp_m4 ?_
    exact px_iret dX11_best_9 rfl (by rw [show aBst n (aA B g) (aD B g) (fun r o => allG r o n W H (aA B g) (aD B g) (aT g)) = (-4, none, none) from if_pos ((n0_i h8).mp h4)]; exact ⟨rfl, rX.rf M⟩) (rfl)
