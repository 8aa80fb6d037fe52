/-! ===== lots ===== -/
theorem px_ldcw {E : xE} {d : xMD} {ne pc : Nat} {lo : List (Option Value)} {st : List Value} {M : xMem} {Q : Option Value → xMem → Prop} {index : Nat} {v : Int32} (hd : decode d.co pc = .ok (.ldc_w index, 3)) (hw : Cond.constant d.nm.cls index v ∈ xwl) (k : PR E d ne (pc + 3) lo (.int v :: st) M Q) : PR E d ne pc lo st M Q := by
  intro p e R s m args below meth c H ls locs cells slots Z S
  exact lv_ldcw S.1.1 S.1.2.1 S.1.2.2.2.1 (S.1.2.2.2.2.1 _ hw) hd (k _ _ _ _ _ _ _ _ _ _ _ _ _ _ _ S)
def ltV (sd : Nat) : Nat → Nat
  | 0 => sd
  | k + 1 => ltV sd k * 48271 % 2147483647
theorem ltV_lt {sd : Nat} (h : sd < 2147483647) : ∀ k, ltV sd k < 2147483647
  | 0 => h
  | k + 1 => Nat.mod_lt _ (by decide)
theorem ltV_l {sd : Nat} (h : sd < 2147483647) (k : Nat) : lN (ltV sd k) * 48271 - lN (ltV sd k) * 48271 / 2147483647 * 2147483647 = lN (ltV sd (k + 1)) := by
  have := ltV_lt h k
  rw [show (48271 : Int64) = lN 48271 from rfl, show (2147483647 : Int64) = lN 2147483647 from rfl, lN_mul, pk_lRem (by omega) (by decide) (by decide)]
  rfl
noncomputable def dlS (n W H : Nat) (A D T : Nat → Nat) (v : Nat) (S : gLay × Nat) : gLay × Nat := if v % 8 = 0 then (S.1, v / 64 % 4) else if 4 < v % 8 then (uly S.1 (v / 8 % n) none, S.2) else if ¬ S.1 (v / 8 % n) = none then S else (uly S.1 (v / 8 % n) (spG S.2 W H A D (T (v / 8 % n)) (v / 8 % n) S.1), S.2)
theorem dlS_ok {n W H : Nat} {A D T : Nat → Nat} {S : gLay × Nat} (hn0 : ¬ n = 0) (hT : ∀ f, f < n → T f ≤ 2) (hW : W ≤ 16) (hH : H ≤ 16) (v : Nat) (h : lyOK n W H A D S.1 ∧ S.2 < 4) : lyOK n W H A D (dlS n W H A D T v S).1 ∧ (dlS n W H A D T v S).2 < 4 := by
  have hf : v / 8 % n < n := Nat.mod_lt _ (by omega)
  unfold dlS
  split
  · exact ⟨h.1, Nat.mod_lt _ (by decide)⟩
  · split
    · exact ⟨uly_none h.1, h.2⟩
    · split
      · exact h
      · exact ⟨setG_ok h.1 hf (hT _ hf) hW hH, h.2⟩
noncomputable def ltS (n W H : Nat) (A D T : Nat → Nat) (sd : Nat) (S : gLay × Nat) : Nat → gLay × Nat
  | 0 => S
  | k + 1 => dlS n W H A D T (ltV sd (k + 1)) (ltS n W H A D T sd S k)
noncomputable def ltP (n W H : Nat) (A D T : Nat → Nat) (sd dd : Nat) (S : gLay × Nat) (P : Nat → gLay × Nat) : Nat → Nat → gLay × Nat
  | 0 => P
  | k + 1 => psh (ltP n W H A D T sd dd S P k) (dd + k) (ltS n W H A D T sd S k)
theorem ltS_ok {n W H : Nat} {A D T : Nat → Nat} {S : gLay × Nat} (hn0 : ¬ n = 0) (hT : ∀ f, f < n → T f ≤ 2) (hW : W ≤ 16) (hH : H ≤ 16) (sd : Nat) (h : lyOK n W H A D S.1 ∧ S.2 < 4) : ∀ k, lyOK n W H A D (ltS n W H A D T sd S k).1 ∧ (ltS n W H A D T sd S k).2 < 4
  | 0 => h
  | k + 1 => dlS_ok hn0 hT hW hH _ (ltS_ok hn0 hT hW hH sd h k)
noncomputable def aLot (n W H : Nat) (A D T : Nat → Nat) (dd : Nat) (S : gLay × Nat) (P : Nat → gLay × Nat) (v w : Int32) : aDeed := if ¬ (1 ≤ v ∧ v ≤ 20) then (-1, dd, S, P) else if ¬ (1 ≤ w ∧ w ≤ 2147483646) then (-1, dd, S, P) else if n = 0 then (-4, dd, S, P) else if ¬ dd + v.toNatClampNeg ≤ 40 then (-2, dd, S, P) else (nI (stL (ltS n W H A D T w.toNatClampNeg S v.toNatClampNeg).1 8), dd + v.toNatClampNeg, ltS n W H A D T w.toNatClampNeg S v.toNatClampNeg, ltP n W H A D T w.toNatClampNeg dd S P v.toNatClampNeg)

set_option maxRecDepth 100000 in
theorem c_X10_doLot {E : xE} {M : xMem} {s n W H B dd : Nat} {g : Nat → Nat → Nat} {S : gLay × Nat} {P : Nat → gLay × Nat} (hc : cHy M s n W H B g dd S P) (hn0 : ¬ n = 0) {v : Nat} (hv : v < 2147483647) : Ct E mX10_doLot [.ref 1, .int (nI v)] M (xN M) (fun r m => r = none ∧ cD M m ∧ stC m 6 dd (dlS n W H (aA B g) (aD B g) (aT g) v S) P) := by
  have hc0 := hc
  obtain ⟨hM, hW, hs, hcu, hsh, hok, hst, hly, hru⟩ := hc
  have hp0 : 0 < s := hs.1
  have h8 : n ≤ 8 := hok.1
  have hb : lyB S.1 := (hsh.s hok).b hly
  have hl : lyC (M.1 8) S.1 := hst.2.2.1
  have hpg := pgL_le hb 8
  have hn8 := h8
  have hd4 : dd ≤ 40 := hst.2.1
  have hsC := hsh.s hok
  have hsT := hsh.t hok
  have h7 := xob_7 hs
  refine Ct.of (lo := [some (.ref 1), some (.int (nI v)), none, none, none]) pln_X10 (Nat.le_of_ble_eq_true rfl) rfl (Nat.le_refl _) ?_
  refine px_aload_n dX10_doLot_0 rfl rfl ?_
  refine px_fV0i dX10_doLot_1 kX10_doLot_141 (xol rfl) hM (Nat.le_of_ble_eq_true rfl) (c_X10_hasNoSheet hM hs hcu hp0) ?_
  refine px_top (y := zb (n = 0)) (by rw [hsh.1]; exact no_c h8) ?_
  refine px_zif_eq 8 dX10_doLot_4 rfl (fun h4 => ?_) (fun h4 => ?_)
  · have hfn : v / 8 % n < n := Nat.mod_lt _ (by omega)
    have hnf : (nI (v / 8 % n)).toNatClampNeg = v / 8 % n := nI_clamp (by omega)
    have hfi : vp_in (nI (v / 8 % n)) 8 := vp_in_nI (by omega) (by decide)
    refine px_iload_n dX10_doLot_8 rfl rfl ?_
    refine px_bipush dX10_doLot_9 bp_8 ?_
    refine px_idiv dX10_doLot_11 (by decide) ?_
    refine px_top (y := nI (v / 8)) (pk_div (d := 8) (by omega) (by decide) (by decide)) ?_
    refine px_aload_n dX10_doLot_12 rfl rfl ?_
    refine px_getR dX10_doLot_13 fX10_71 (xol rfl) hM rfl (by assumption) (by assumption) ?_
    refine px_getI dX10_doLot_16 fX10_140 hs hM rfl ?_
    refine px_top (y := nI n) hsh.1 ?_
    refine px_irem dX10_doLot_19 (fun z => hn0 ((n0_i h8).mp z)) ?_
    refine px_top (y := nI (v / 8 % n)) (pk_rem (by omega) (by omega) (by omega)) ?_
    refine px_si_2 dX10_doLot_20 rfl ?_
    refine px_iload_n dX10_doLot_21 rfl rfl ?_
    refine px_bipush dX10_doLot_22 bp_8 ?_
    refine px_irem dX10_doLot_24 (by decide) ?_
    refine px_top (y := nI (v % 8)) (pk_rem (d := 8) (by omega) (by decide) (by decide)) ?_
    refine px_si_3 dX10_doLot_25 rfl ?_
    refine px_aload_n dX10_doLot_26 rfl rfl ?_
    refine px_getR dX10_doLot_27 fX10_32 (xol rfl) hM rfl (wr_10_4 hW (xol rfl)) (Nat.succ_pos _) ?_
    refine px_getR dX10_doLot_30 fX10_163 (xol rfl) hM rfl (wr_8_0 hW (xol rfl)) (Nat.succ_pos _) ?_
    refine px_sa_4 dX10_doLot_33 rfl ?_
    refine px_iload_n dX10_doLot_35 rfl rfl ?_
    refine px_if_ne 53 dX10_doLot_36 rfl (fun h36 => ?_) (fun h36 => ?_)
    · have h36n : ¬ v % 8 = 0 := fun z => h36 (by rw [z]; rfl)
      refine px_iload_n dX10_doLot_53 rfl rfl ?_
      refine px_iconst dX10_doLot_54 ic_4 ?_
      refine px_icmp_le 70 dX10_doLot_55 rfl (fun h55 => ?_) (fun h55 => ?_)
      · have h55n : ¬ 4 < v % 8 := by rw [show (4 : Int32) = nI 4 from rfl, nI_leI (by omega) (by omega)] at h55; omega
        refine px_aload dX10_doLot_70 rfl ?_
        refine px_iload_n dX10_doLot_72 rfl rfl ?_
        refine px_fV1i dX10_doLot_73 kX10_doLot_166 (xol rfl) hM (Nat.le_of_ble_eq_true rfl) (c_X1_isSet (a := 7) (xol rfl) hM hW hfi) ?_
        refine px_top (y := zb (¬ S.1 (v / 8 % n) = none)) (lyC_is hl hb (by omega)) ?_
        refine px_zif_ne 100 dX10_doLot_76 rfl (fun h76 => ?_) (fun h76 => ?_)
        · exact px_ret dX10_doLot_100 rfl (by first
                | (rw [show dlS n W H (aA B g) (aD B g) (aT g) v S = (S.1, v / 64 % 4) from if_pos h36n]; exact ⟨rfl, cD.wI (by omega), stC_ly hst (by funext k; rw [xI_wI, if_neg (fun z => by omega)]) (by funext k; rw [xI_wI, if_neg (fun z => by omega)]) (lyC_c hst.2.2.1 (fun k _ => by rw [xI_wI, if_neg (fun z => by omega)])) (wI_self _ _ _ _)⟩)
                | (rw [show dlS n W H (aA B g) (aD B g) (aT g) v S = (uly S.1 (v / 8 % n) none, S.2) from by unfold dlS; rw [if_neg h36n, if_pos h55n]]; exact ⟨rfl, cD.wI (by omega), stC_ly hst (by funext k; rw [xI_wI, if_neg (fun z => by omega)]) (by funext k; rw [xI_wI, if_neg (fun z => by omega)]) (lyC_c (upC_no hst.2.2.1) (fun k hk => by rw [xI_wI, hnf]; by_cases z : k = v / 8 % n; (rw [if_pos ⟨rfl, z⟩, if_pos z]); (rw [if_neg (fun y => z y.2), if_neg z]))) (by rw [xI_wI, if_neg (fun z => by omega)]; exact hst.2.2.2.1)⟩)
                | (rw [show dlS n W H (aA B g) (aD B g) (aT g) v S = S from by unfold dlS; rw [if_neg h36n, if_neg h55n, if_pos h76]]; exact ⟨rfl, cD.rf M, hst⟩)
                | (rw [show dlS n W H (aA B g) (aD B g) (aT g) v S = (uly S.1 (v / 8 % n) (spG S.2 W H (aA B g) (aD B g) (aT g (v / 8 % n)) (v / 8 % n) S.1), S.2) from by unfold dlS; rw [if_neg h36n, if_neg h55n, if_neg h76]]; exact ⟨rfl, q1.d.tr (cD.wI (by omega)), stC_ly hst1 (by funext k; rw [xI_wI, if_neg (fun z => by omega)]) (by funext k; rw [xI_wI, if_neg (fun z => by omega)]) (lyC_c (upC_sp _ hst1.2.2.1) (fun k hk => by rw [xI_wI, hnf]; by_cases z : k = v / 8 % n; (rw [if_pos ⟨rfl, z⟩, if_pos z]); (rw [if_neg (fun y => z y.2), if_neg z]))) (by rw [xI_wI, if_neg (fun z => by omega)]; exact hst1.2.2.2.1)⟩)) (by first | rfl | exact hn96)
        · refine px_aload dX10_doLot_79 rfl ?_
          refine px_getR dX10_doLot_81 fX10_204 (xol rfl) hM rfl (wr_1_0 hW (xol rfl)) (Nat.succ_pos _) ?_
          refine px_iload_n dX10_doLot_84 rfl rfl ?_
          refine px_aload_n dX10_doLot_85 rfl rfl ?_
          refine px_getR dX10_doLot_86 fX10_53 (xol rfl) hM rfl (wr_10_7 hW (xol rfl)) (Nat.succ_pos _) ?_
          refine px_aload_n dX10_doLot_89 rfl rfl ?_
          refine px_getR dX10_doLot_90 fX10_71 (xol rfl) hM rfl (by assumption) (by assumption) ?_
          refine px_aload dX10_doLot_93 rfl ?_
          refine px_iload_n dX10_doLot_95 rfl rfl ?_
          refine px_gV3 dX10_doLot_96 kX10_doLot_194 (xol rfl) hM (Nat.le_of_ble_eq_true rfl) (c_X2_spotFor (la := 7) (T := aT g (v / 8 % n)) hM hW hs (xol rfl) hsC hl hly hfn hst.2.2.2.1 hru (hsT _ hfn).1 (hsT _ hfn).2) (fun r96 M96 hq96 hn96 => ?_)
          obtain ⟨rfl, q1⟩ := hq96
          have hm : xNT ≤ xN M96 := by rw [hn96]; exact hM
          have hst1 : stC M96 6 dd S P := stC_k hst (fun b b1 b2 => q1.2 b (by omega) (by omega) (by omega))
          refine px_iast dX10_doLot_99 (ar_1 (xol rfl)) hm hfi ?_
          exact px_ret dX10_doLot_100 rfl (by first
                | (rw [show dlS n W H (aA B g) (aD B g) (aT g) v S = (S.1, v / 64 % 4) from if_pos h36n]; exact ⟨rfl, cD.wI (by omega), stC_ly hst (by funext k; rw [xI_wI, if_neg (fun z => by omega)]) (by funext k; rw [xI_wI, if_neg (fun z => by omega)]) (lyC_c hst.2.2.1 (fun k _ => by rw [xI_wI, if_neg (fun z => by omega)])) (wI_self _ _ _ _)⟩)
                | (rw [show dlS n W H (aA B g) (aD B g) (aT g) v S = (uly S.1 (v / 8 % n) none, S.2) from by unfold dlS; rw [if_neg h36n, if_pos h55n]]; exact ⟨rfl, cD.wI (by omega), stC_ly hst (by funext k; rw [xI_wI, if_neg (fun z => by omega)]) (by funext k; rw [xI_wI, if_neg (fun z => by omega)]) (lyC_c (upC_no hst.2.2.1) (fun k hk => by rw [xI_wI, hnf]; by_cases z : k = v / 8 % n; (rw [if_pos ⟨rfl, z⟩, if_pos z]); (rw [if_neg (fun y => z y.2), if_neg z]))) (by rw [xI_wI, if_neg (fun z => by omega)]; exact hst.2.2.2.1)⟩)
                | (rw [show dlS n W H (aA B g) (aD B g) (aT g) v S = S from by unfold dlS; rw [if_neg h36n, if_neg h55n, if_pos h76]]; exact ⟨rfl, cD.rf M, hst⟩)
                | (rw [show dlS n W H (aA B g) (aD B g) (aT g) v S = (uly S.1 (v / 8 % n) (spG S.2 W H (aA B g) (aD B g) (aT g (v / 8 % n)) (v / 8 % n) S.1), S.2) from by unfold dlS; rw [if_neg h36n, if_neg h55n, if_neg h76]]; exact ⟨rfl, q1.d.tr (cD.wI (by omega)), stC_ly hst1 (by funext k; rw [xI_wI, if_neg (fun z => by omega)]) (by funext k; rw [xI_wI, if_neg (fun z => by omega)]) (lyC_c (upC_sp _ hst1.2.2.1) (fun k hk => by rw [xI_wI, hnf]; by_cases z : k = v / 8 % n; (rw [if_pos ⟨rfl, z⟩, if_pos z]); (rw [if_neg (fun y => z y.2), if_neg z]))) (by rw [xI_wI, if_neg (fun z => by omega)]; exact hst1.2.2.2.1)⟩)) (by first | rfl | exact hn96)
      · have h55n : 4 < v % 8 := by rw [show (4 : Int32) = nI 4 from rfl, nI_leI (by omega) (by omega)] at h55; omega
        refine px_aload dX10_doLot_58 rfl ?_
        refine px_getR dX10_doLot_60 fX10_204 (xol rfl) hM rfl (wr_1_0 hW (xol rfl)) (Nat.succ_pos _) ?_
        refine px_iload_n dX10_doLot_63 rfl rfl ?_
        refine px_bipush dX10_doLot_64 bp_m9 ?_
        refine px_iast dX10_doLot_66 (ar_1 (xol rfl)) hM hfi ?_
        refine px_goto 100 dX10_doLot_67 rfl ?_
        exact px_ret dX10_doLot_100 rfl (by first
              | (rw [show dlS n W H (aA B g) (aD B g) (aT g) v S = (S.1, v / 64 % 4) from if_pos h36n]; exact ⟨rfl, cD.wI (by omega), stC_ly hst (by funext k; rw [xI_wI, if_neg (fun z => by omega)]) (by funext k; rw [xI_wI, if_neg (fun z => by omega)]) (lyC_c hst.2.2.1 (fun k _ => by rw [xI_wI, if_neg (fun z => by omega)])) (wI_self _ _ _ _)⟩)
              | (rw [show dlS n W H (aA B g) (aD B g) (aT g) v S = (uly S.1 (v / 8 % n) none, S.2) from by unfold dlS; rw [if_neg h36n, if_pos h55n]]; exact ⟨rfl, cD.wI (by omega), stC_ly hst (by funext k; rw [xI_wI, if_neg (fun z => by omega)]) (by funext k; rw [xI_wI, if_neg (fun z => by omega)]) (lyC_c (upC_no hst.2.2.1) (fun k hk => by rw [xI_wI, hnf]; by_cases z : k = v / 8 % n; (rw [if_pos ⟨rfl, z⟩, if_pos z]); (rw [if_neg (fun y => z y.2), if_neg z]))) (by rw [xI_wI, if_neg (fun z => by omega)]; exact hst.2.2.2.1)⟩)
              | (rw [show dlS n W H (aA B g) (aD B g) (aT g) v S = S from by unfold dlS; rw [if_neg h36n, if_neg h55n, if_pos h76]]; exact ⟨rfl, cD.rf M, hst⟩)
              | (rw [show dlS n W H (aA B g) (aD B g) (aT g) v S = (uly S.1 (v / 8 % n) (spG S.2 W H (aA B g) (aD B g) (aT g (v / 8 % n)) (v / 8 % n) S.1), S.2) from by unfold dlS; rw [if_neg h36n, if_neg h55n, if_neg h76]]; exact ⟨rfl, q1.d.tr (cD.wI (by omega)), stC_ly hst1 (by funext k; rw [xI_wI, if_neg (fun z => by omega)]) (by funext k; rw [xI_wI, if_neg (fun z => by omega)]) (lyC_c (upC_sp _ hst1.2.2.1) (fun k hk => by rw [xI_wI, hnf]; by_cases z : k = v / 8 % n; (rw [if_pos ⟨rfl, z⟩, if_pos z]); (rw [if_neg (fun y => z y.2), if_neg z]))) (by rw [xI_wI, if_neg (fun z => by omega)]; exact hst1.2.2.2.1)⟩)) (by first | rfl | exact hn96)
    · have h36n : v % 8 = 0 := nI_is (show (0 : Int32) = nI 0 from rfl) (by omega) (by decide) h36
      refine px_aload dX10_doLot_39 rfl ?_
      refine px_iload_n dX10_doLot_41 rfl rfl ?_
      refine px_bipush dX10_doLot_42 bp_64 ?_
      refine px_idiv dX10_doLot_44 (by decide) ?_
      refine px_top (y := nI (v / 64)) (pk_div (d := 64) (by omega) (by decide) (by decide)) ?_
      refine px_iconst dX10_doLot_45 ic_4 ?_
      refine px_irem dX10_doLot_46 (by decide) ?_
      refine px_top (y := nI (v / 64 % 4)) (pk_rem (d := 4) (by omega) (by decide) (by decide)) ?_
      refine px_putI dX10_doLot_47 fX10_217 p1_1 (xol rfl) hM rfl ?_
      refine px_goto 100 dX10_doLot_50 rfl ?_
      exact px_ret dX10_doLot_100 rfl (by first
            | (rw [show dlS n W H (aA B g) (aD B g) (aT g) v S = (S.1, v / 64 % 4) from if_pos h36n]; exact ⟨rfl, cD.wI (by omega), stC_ly hst (by funext k; rw [xI_wI, if_neg (fun z => by omega)]) (by funext k; rw [xI_wI, if_neg (fun z => by omega)]) (lyC_c hst.2.2.1 (fun k _ => by rw [xI_wI, if_neg (fun z => by omega)])) (wI_self _ _ _ _)⟩)
            | (rw [show dlS n W H (aA B g) (aD B g) (aT g) v S = (uly S.1 (v / 8 % n) none, S.2) from by unfold dlS; rw [if_neg h36n, if_pos h55n]]; exact ⟨rfl, cD.wI (by omega), stC_ly hst (by funext k; rw [xI_wI, if_neg (fun z => by omega)]) (by funext k; rw [xI_wI, if_neg (fun z => by omega)]) (lyC_c (upC_no hst.2.2.1) (fun k hk => by rw [xI_wI, hnf]; by_cases z : k = v / 8 % n; (rw [if_pos ⟨rfl, z⟩, if_pos z]); (rw [if_neg (fun y => z y.2), if_neg z]))) (by rw [xI_wI, if_neg (fun z => by omega)]; exact hst.2.2.2.1)⟩)
            | (rw [show dlS n W H (aA B g) (aD B g) (aT g) v S = S from by unfold dlS; rw [if_neg h36n, if_neg h55n, if_pos h76]]; exact ⟨rfl, cD.rf M, hst⟩)
            | (rw [show dlS n W H (aA B g) (aD B g) (aT g) v S = (uly S.1 (v / 8 % n) (spG S.2 W H (aA B g) (aD B g) (aT g (v / 8 % n)) (v / 8 % n) S.1), S.2) from by unfold dlS; rw [if_neg h36n, if_neg h55n, if_neg h76]]; exact ⟨rfl, q1.d.tr (cD.wI (by omega)), stC_ly hst1 (by funext k; rw [xI_wI, if_neg (fun z => by omega)]) (by funext k; rw [xI_wI, if_neg (fun z => by omega)]) (lyC_c (upC_sp _ hst1.2.2.1) (fun k hk => by rw [xI_wI, hnf]; by_cases z : k = v / 8 % n; (rw [if_pos ⟨rfl, z⟩, if_pos z]); (rw [if_neg (fun y => z y.2), if_neg z]))) (by rw [xI_wI, if_neg (fun z => by omega)]; exact hst1.2.2.2.1)⟩)) (by first | rfl | exact hn96)
  · exact px_ret dX10_doLot_7 rfl (absurd h4 hn0) (by first | rfl | exact hn96)

set_option maxRecDepth 100000 in
theorem l_X10_lots {E : xE} {M : xMem} {s n W H B dd : Nat} {g : Nat → Nat → Nat} {S : gLay × Nat} {P : Nat → gLay × Nat} (hc : cHy M s n W H B g dd S P) (hn0 : ¬ n = 0) {cn sd : Nat} (hsd : sd < 2147483647) (h40 : dd + cn ≤ 40) : ∀ m, cD M m → stC m 6 (dd + 0) (ltS n W H (aA B g) (aD B g) (aT g) sd S 0) (ltP n W H (aA B g) (aD B g) (aT g) sd dd S P 0) → PR E mX10_lots (xN M) 58 [some (.ref 1), some (.int (nI cn)), some (.int (nI sd)), some (.long (lN (ltV sd 0))), none, some (.int (nI 0))] [] (m) (fun r m => r = some (.int (nI (stL (ltS n W H (aA B g) (aD B g) (aT g) sd S cn).1 8))) ∧ cD M m ∧ stC m 6 (dd + cn) (ltS n W H (aA B g) (aD B g) (aT g) sd S cn) (ltP n W H (aA B g) (aD B g) (aT g) sd dd S P cn)) := by
  have hc0 := hc
  obtain ⟨hM, hW, hs, hcu, hsh, hok, hst, hly, hru⟩ := hc
  have hp0 : 0 < s := hs.1
  have h8 : n ≤ 8 := hok.1
  have hb : lyB S.1 := (hsh.s hok).b hly
  have hl : lyC (M.1 8) S.1 := hst.2.2.1
  have hpg := pgL_le hb 8
  have hn8 := h8
  have hd4 : dd ≤ 40 := hst.2.1
  have hsC := hsh.s hok
  have hsT := hsh.t hok
  have h7 := xob_7 hs
  refine px_for (P := fun i => ∀ m, cD M m → stC m 6 (dd + i) (ltS n W H (aA B g) (aD B g) (aT g) sd S i) (ltP n W H (aA B g) (aD B g) (aT g) sd dd S P i) → PR E mX10_lots (xN M) 58 [some (.ref 1), some (.int (nI cn)), some (.int (nI sd)), some (.long (lN (ltV sd i))), none, some (.int (nI i))] [] (m) (fun r m => r = some (.int (nI (stL (ltS n W H (aA B g) (aD B g) (aT g) sd S cn).1 8))) ∧ cD M m ∧ stC m 6 (dd + cn) (ltS n W H (aA B g) (aD B g) (aT g) sd S cn) (ltP n W H (aA B g) (aD B g) (aT g) sd dd S P cn))) (cn) (fun i hi nx => ?_) (0) (Nat.zero_le _)
  intro m hk hst1
  have hm : xNT ≤ xN m := by rw [hk.m]; exact hM
  have hw : xWire m.2.1 := by rw [hk.w]; exact hW
  have hoS := ltS_ok hn0 (fun f hf => (hsT f hf).1) hok.2.1 hok.2.2.1 sd (S := S) ⟨hly, hru⟩ i
  have hbi := hsC.b hoS.1
  refine px_iload dX10_lots_58 rfl ?_
  refine px_iload_n dX10_lots_60 rfl rfl ?_
  refine px_icmp_ge 93 dX10_lots_61 rfl (fun h61 => ?_) (fun h61 => ?_)
  · have hi2 : i = cn := by rw [nI_leI (by omega) (by omega)] at h61; omega
    subst hi2
    refine px_aload_n dX10_lots_93 rfl rfl ?_
    refine px_getR dX10_lots_94 fX10_32 (xol rfl) hm rfl (wr_10_4 hw (xol rfl)) (Nat.succ_pos _) ?_
    refine px_getR dX10_lots_97 fX10_163 (xol rfl) hm rfl (wr_8_0 hw (xol rfl)) (Nat.succ_pos _) ?_
    refine px_fV0i dX10_lots_100 kX10_lots_304 (xol rfl) hm (Nat.le_of_ble_eq_true rfl) (c_X1_framesSet (la := 7) hm hw (xol rfl) hst1.2.2.1 hbi) ?_
    exact px_iret dX10_lots_103 rfl ⟨rfl, hk, hst1⟩ (hk.m)
  · have hlt : i < cn := by rw [nI_leI (by omega) (by omega)] at h61; omega
    refine px_lload_n dX10_lots_64 rfl rfl ?_
    refine px_ldc2 dX10_lots_65 xw963 ?_
    refine px_lmul dX10_lots_68 ?_
    refine px_ldc2 dX10_lots_69 xw964 ?_
    refine px_lrem dX10_lots_72 (by decide) ?_
    refine px_topl (y := lN (ltV sd (i + 1))) (ltV_l hsd i) ?_
    refine px_sl_3 dX10_lots_73 rfl ?_
    have hc2 : cHy (stBeg m 6 (dd + i)) s n W H B g (dd + i + 1) (ltS n W H (aA B g) (aD B g) (aT g) sd S i) (psh (ltP n W H (aA B g) (aD B g) (aT g) sd dd S P i) (dd + i) (ltS n W H (aA B g) (aD B g) (aT g) sd S i)) := ⟨hm, hw, hs, (by show m.2.1 1 10 = s; rw [hk.w]; exact hcu), (hk.tr (cD.beg m (dd + i))).sh hs hsh h8, hok, stBeg_st hst1 (by omega), hoS.1, hoS.2⟩
    refine px_aload_n dX10_lots_74 rfl rfl ?_
    refine px_getR dX10_lots_75 fX10_32 (xol rfl) hm rfl (wr_10_4 hw (xol rfl)) (Nat.succ_pos _) ?_
    refine px_fV0v dX10_lots_78 kX10_lots_201 (xol rfl) hm (Nat.le_of_ble_eq_true rfl) (c_X8_beginDeed (a := 6) (dd := dd + i) (xol rfl) hm hw hst1.1 (by omega)) ?_
    refine px_aload_n dX10_lots_81 rfl rfl ?_
    refine px_lload_n dX10_lots_82 rfl rfl ?_
    refine px_l2i dX10_lots_83 ?_
    refine px_top (y := nI (ltV sd (i + 1))) (lN_i _) ?_
    refine px_gV1 dX10_lots_84 kX10_lots_301 (xol rfl) hm (Nat.le_of_ble_eq_true rfl) (c_X10_doLot hc2 hn0 (ltV_lt hsd _)) (fun r84 M84 hq84 hn84 => ?_)
    obtain ⟨rfl, q1, q2⟩ := hq84
    refine px_inc_5 dX10_lots_87 rfl ic_1 ?_
    refine px_goto 58 dX10_lots_90 rfl ?_
    exact px_eq (by rw [nI_1]) rfl (nx hlt M84 (hk.tr ((cD.beg m _).tr q1)) q2)

set_option maxRecDepth 100000 in
theorem c_X10_lots {E : xE} {M : xMem} {s n W H B dd : Nat} {g : Nat → Nat → Nat} {S : gLay × Nat} {P : Nat → gLay × Nat} (hc : cHy M s n W H B g dd S P) {v w : Int32} : Ct E mX10_lots [.ref 1, .int v, .int w] M (xN M) (fun r m => r = some (.int (aLot n W H (aA B g) (aD B g) (aT g) dd S P v w).1) ∧ cD M m ∧ stC m 6 (aLot n W H (aA B g) (aD B g) (aT g) dd S P v w).2.1 (aLot n W H (aA B g) (aD B g) (aT g) dd S P v w).2.2.1 (aLot n W H (aA B g) (aD B g) (aT g) dd S P v w).2.2.2) := by
  have hc0 := hc
  obtain ⟨hM, hW, hs, hcu, hsh, hok, hst, hly, hru⟩ := hc
  have hp0 : 0 < s := hs.1
  have h8 : n ≤ 8 := hok.1
  have hb : lyB S.1 := (hsh.s hok).b hly
  have hl : lyC (M.1 8) S.1 := hst.2.2.1
  have hpg := pgL_le hb 8
  have hn8 := h8
  have hd4 : dd ≤ 40 := hst.2.1
  have hsC := hsh.s hok
  have hsT := hsh.t hok
  have h7 := xob_7 hs
  refine Ct.of (lo := [some (.ref 1), some (.int v), some (.int w), none, none, none]) pln_X10 (Nat.le_of_ble_eq_true rfl) rfl (Nat.le_refl _) ?_
  refine px_iload_n dX10_lots_0 rfl rfl ?_
  refine px_iconst dX10_lots_1 ic_1 ?_
  refine px_icmp_lt 23 dX10_lots_2 rfl (fun h2 => ?_) (fun h2 => ?_)
  · refine px_iconst dX10_lots_23 ic_m1 ?_
    exact px_iret dX10_lots_24 rfl (by rw [show aLot n W H (aA B g) (aD B g) (aT g) dd S P v w = (-1, dd, S, P) from by unfold aLot; first | rw [if_pos (fun z => by (simp only [Int32.le_iff_toInt_le, Int32.lt_iff_toInt_lt, ← Int32.toInt_inj, Int32.reduceToInt] at *; omega))] | (split; rfl; rw [if_pos (fun z => by (simp only [Int32.le_iff_toInt_le, Int32.lt_iff_toInt_lt, ← Int32.toInt_inj, Int32.reduceToInt] at *; omega))])]; exact ⟨rfl, cD.rf M, hst⟩) (rfl)
  · refine px_iload_n dX10_lots_5 rfl rfl ?_
    refine px_bipush dX10_lots_6 bp_20 ?_
    refine px_icmp_gt 23 dX10_lots_8 rfl (fun h8 => ?_) (fun h8 => ?_)
    · refine px_iconst dX10_lots_23 ic_m1 ?_
      exact px_iret dX10_lots_24 rfl (by rw [show aLot n W H (aA B g) (aD B g) (aT g) dd S P v w = (-1, dd, S, P) from by unfold aLot; first | rw [if_pos (fun z => by (simp only [Int32.le_iff_toInt_le, Int32.lt_iff_toInt_lt, ← Int32.toInt_inj, Int32.reduceToInt] at *; omega))] | (split; rfl; rw [if_pos (fun z => by (simp only [Int32.le_iff_toInt_le, Int32.lt_iff_toInt_lt, ← Int32.toInt_inj, Int32.reduceToInt] at *; omega))])]; exact ⟨rfl, cD.rf M, hst⟩) (rfl)
    · refine px_iload_n dX10_lots_11 rfl rfl ?_
      refine px_iconst dX10_lots_12 ic_1 ?_
      refine px_icmp_lt 23 dX10_lots_13 rfl (fun h13 => ?_) (fun h13 => ?_)
      · refine px_iconst dX10_lots_23 ic_m1 ?_
        exact px_iret dX10_lots_24 rfl (by rw [show aLot n W H (aA B g) (aD B g) (aT g) dd S P v w = (-1, dd, S, P) from by unfold aLot; first | rw [if_pos (fun z => by (simp only [Int32.le_iff_toInt_le, Int32.lt_iff_toInt_lt, ← Int32.toInt_inj, Int32.reduceToInt] at *; omega))] | (split; rfl; rw [if_pos (fun z => by (simp only [Int32.le_iff_toInt_le, Int32.lt_iff_toInt_lt, ← Int32.toInt_inj, Int32.reduceToInt] at *; omega))])]; exact ⟨rfl, cD.rf M, hst⟩) (rfl)
      · refine px_iload_n dX10_lots_16 rfl rfl ?_
        refine px_ldcw dX10_lots_17 xw962 ?_
        refine px_icmp_ne 25 dX10_lots_20 rfl (fun h20 => ?_) (fun h20 => ?_)
        · have g1 : 1 ≤ v ∧ v ≤ 20 := by (simp only [Int32.le_iff_toInt_le, Int32.lt_iff_toInt_lt, ← Int32.toInt_inj, Int32.reduceToInt] at *; omega)
          have g2 : 1 ≤ w ∧ w ≤ 2147483646 := by (have hwm := Int32.toInt_lt w; (simp only [Int32.le_iff_toInt_le, Int32.lt_iff_toInt_lt, ← Int32.toInt_inj, Int32.reduceToInt] at *; omega))
          obtain ⟨cn, hcn, rfl⟩ := nI_of2 (x := v) (M := 20) (n := 20) rfl (fun z => by (simp only [Int32.le_iff_toInt_le, Int32.lt_iff_toInt_lt, ← Int32.toInt_inj, Int32.reduceToInt] at *; omega)) g1.2
          obtain ⟨sd, hsd, rfl⟩ := nI_of2 (x := w) (M := 2147483646) (n := 2147483646) rfl (fun z => by (simp only [Int32.le_iff_toInt_le, Int32.lt_iff_toInt_lt, ← Int32.toInt_inj, Int32.reduceToInt] at *; omega)) g2.2
          have hnc : (nI cn).toNatClampNeg = cn := nI_clamp (by omega)
          have hns : (nI sd).toNatClampNeg = sd := nI_clamp (by omega)
          refine px_aload_n dX10_lots_25 rfl rfl ?_
          refine px_fV0i dX10_lots_26 kX10_lots_141 (xol rfl) hM (Nat.le_of_ble_eq_true rfl) (c_X10_hasNoSheet hM hs hcu hp0) ?_
          refine px_top (y := zb (n = 0)) (by rw [hsh.1]; exact no_c hn8) ?_
          refine px_zif_eq 35 dX10_lots_29 rfl (fun h29 => ?_) (fun h29 => ?_)
          · refine px_aload_n dX10_lots_35 rfl rfl ?_
            refine px_getR dX10_lots_36 fX10_32 (xol rfl) hM rfl (wr_10_4 hW (xol rfl)) (Nat.succ_pos _) ?_
            refine px_getI dX10_lots_39 fX10_220 (xol rfl) hM rfl ?_
            refine px_top (y := nI dd) hst.1 ?_
            refine px_iload_n dX10_lots_42 rfl rfl ?_
            refine px_iadd dX10_lots_43 ?_
            refine px_top (y := nI (dd + cn)) (nI_add _ _) ?_
            refine px_bipush dX10_lots_44 bp_40 ?_
            refine px_icmp_le 52 dX10_lots_46 rfl (fun h46 => ?_) (fun h46 => ?_)
            · have h40 : dd + cn ≤ 40 := by rw [show (40 : Int32) = nI 40 from rfl, nI_leI (by omega) (by omega)] at h46; omega
              refine px_iload_n dX10_lots_52 rfl rfl ?_
              refine px_i2l dX10_lots_53 ?_
              refine px_topl (y := lN sd) (nI_l (by omega)) ?_
              refine px_sl_3 dX10_lots_54 rfl ?_
              refine px_iconst dX10_lots_55 ic_0 ?_
              refine px_si_5 dX10_lots_56 rfl ?_
              refine px_q ?_ (l_X10_lots (sd := sd) hc0 h29 (by omega) h40 M (cD.rf M) hst)
              rintro r m ⟨h1, h2, h3⟩
              rw [show aLot n W H (aA B g) (aD B g) (aT g) dd S P (nI cn) (nI sd) = (nI (stL (ltS n W H (aA B g) (aD B g) (aT g) sd S cn).1 8), dd + cn, (ltS n W H (aA B g) (aD B g) (aT g) sd S cn), (ltP n W H (aA B g) (aD B g) (aT g) sd dd S P cn)) from by unfold aLot; rw [if_neg (fun z => z g1), if_neg (fun z => z g2), if_neg h29, hnc, hns, if_neg (fun z => z h40)]]
              exact ⟨h1, h2, h3⟩
            · refine px_bipush dX10_lots_49 bp_m2 ?_
              exact px_iret dX10_lots_51 rfl (by rw [show aLot n W H (aA B g) (aD B g) (aT g) dd S P (nI cn) (nI sd) = (-2, dd, S, P) from by unfold aLot; rw [if_neg (fun z => z g1), if_neg (fun z => z g2), if_neg h29, hnc, if_pos (fun z => h46 (by rw [show (40 : Int32) = nI 40 from rfl, nI_leI (by omega) (by omega)]; exact z))]]; exact ⟨rfl, cD.rf M, hst⟩) (rfl)
          · refine px_bipush dX10_lots_32 bp_m4 ?_
            exact px_iret dX10_lots_34 rfl (by rw [show aLot n W H (aA B g) (aD B g) (aT g) dd S P (nI cn) (nI sd) = (-4, dd, S, P) from by unfold aLot; rw [if_neg (fun z => z g1), if_neg (fun z => z g2), if_pos h29]]; exact ⟨rfl, cD.rf M, hst⟩) (rfl)
        · refine px_iconst dX10_lots_23 ic_m1 ?_
          exact px_iret dX10_lots_24 rfl (by rw [show aLot n W H (aA B g) (aD B g) (aT g) dd S P v w = (-1, dd, S, P) from by unfold aLot; first | rw [if_pos (fun z => by (simp only [Int32.le_iff_toInt_le, Int32.lt_iff_toInt_lt, ← Int32.toInt_inj, Int32.reduceToInt] at *; omega))] | (split; rfl; rw [if_pos (fun z => by (simp only [Int32.le_iff_toInt_le, Int32.lt_iff_toInt_lt, ← Int32.toInt_inj, Int32.reduceToInt] at *; omega))])]; exact ⟨rfl, cD.rf M, hst⟩) (rfl)

set_option maxRecDepth 100000 in
theorem l_X11_lots {E : xE} {M : xMem} {n W H B dd : Nat} {g : Nat → Nat → Nat} {S : gLay × Nat} {P : Nat → gLay × Nat} (hc : rHy M n W H B g dd S P) (hn0 : ¬ n = 0) {cn sd : Nat} (hsd : sd < 2147483647) (h40 : dd + cn ≤ 40) : ∀ m, rD M m → stM m (dd + 0) (ltS n W H (aA B g) (aD B g) (aT g) sd S 0) (ltP n W H (aA B g) (aD B g) (aT g) sd dd S P 0) → ∀ l6 l7 l8, PR E mX11_lots (xN M) 53 [some (.ref 74), some (.int (nI cn)), some (.int (nI sd)), some (.long (lN (ltV sd 0))), none, some (.int (nI 0)), l6, l7, l8] [] (m) (fun r m => r = some (.int (nI (stL (ltS n W H (aA B g) (aD B g) (aT g) sd S cn).1 8))) ∧ rD M m ∧ stM m (dd + cn) (ltS n W H (aA B g) (aD B g) (aT g) sd S cn) (ltP n W H (aA B g) (aD B g) (aT g) sd dd S P cn)) := by
  have hc0 := hc
  obtain ⟨hM, hW, hsh, hok, hst, hly, hru⟩ := hc
  have h8 : n ≤ 8 := hok.1
  have hb : lyB S.1 := (hsh.s hok).b hly
  have hl : lyM (M.1 83) S.1 := lyM_c hst.2.2.1.1 (fun k _ => by rw [Nat.zero_add])
  have hpg := pgL_le hb 8
  have hn8 := h8
  have hd4 : dd ≤ 40 := hst.2.1
  have hsM := hsh.s hok
  have hsU := hsh.u hok
  refine px_for (P := fun i => ∀ m, rD M m → stM m (dd + i) (ltS n W H (aA B g) (aD B g) (aT g) sd S i) (ltP n W H (aA B g) (aD B g) (aT g) sd dd S P i) → ∀ l6 l7 l8, PR E mX11_lots (xN M) 53 [some (.ref 74), some (.int (nI cn)), some (.int (nI sd)), some (.long (lN (ltV sd i))), none, some (.int (nI i)), l6, l7, l8] [] (m) (fun r m => r = some (.int (nI (stL (ltS n W H (aA B g) (aD B g) (aT g) sd S cn).1 8))) ∧ rD M m ∧ stM m (dd + cn) (ltS n W H (aA B g) (aD B g) (aT g) sd S cn) (ltP n W H (aA B g) (aD B g) (aT g) sd dd S P cn))) (cn) (fun i hi nx => ?_) (0) (Nat.zero_le _)
  intro m hk hst1 l6 l7 l8
  have hm : xNT ≤ xN m := by rw [hk.m]; exact hM
  have hw : xWire m.2.1 := by rw [hk.w]; exact hW
  have hoS := ltS_ok hn0 (fun f hf => (hsU f hf).1) hok.2.1 hok.2.2.1 sd (S := S) ⟨hly, hru⟩ i
  have hbi := hsM.b hoS.1
  have hsh1 := hk.sh hsh
  refine px_iload dX11_lots_53 rfl ?_
  refine px_iload_n dX11_lots_55 rfl rfl ?_
  refine px_icmp_ge 178 dX11_lots_56 rfl (fun h56 => ?_) (fun h56 => ?_)
  · have hi2 : i = cn := by rw [nI_leI (by omega) (by omega)] at h56; omega
    subst hi2
    refine px_aload_n dX11_lots_178 rfl rfl ?_
    refine px_fV0i dX11_lots_179 kX11_lots_343 (xol rfl) hm (Nat.le_of_ble_eq_true rfl) (c_X11_setMany hm hw h8 hsh1.1 (rRow_0.mp hst1.2.2.1).1 hbi) ?_
    refine px_top (y := nI (stL (ltS n W H (aA B g) (aD B g) (aT g) sd S i).1 8)) (by rw [(L_more hoS.1.1 8 h8).2.1]) ?_
    exact px_iret dX11_lots_182 rfl ⟨rfl, hk, hst1⟩ (hk.m)
  · have hlt : i < cn := by rw [nI_leI (by omega) (by omega)] at h56; omega
    have hv := ltV_lt hsd (i + 1)
    have hfn : ((ltV sd (i + 1)) / 8 % n) < n := Nat.mod_lt _ (by omega)
    have hst2 := stM_rem hst1 (by omega)
    have hsh2 := ((hk.tr (rDrem m (dd + i)))).sh hsh
    have hl2 : lyM ((wI (mcpM m 90 (33 * (dd + i)) (m.1 83) 33) 74 36 (nI (dd + i + 1))).1 83) (ltS n W H (aA B g) (aD B g) (aT g) sd S i).1 := (rRow_0.mp hst2.2.2.1).1
    refine px_lload_n dX11_lots_59 rfl rfl ?_
    refine px_ldc2 dX11_lots_60 xw1519 ?_
    refine px_lmul dX11_lots_63 ?_
    refine px_ldc2 dX11_lots_64 xw1520 ?_
    refine px_lrem dX11_lots_67 (by decide) ?_
    refine px_topl (y := lN (ltV sd (i + 1))) (ltV_l hsd i) ?_
    refine px_sl_3 dX11_lots_68 rfl ?_
    refine px_aload_n dX11_lots_69 rfl rfl ?_
    refine px_fV0v dX11_lots_70 kX11_lots_293 (xol rfl) hm (Nat.le_of_ble_eq_true rfl) (c_X11_remember (dd := dd + i) hm hw hst1.1 (by omega)) ?_
    refine px_lload_n dX11_lots_73 rfl rfl ?_
    refine px_ldc2 dX11_lots_74 xw1521 ?_
    refine px_ldiv dX11_lots_77 (by decide) ?_
    refine px_topl (y := lN ((ltV sd (i + 1)) / 8)) (pk_lDiv (b := 8) (by omega) (by decide) (by decide)) ?_
    refine px_aload_n dX11_lots_78 rfl rfl ?_
    refine px_getI dX11_lots_79 fX11_179 (xol rfl) hm rfl ?_
    refine px_top (y := nI n) hsh2.1 ?_
    refine px_i2l dX11_lots_82 ?_
    refine px_topl (y := lN n) (nI_l (by omega)) ?_
    refine px_lrem dX11_lots_83 (fun z => hn0 ((pk_lEQ (by omega) (by decide)).mp (show lN n = lN 0 from z))) ?_
    refine px_topl (y := lN ((ltV sd (i + 1)) / 8 % n)) (pk_lRem (by omega) (by omega) (by omega)) ?_
    refine px_l2i dX11_lots_84 ?_
    refine px_top (y := nI ((ltV sd (i + 1)) / 8 % n)) (lN_i _) ?_
    refine px_si_6 dX11_lots_85 rfl ?_
    refine px_lload_n dX11_lots_87 rfl rfl ?_
    refine px_ldc2 dX11_lots_88 xw1521 ?_
    refine px_lrem dX11_lots_91 (by decide) ?_
    refine px_topl (y := lN ((ltV sd (i + 1)) % 8)) (pk_lRem (b := 8) (by omega) (by decide) (by decide)) ?_
    refine px_l2i dX11_lots_92 ?_
    refine px_top (y := nI ((ltV sd (i + 1)) % 8)) (lN_i _) ?_
    refine px_si_7 dX11_lots_93 rfl ?_
    refine px_iload dX11_lots_95 rfl ?_
    refine px_if_ne 120 dX11_lots_97 rfl (fun h97 => ?_) (fun h97 => ?_)
    · have h97n : ¬ (ltV sd (i + 1)) % 8 = 0 := fun z => h97 (by rw [z]; rfl)
      refine px_iload dX11_lots_120 rfl ?_
      refine px_iconst dX11_lots_122 ic_4 ?_
      refine px_icmp_le 135 dX11_lots_123 rfl (fun h123 => ?_) (fun h123 => ?_)
      · have h123n : ¬ 4 < (ltV sd (i + 1)) % 8 := by rw [show (4 : Int32) = nI 4 from rfl, nI_leI (by omega) (by omega)] at h123; omega
        refine px_aload_n dX11_lots_135 rfl rfl ?_
        refine px_iload dX11_lots_136 rfl ?_
        refine px_fV1i dX11_lots_138 kX11_lots_232 (xol rfl) hm (Nat.le_of_ble_eq_true rfl) (c_X11_isSet (f := ((ltV sd (i + 1)) / 8 % n)) (by omega) hm hw) ?_
        refine px_top (y := zb (¬ (ltS n W H (aA B g) (aD B g) (aT g) sd S i).1 ((ltV sd (i + 1)) / 8 % n) = none)) (lyM_is hl2 hbi (by omega)) ?_
        refine px_zif_eq 149 dX11_lots_141 rfl (fun h141 => ?_) (fun h141 => ?_)
        · refine px_aload_n dX11_lots_149 rfl rfl ?_
          refine px_iload dX11_lots_150 rfl ?_
          refine px_gV1 dX11_lots_152 kX11_lots_286 (xol rfl) hm (Nat.le_of_ble_eq_true rfl) (c_X11_findsPage (M := wI (mcpM m 90 (33 * (dd + i)) (m.1 83) 33) 74 36 (nI (dd + i + 1))) (f := ((ltV sd (i + 1)) / 8 % n)) (T := aT g ((ltV sd (i + 1)) / 8 % n)) hm hw (hsh2.s hok) hl2 hoS.1 hfn (rRow_0.mp hst2.2.2.1).2 hoS.2 (hsU _ hfn).1 (hsh2.u hok _ hfn).2) (fun r152 M152 hq152 hn152 => ?_)
          obtain ⟨rfl, q1, q2⟩ := hq152
          have hm5 : xNT ≤ xN M152 := by rw [hn152]; exact hm
          have hw5 : xWire M152.2.1 := by rw [q1.w]; exact hw
          have hst3 := stM_k hst2 (q1.2.2 36 (by decide) (by decide)) q1.now (q1.2.1 90 (by decide) (by decide) (by decide) (by decide) (by decide) (by decide))
          refine px_si_8 dX11_lots_155 rfl ?_
          refine px_iload dX11_lots_157 rfl ?_
          refine px_bipush dX11_lots_159 bp_m9 ?_
          refine px_icmp_eq 172 dX11_lots_161 rfl (fun h161 => ?_) (fun h161 => ?_)
          · refine px_inc_5 dX11_lots_172 rfl ic_1 ?_
            refine px_goto 53 dX11_lots_175 rfl ?_
            first
              | (have e : dlS n W H (aA B g) (aD B g) (aT g) (ltV sd (i + 1)) (ltS n W H (aA B g) (aD B g) (aT g) sd S i) = ((ltS n W H (aA B g) (aD B g) (aT g) sd S i).1, (ltV sd (i + 1)) / 64 % 4) := if_pos h97n; exact px_eq (by rw [nI_1]) rfl (nx hlt _ ((hk.tr (rDrem m (dd + i))).tr (rD.wI (a := 83) (by omega))) (by show stM _ _ (dlS n W H (aA B g) (aD B g) (aT g) (ltV sd (i + 1)) (ltS n W H (aA B g) (aD B g) (aT g) sd S i)) _; rw [e]; exact stM_ly hst2 rfl rfl (lyM_c (rRow_0.mp hst2.2.2.1).1 (fun k hk => by rw [xI_wI, if_neg (fun z => absurd z.2 (show k ≠ 32 by omega))])) (wI_self _ _ _ _)) _ _ _))
              | (have e : dlS n W H (aA B g) (aD B g) (aT g) (ltV sd (i + 1)) (ltS n W H (aA B g) (aD B g) (aT g) sd S i) = (uly (ltS n W H (aA B g) (aD B g) (aT g) sd S i).1 ((ltV sd (i + 1)) / 8 % n) none, (ltS n W H (aA B g) (aD B g) (aT g) sd S i).2) := (by unfold dlS; rw [if_neg h97n, if_pos h123n]); exact px_eq (by rw [nI_1]) rfl (nx hlt _ ((hk.tr (rDrem m (dd + i))).tr (rD.wF (a := 83) (by omega))) (by show stM _ _ (dlS n W H (aA B g) (aD B g) (aT g) (ltV sd (i + 1)) (ltS n W H (aA B g) (aD B g) (aT g) sd S i)) _; rw [e]; exact stM_ly hst2 rfl rfl (upR_no (rRow_0.mp hst2.2.2.1).1) (by rw [xI_wF, if_pos rfl, upR_32 (by omega)]; exact (rRow_0.mp hst2.2.2.1).2)) _ _ _))
              | (have e : dlS n W H (aA B g) (aD B g) (aT g) (ltV sd (i + 1)) (ltS n W H (aA B g) (aD B g) (aT g) sd S i) = (ltS n W H (aA B g) (aD B g) (aT g) sd S i) := (by unfold dlS; rw [if_neg h97n, if_neg h123n, if_pos h141]); exact px_eq (by rw [nI_1]) rfl (nx hlt _ (hk.tr (rDrem m (dd + i))) (by show stM _ _ (dlS n W H (aA B g) (aD B g) (aT g) (ltV sd (i + 1)) (ltS n W H (aA B g) (aD B g) (aT g) sd S i)) _; rw [e]; exact hst2) _ _ _))
              | (have e : dlS n W H (aA B g) (aD B g) (aT g) (ltV sd (i + 1)) (ltS n W H (aA B g) (aD B g) (aT g) sd S i) = (uly (ltS n W H (aA B g) (aD B g) (aT g) sd S i).1 ((ltV sd (i + 1)) / 8 % n) (some (p, x, y, t)), (ltS n W H (aA B g) (aD B g) (aT g) sd S i).2) := (by unfold dlS; rw [if_neg h97n, if_neg h123n, if_neg h141, eN]); exact px_eq (by rw [nI_1]) rfl (nx hlt _ (((hk.tr (rDrem m (dd + i))).tr q1.d).tr (rD.wF (a := 83) (by omega))) (by show stM _ _ (dlS n W H (aA B g) (aD B g) (aT g) (ltV sd (i + 1)) (ltS n W H (aA B g) (aD B g) (aT g) sd S i)) _; rw [e]; exact stM_ly hst3 rfl rfl (upR_so (rRow_0.mp hst3.2.2.1).1) (by rw [xI_wF, if_pos rfl, upR_32 (by omega)]; exact (rRow_0.mp hst3.2.2.1).2)) _ _ _))
              | (have e : dlS n W H (aA B g) (aD B g) (aT g) (ltV sd (i + 1)) (ltS n W H (aA B g) (aD B g) (aT g) sd S i) = (ltS n W H (aA B g) (aD B g) (aT g) sd S i) := (by unfold dlS; rw [if_neg h97n, if_neg h123n, if_neg h141, spP_n (hsU _ hfn).1 hok.2.1 hok.2.2.1 h161, uly_id (Classical.byContradiction h141)]); exact px_eq (by rw [nI_1]) rfl (nx hlt _ ((hk.tr (rDrem m (dd + i))).tr q1.d) (by show stM _ _ (dlS n W H (aA B g) (aD B g) (aT g) (ltV sd (i + 1)) (ltS n W H (aA B g) (aD B g) (aT g) sd S i)) _; rw [e]; exact hst3) _ _ _))
          · obtain ⟨p, x, y, t, eN⟩ := spP_s h161
            obtain ⟨k, hk4, e32, e33, e86, e87⟩ := q2 p x y t eN
            refine px_aload_n dX11_lots_164 rfl rfl ?_
            refine px_iload dX11_lots_165 rfl ?_
            refine px_iload dX11_lots_167 rfl ?_
            refine px_top (y := nI p) (by rw [eN]; rfl) ?_
            refine px_fV2v dX11_lots_169 kX11_lots_289 (xol rfl) hm5 (Nat.le_of_ble_eq_true rfl) (c_X11_sets (f := ((ltV sd (i + 1)) / 8 % n)) (pg := nI p) (vx := nI x) (vy := nI y) (vt := nI t) (by omega) hk4 e32 e33 e86 e87 hm5 hw5) ?_
            refine px_inc_5 dX11_lots_172 rfl ic_1 ?_
            refine px_goto 53 dX11_lots_175 rfl ?_
            first
              | (have e : dlS n W H (aA B g) (aD B g) (aT g) (ltV sd (i + 1)) (ltS n W H (aA B g) (aD B g) (aT g) sd S i) = ((ltS n W H (aA B g) (aD B g) (aT g) sd S i).1, (ltV sd (i + 1)) / 64 % 4) := if_pos h97n; exact px_eq (by rw [nI_1]) rfl (nx hlt _ ((hk.tr (rDrem m (dd + i))).tr (rD.wI (a := 83) (by omega))) (by show stM _ _ (dlS n W H (aA B g) (aD B g) (aT g) (ltV sd (i + 1)) (ltS n W H (aA B g) (aD B g) (aT g) sd S i)) _; rw [e]; exact stM_ly hst2 rfl rfl (lyM_c (rRow_0.mp hst2.2.2.1).1 (fun k hk => by rw [xI_wI, if_neg (fun z => absurd z.2 (show k ≠ 32 by omega))])) (wI_self _ _ _ _)) _ _ _))
              | (have e : dlS n W H (aA B g) (aD B g) (aT g) (ltV sd (i + 1)) (ltS n W H (aA B g) (aD B g) (aT g) sd S i) = (uly (ltS n W H (aA B g) (aD B g) (aT g) sd S i).1 ((ltV sd (i + 1)) / 8 % n) none, (ltS n W H (aA B g) (aD B g) (aT g) sd S i).2) := (by unfold dlS; rw [if_neg h97n, if_pos h123n]); exact px_eq (by rw [nI_1]) rfl (nx hlt _ ((hk.tr (rDrem m (dd + i))).tr (rD.wF (a := 83) (by omega))) (by show stM _ _ (dlS n W H (aA B g) (aD B g) (aT g) (ltV sd (i + 1)) (ltS n W H (aA B g) (aD B g) (aT g) sd S i)) _; rw [e]; exact stM_ly hst2 rfl rfl (upR_no (rRow_0.mp hst2.2.2.1).1) (by rw [xI_wF, if_pos rfl, upR_32 (by omega)]; exact (rRow_0.mp hst2.2.2.1).2)) _ _ _))
              | (have e : dlS n W H (aA B g) (aD B g) (aT g) (ltV sd (i + 1)) (ltS n W H (aA B g) (aD B g) (aT g) sd S i) = (ltS n W H (aA B g) (aD B g) (aT g) sd S i) := (by unfold dlS; rw [if_neg h97n, if_neg h123n, if_pos h141]); exact px_eq (by rw [nI_1]) rfl (nx hlt _ (hk.tr (rDrem m (dd + i))) (by show stM _ _ (dlS n W H (aA B g) (aD B g) (aT g) (ltV sd (i + 1)) (ltS n W H (aA B g) (aD B g) (aT g) sd S i)) _; rw [e]; exact hst2) _ _ _))
              | (have e : dlS n W H (aA B g) (aD B g) (aT g) (ltV sd (i + 1)) (ltS n W H (aA B g) (aD B g) (aT g) sd S i) = (uly (ltS n W H (aA B g) (aD B g) (aT g) sd S i).1 ((ltV sd (i + 1)) / 8 % n) (some (p, x, y, t)), (ltS n W H (aA B g) (aD B g) (aT g) sd S i).2) := (by unfold dlS; rw [if_neg h97n, if_neg h123n, if_neg h141, eN]); exact px_eq (by rw [nI_1]) rfl (nx hlt _ (((hk.tr (rDrem m (dd + i))).tr q1.d).tr (rD.wF (a := 83) (by omega))) (by show stM _ _ (dlS n W H (aA B g) (aD B g) (aT g) (ltV sd (i + 1)) (ltS n W H (aA B g) (aD B g) (aT g) sd S i)) _; rw [e]; exact stM_ly hst3 rfl rfl (upR_so (rRow_0.mp hst3.2.2.1).1) (by rw [xI_wF, if_pos rfl, upR_32 (by omega)]; exact (rRow_0.mp hst3.2.2.1).2)) _ _ _))
              | (have e : dlS n W H (aA B g) (aD B g) (aT g) (ltV sd (i + 1)) (ltS n W H (aA B g) (aD B g) (aT g) sd S i) = (ltS n W H (aA B g) (aD B g) (aT g) sd S i) := (by unfold dlS; rw [if_neg h97n, if_neg h123n, if_neg h141, spP_n (hsU _ hfn).1 hok.2.1 hok.2.2.1 h161, uly_id (Classical.byContradiction h141)]); exact px_eq (by rw [nI_1]) rfl (nx hlt _ ((hk.tr (rDrem m (dd + i))).tr q1.d) (by show stM _ _ (dlS n W H (aA B g) (aD B g) (aT g) (ltV sd (i + 1)) (ltS n W H (aA B g) (aD B g) (aT g) sd S i)) _; rw [e]; exact hst3) _ _ _))
        · refine px_bipush dX11_lots_144 bp_m9 ?_
          refine px_goto 155 dX11_lots_146 rfl ?_
          refine px_si_8 dX11_lots_155 rfl ?_
          refine px_iload dX11_lots_157 rfl ?_
          refine px_bipush dX11_lots_159 bp_m9 ?_
          refine px_icmp_eq 172 dX11_lots_161 rfl (fun h161 => ?_) (fun h161 => ?_)
          · refine px_inc_5 dX11_lots_172 rfl ic_1 ?_
            refine px_goto 53 dX11_lots_175 rfl ?_
            first
              | (have e : dlS n W H (aA B g) (aD B g) (aT g) (ltV sd (i + 1)) (ltS n W H (aA B g) (aD B g) (aT g) sd S i) = ((ltS n W H (aA B g) (aD B g) (aT g) sd S i).1, (ltV sd (i + 1)) / 64 % 4) := if_pos h97n; exact px_eq (by rw [nI_1]) rfl (nx hlt _ ((hk.tr (rDrem m (dd + i))).tr (rD.wI (a := 83) (by omega))) (by show stM _ _ (dlS n W H (aA B g) (aD B g) (aT g) (ltV sd (i + 1)) (ltS n W H (aA B g) (aD B g) (aT g) sd S i)) _; rw [e]; exact stM_ly hst2 rfl rfl (lyM_c (rRow_0.mp hst2.2.2.1).1 (fun k hk => by rw [xI_wI, if_neg (fun z => absurd z.2 (show k ≠ 32 by omega))])) (wI_self _ _ _ _)) _ _ _))
              | (have e : dlS n W H (aA B g) (aD B g) (aT g) (ltV sd (i + 1)) (ltS n W H (aA B g) (aD B g) (aT g) sd S i) = (uly (ltS n W H (aA B g) (aD B g) (aT g) sd S i).1 ((ltV sd (i + 1)) / 8 % n) none, (ltS n W H (aA B g) (aD B g) (aT g) sd S i).2) := (by unfold dlS; rw [if_neg h97n, if_pos h123n]); exact px_eq (by rw [nI_1]) rfl (nx hlt _ ((hk.tr (rDrem m (dd + i))).tr (rD.wF (a := 83) (by omega))) (by show stM _ _ (dlS n W H (aA B g) (aD B g) (aT g) (ltV sd (i + 1)) (ltS n W H (aA B g) (aD B g) (aT g) sd S i)) _; rw [e]; exact stM_ly hst2 rfl rfl (upR_no (rRow_0.mp hst2.2.2.1).1) (by rw [xI_wF, if_pos rfl, upR_32 (by omega)]; exact (rRow_0.mp hst2.2.2.1).2)) _ _ _))
              | (have e : dlS n W H (aA B g) (aD B g) (aT g) (ltV sd (i + 1)) (ltS n W H (aA B g) (aD B g) (aT g) sd S i) = (ltS n W H (aA B g) (aD B g) (aT g) sd S i) := (by unfold dlS; rw [if_neg h97n, if_neg h123n, if_pos h141]); exact px_eq (by rw [nI_1]) rfl (nx hlt _ (hk.tr (rDrem m (dd + i))) (by show stM _ _ (dlS n W H (aA B g) (aD B g) (aT g) (ltV sd (i + 1)) (ltS n W H (aA B g) (aD B g) (aT g) sd S i)) _; rw [e]; exact hst2) _ _ _))
              | (have e : dlS n W H (aA B g) (aD B g) (aT g) (ltV sd (i + 1)) (ltS n W H (aA B g) (aD B g) (aT g) sd S i) = (uly (ltS n W H (aA B g) (aD B g) (aT g) sd S i).1 ((ltV sd (i + 1)) / 8 % n) (some (p, x, y, t)), (ltS n W H (aA B g) (aD B g) (aT g) sd S i).2) := (by unfold dlS; rw [if_neg h97n, if_neg h123n, if_neg h141, eN]); exact px_eq (by rw [nI_1]) rfl (nx hlt _ (((hk.tr (rDrem m (dd + i))).tr q1.d).tr (rD.wF (a := 83) (by omega))) (by show stM _ _ (dlS n W H (aA B g) (aD B g) (aT g) (ltV sd (i + 1)) (ltS n W H (aA B g) (aD B g) (aT g) sd S i)) _; rw [e]; exact stM_ly hst3 rfl rfl (upR_so (rRow_0.mp hst3.2.2.1).1) (by rw [xI_wF, if_pos rfl, upR_32 (by omega)]; exact (rRow_0.mp hst3.2.2.1).2)) _ _ _))
              | (have e : dlS n W H (aA B g) (aD B g) (aT g) (ltV sd (i + 1)) (ltS n W H (aA B g) (aD B g) (aT g) sd S i) = (ltS n W H (aA B g) (aD B g) (aT g) sd S i) := (by unfold dlS; rw [if_neg h97n, if_neg h123n, if_neg h141, spP_n (hsU _ hfn).1 hok.2.1 hok.2.2.1 h161, uly_id (Classical.byContradiction h141)]); exact px_eq (by rw [nI_1]) rfl (nx hlt _ ((hk.tr (rDrem m (dd + i))).tr q1.d) (by show stM _ _ (dlS n W H (aA B g) (aD B g) (aT g) (ltV sd (i + 1)) (ltS n W H (aA B g) (aD B g) (aT g) sd S i)) _; rw [e]; exact hst3) _ _ _))
          · exact absurd rfl h161
      · have h123n : 4 < (ltV sd (i + 1)) % 8 := by rw [show (4 : Int32) = nI 4 from rfl, nI_leI (by omega) (by omega)] at h123; omega
        refine px_aload_n dX11_lots_126 rfl rfl ?_
        refine px_iload dX11_lots_127 rfl ?_
        refine px_fV1v dX11_lots_129 kX11_lots_296 (xol rfl) hm (Nat.le_of_ble_eq_true rfl) (c_X11_lifts (f := ((ltV sd (i + 1)) / 8 % n)) (by omega) hm hw) ?_
        refine px_goto 172 dX11_lots_132 rfl ?_
        refine px_inc_5 dX11_lots_172 rfl ic_1 ?_
        refine px_goto 53 dX11_lots_175 rfl ?_
        first
          | (have e : dlS n W H (aA B g) (aD B g) (aT g) (ltV sd (i + 1)) (ltS n W H (aA B g) (aD B g) (aT g) sd S i) = ((ltS n W H (aA B g) (aD B g) (aT g) sd S i).1, (ltV sd (i + 1)) / 64 % 4) := if_pos h97n; exact px_eq (by rw [nI_1]) rfl (nx hlt _ ((hk.tr (rDrem m (dd + i))).tr (rD.wI (a := 83) (by omega))) (by show stM _ _ (dlS n W H (aA B g) (aD B g) (aT g) (ltV sd (i + 1)) (ltS n W H (aA B g) (aD B g) (aT g) sd S i)) _; rw [e]; exact stM_ly hst2 rfl rfl (lyM_c (rRow_0.mp hst2.2.2.1).1 (fun k hk => by rw [xI_wI, if_neg (fun z => absurd z.2 (show k ≠ 32 by omega))])) (wI_self _ _ _ _)) _ _ _))
          | (have e : dlS n W H (aA B g) (aD B g) (aT g) (ltV sd (i + 1)) (ltS n W H (aA B g) (aD B g) (aT g) sd S i) = (uly (ltS n W H (aA B g) (aD B g) (aT g) sd S i).1 ((ltV sd (i + 1)) / 8 % n) none, (ltS n W H (aA B g) (aD B g) (aT g) sd S i).2) := (by unfold dlS; rw [if_neg h97n, if_pos h123n]); exact px_eq (by rw [nI_1]) rfl (nx hlt _ ((hk.tr (rDrem m (dd + i))).tr (rD.wF (a := 83) (by omega))) (by show stM _ _ (dlS n W H (aA B g) (aD B g) (aT g) (ltV sd (i + 1)) (ltS n W H (aA B g) (aD B g) (aT g) sd S i)) _; rw [e]; exact stM_ly hst2 rfl rfl (upR_no (rRow_0.mp hst2.2.2.1).1) (by rw [xI_wF, if_pos rfl, upR_32 (by omega)]; exact (rRow_0.mp hst2.2.2.1).2)) _ _ _))
          | (have e : dlS n W H (aA B g) (aD B g) (aT g) (ltV sd (i + 1)) (ltS n W H (aA B g) (aD B g) (aT g) sd S i) = (ltS n W H (aA B g) (aD B g) (aT g) sd S i) := (by unfold dlS; rw [if_neg h97n, if_neg h123n, if_pos h141]); exact px_eq (by rw [nI_1]) rfl (nx hlt _ (hk.tr (rDrem m (dd + i))) (by show stM _ _ (dlS n W H (aA B g) (aD B g) (aT g) (ltV sd (i + 1)) (ltS n W H (aA B g) (aD B g) (aT g) sd S i)) _; rw [e]; exact hst2) _ _ _))
          | (have e : dlS n W H (aA B g) (aD B g) (aT g) (ltV sd (i + 1)) (ltS n W H (aA B g) (aD B g) (aT g) sd S i) = (uly (ltS n W H (aA B g) (aD B g) (aT g) sd S i).1 ((ltV sd (i + 1)) / 8 % n) (some (p, x, y, t)), (ltS n W H (aA B g) (aD B g) (aT g) sd S i).2) := (by unfold dlS; rw [if_neg h97n, if_neg h123n, if_neg h141, eN]); exact px_eq (by rw [nI_1]) rfl (nx hlt _ (((hk.tr (rDrem m (dd + i))).tr q1.d).tr (rD.wF (a := 83) (by omega))) (by show stM _ _ (dlS n W H (aA B g) (aD B g) (aT g) (ltV sd (i + 1)) (ltS n W H (aA B g) (aD B g) (aT g) sd S i)) _; rw [e]; exact stM_ly hst3 rfl rfl (upR_so (rRow_0.mp hst3.2.2.1).1) (by rw [xI_wF, if_pos rfl, upR_32 (by omega)]; exact (rRow_0.mp hst3.2.2.1).2)) _ _ _))
          | (have e : dlS n W H (aA B g) (aD B g) (aT g) (ltV sd (i + 1)) (ltS n W H (aA B g) (aD B g) (aT g) sd S i) = (ltS n W H (aA B g) (aD B g) (aT g) sd S i) := (by unfold dlS; rw [if_neg h97n, if_neg h123n, if_neg h141, spP_n (hsU _ hfn).1 hok.2.1 hok.2.2.1 h161, uly_id (Classical.byContradiction h141)]); exact px_eq (by rw [nI_1]) rfl (nx hlt _ ((hk.tr (rDrem m (dd + i))).tr q1.d) (by show stM _ _ (dlS n W H (aA B g) (aD B g) (aT g) (ltV sd (i + 1)) (ltS n W H (aA B g) (aD B g) (aT g) sd S i)) _; rw [e]; exact hst3) _ _ _))
    · have h97n : (ltV sd (i + 1)) % 8 = 0 := nI_is (show (0 : Int32) = nI 0 from rfl) (by omega) (by decide) h97
      refine px_aload_n dX11_lots_100 rfl rfl ?_
      refine px_getR dX11_lots_101 fX11_35 (xol rfl) hm rfl (wr_11_23 hw (xol rfl)) (Nat.succ_pos _) ?_
      refine px_bipush dX11_lots_104 bp_32 ?_
      refine px_lload_n dX11_lots_106 rfl rfl ?_
      refine px_ldc2 dX11_lots_107 xw1522 ?_
      refine px_ldiv dX11_lots_110 (by decide) ?_
      refine px_topl (y := lN ((ltV sd (i + 1)) / 64)) (pk_lDiv (b := 64) (by omega) (by decide) (by decide)) ?_
      refine px_ldc2 dX11_lots_111 xw1523 ?_
      refine px_lrem dX11_lots_114 (by decide) ?_
      refine px_topl (y := lN ((ltV sd (i + 1)) / 64 % 4)) (pk_lRem (b := 4) (by omega) (by decide) (by decide)) ?_
      refine px_l2i dX11_lots_115 ?_
      refine px_top (y := nI ((ltV sd (i + 1)) / 64 % 4)) (lN_i _) ?_
      refine px_iast dX11_lots_116 (xal (n := 33) rfl) hm (vp_in_nI (n := 32) (by decide) (by decide)) ?_
      refine px_goto 172 dX11_lots_117 rfl ?_
      refine px_inc_5 dX11_lots_172 rfl ic_1 ?_
      refine px_goto 53 dX11_lots_175 rfl ?_
      first
        | (have e : dlS n W H (aA B g) (aD B g) (aT g) (ltV sd (i + 1)) (ltS n W H (aA B g) (aD B g) (aT g) sd S i) = ((ltS n W H (aA B g) (aD B g) (aT g) sd S i).1, (ltV sd (i + 1)) / 64 % 4) := if_pos h97n; exact px_eq (by rw [nI_1]) rfl (nx hlt _ ((hk.tr (rDrem m (dd + i))).tr (rD.wI (a := 83) (by omega))) (by show stM _ _ (dlS n W H (aA B g) (aD B g) (aT g) (ltV sd (i + 1)) (ltS n W H (aA B g) (aD B g) (aT g) sd S i)) _; rw [e]; exact stM_ly hst2 rfl rfl (lyM_c (rRow_0.mp hst2.2.2.1).1 (fun k hk => by rw [xI_wI, if_neg (fun z => absurd z.2 (show k ≠ 32 by omega))])) (wI_self _ _ _ _)) _ _ _))
        | (have e : dlS n W H (aA B g) (aD B g) (aT g) (ltV sd (i + 1)) (ltS n W H (aA B g) (aD B g) (aT g) sd S i) = (uly (ltS n W H (aA B g) (aD B g) (aT g) sd S i).1 ((ltV sd (i + 1)) / 8 % n) none, (ltS n W H (aA B g) (aD B g) (aT g) sd S i).2) := (by unfold dlS; rw [if_neg h97n, if_pos h123n]); exact px_eq (by rw [nI_1]) rfl (nx hlt _ ((hk.tr (rDrem m (dd + i))).tr (rD.wF (a := 83) (by omega))) (by show stM _ _ (dlS n W H (aA B g) (aD B g) (aT g) (ltV sd (i + 1)) (ltS n W H (aA B g) (aD B g) (aT g) sd S i)) _; rw [e]; exact stM_ly hst2 rfl rfl (upR_no (rRow_0.mp hst2.2.2.1).1) (by rw [xI_wF, if_pos rfl, upR_32 (by omega)]; exact (rRow_0.mp hst2.2.2.1).2)) _ _ _))
        | (have e : dlS n W H (aA B g) (aD B g) (aT g) (ltV sd (i + 1)) (ltS n W H (aA B g) (aD B g) (aT g) sd S i) = (ltS n W H (aA B g) (aD B g) (aT g) sd S i) := (by unfold dlS; rw [if_neg h97n, if_neg h123n, if_pos h141]); exact px_eq (by rw [nI_1]) rfl (nx hlt _ (hk.tr (rDrem m (dd + i))) (by show stM _ _ (dlS n W H (aA B g) (aD B g) (aT g) (ltV sd (i + 1)) (ltS n W H (aA B g) (aD B g) (aT g) sd S i)) _; rw [e]; exact hst2) _ _ _))
        | (have e : dlS n W H (aA B g) (aD B g) (aT g) (ltV sd (i + 1)) (ltS n W H (aA B g) (aD B g) (aT g) sd S i) = (uly (ltS n W H (aA B g) (aD B g) (aT g) sd S i).1 ((ltV sd (i + 1)) / 8 % n) (some (p, x, y, t)), (ltS n W H (aA B g) (aD B g) (aT g) sd S i).2) := (by unfold dlS; rw [if_neg h97n, if_neg h123n, if_neg h141, eN]); exact px_eq (by rw [nI_1]) rfl (nx hlt _ (((hk.tr (rDrem m (dd + i))).tr q1.d).tr (rD.wF (a := 83) (by omega))) (by show stM _ _ (dlS n W H (aA B g) (aD B g) (aT g) (ltV sd (i + 1)) (ltS n W H (aA B g) (aD B g) (aT g) sd S i)) _; rw [e]; exact stM_ly hst3 rfl rfl (upR_so (rRow_0.mp hst3.2.2.1).1) (by rw [xI_wF, if_pos rfl, upR_32 (by omega)]; exact (rRow_0.mp hst3.2.2.1).2)) _ _ _))
        | (have e : dlS n W H (aA B g) (aD B g) (aT g) (ltV sd (i + 1)) (ltS n W H (aA B g) (aD B g) (aT g) sd S i) = (ltS n W H (aA B g) (aD B g) (aT g) sd S i) := (by unfold dlS; rw [if_neg h97n, if_neg h123n, if_neg h141, spP_n (hsU _ hfn).1 hok.2.1 hok.2.2.1 h161, uly_id (Classical.byContradiction h141)]); exact px_eq (by rw [nI_1]) rfl (nx hlt _ ((hk.tr (rDrem m (dd + i))).tr q1.d) (by show stM _ _ (dlS n W H (aA B g) (aD B g) (aT g) (ltV sd (i + 1)) (ltS n W H (aA B g) (aD B g) (aT g) sd S i)) _; rw [e]; exact hst3) _ _ _))

set_option maxRecDepth 100000 in
theorem c_X11_lots {E : xE} {M : xMem} {n W H B dd : Nat} {g : Nat → Nat → Nat} {S : gLay × Nat} {P : Nat → gLay × Nat} (hc : rHy M n W H B g dd S P) {v w : Int32} : Ct E mX11_lots [.ref 74, .int v, .int w] M (xN M) (fun r m => r = some (.int (aLot n W H (aA B g) (aD B g) (aT g) dd S P v w).1) ∧ rD M m ∧ stM m (aLot n W H (aA B g) (aD B g) (aT g) dd S P v w).2.1 (aLot n W H (aA B g) (aD B g) (aT g) dd S P v w).2.2.1 (aLot n W H (aA B g) (aD B g) (aT g) dd S P v w).2.2.2) := by
  have hc0 := hc
  obtain ⟨hM, hW, hsh, hok, hst, hly, hru⟩ := hc
  have h8 : n ≤ 8 := hok.1
  have hb : lyB S.1 := (hsh.s hok).b hly
  have hl : lyM (M.1 83) S.1 := lyM_c hst.2.2.1.1 (fun k _ => by rw [Nat.zero_add])
  have hpg := pgL_le hb 8
  have hn8 := h8
  have hd4 : dd ≤ 40 := hst.2.1
  have hsM := hsh.s hok
  have hsU := hsh.u hok
  refine Ct.of (lo := [some (.ref 74), some (.int v), some (.int w), none, none, none, none, none, none]) pln_X11 (Nat.le_of_ble_eq_true rfl) rfl (Nat.le_refl _) ?_
  refine px_iload_n dX11_lots_0 rfl rfl ?_
  refine px_iconst dX11_lots_1 ic_1 ?_
  refine px_bipush dX11_lots_2 bp_20 ?_
  refine px_fS3i dX11_lots_4 kX11_lots_75 (Nat.le_of_ble_eq_true rfl) (c_X11_in) ?_
  refine px_zif_eq 21 dX11_lots_7 rfl (fun h7 => ?_) (fun h7 => ?_)
  · refine px_iconst dX11_lots_21 ic_m1 ?_
    exact px_iret dX11_lots_22 rfl (by rw [show aLot n W H (aA B g) (aD B g) (aT g) dd S P v w = (-1, dd, S, P) from by simp only [aLot, h7, not_true_eq_false, not_false_eq_true, if_true, if_false, and_self, true_and, and_true, ite_true, ite_false, reduceIte, eq_self, ite_self]]; exact ⟨rfl, rD.rf M, hst⟩) (rfl)
  · refine px_iload_n dX11_lots_10 rfl rfl ?_
    refine px_iconst dX11_lots_11 ic_1 ?_
    refine px_ldcw dX11_lots_12 xw1518 ?_
    refine px_fS3i dX11_lots_15 kX11_lots_75 (Nat.le_of_ble_eq_true rfl) (c_X11_in) ?_
    refine px_zif_ne 23 dX11_lots_18 rfl (fun h18 => ?_) (fun h18 => ?_)
    · have g1 : 1 ≤ v ∧ v ≤ 20 := h7
      have g2 : 1 ≤ w ∧ w ≤ 2147483646 := h18
      obtain ⟨cn, hcn, rfl⟩ := nI_of2 (x := v) (M := 20) (n := 20) rfl (fun z => by (simp only [Int32.le_iff_toInt_le, Int32.lt_iff_toInt_lt, ← Int32.toInt_inj, Int32.reduceToInt] at *; omega)) g1.2
      obtain ⟨sd, hsd, rfl⟩ := nI_of2 (x := w) (M := 2147483646) (n := 2147483646) rfl (fun z => by (simp only [Int32.le_iff_toInt_le, Int32.lt_iff_toInt_lt, ← Int32.toInt_inj, Int32.reduceToInt] at *; omega)) g2.2
      have hnc : (nI cn).toNatClampNeg = cn := nI_clamp (by omega)
      have hns : (nI sd).toNatClampNeg = sd := nI_clamp (by omega)
      refine px_aload_n dX11_lots_23 rfl rfl ?_
      refine px_getI dX11_lots_24 fX11_179 (xol rfl) hM rfl ?_
      refine px_top (y := nI n) hsh.1 ?_
      refine px_if_ne 33 dX11_lots_27 rfl (fun h27 => ?_) (fun h27 => ?_)
      · have h29 : ¬ n = 0 := fun z => h27 ((n0_i h8).mpr z)
        refine px_aload_n dX11_lots_33 rfl rfl ?_
        refine px_getI dX11_lots_34 fX11_185 (xol rfl) hM rfl ?_
        refine px_top (y := nI dd) hst.1 ?_
        refine px_iload_n dX11_lots_37 rfl rfl ?_
        refine px_iadd dX11_lots_38 ?_
        refine px_top (y := nI (dd + cn)) (nI_add _ _) ?_
        refine px_bipush dX11_lots_39 bp_40 ?_
        refine px_icmp_le 47 dX11_lots_41 rfl (fun h41 => ?_) (fun h41 => ?_)
        · have h40 : dd + cn ≤ 40 := by rw [show (40 : Int32) = nI 40 from rfl, nI_leI (by omega) (by omega)] at h41; omega
          refine px_iload_n dX11_lots_47 rfl rfl ?_
          refine px_i2l dX11_lots_48 ?_
          refine px_topl (y := lN sd) (nI_l (by omega)) ?_
          refine px_sl_3 dX11_lots_49 rfl ?_
          refine px_iconst dX11_lots_50 ic_0 ?_
          refine px_si_5 dX11_lots_51 rfl ?_
          refine px_q ?_ (l_X11_lots (sd := sd) hc0 h29 (by omega) h40 M (rD.rf M) hst _ _ _)
          rintro r m ⟨h1, h2, h3⟩
          rw [show aLot n W H (aA B g) (aD B g) (aT g) dd S P (nI cn) (nI sd) = (nI (stL (ltS n W H (aA B g) (aD B g) (aT g) sd S cn).1 8), dd + cn, (ltS n W H (aA B g) (aD B g) (aT g) sd S cn), (ltP n W H (aA B g) (aD B g) (aT g) sd dd S P cn)) from by unfold aLot; rw [if_neg (fun z => z g1), if_neg (fun z => z g2), if_neg h29, hnc, hns, if_neg (fun z => z h40)]]
          exact ⟨h1, h2, h3⟩
        · refine px_bipush dX11_lots_44 bp_m2 ?_
          exact px_iret dX11_lots_46 rfl (by rw [show aLot n W H (aA B g) (aD B g) (aT g) dd S P (nI cn) (nI sd) = (-2, dd, S, P) from by unfold aLot; rw [if_neg (fun z => z g1), if_neg (fun z => z g2), if_neg h29, hnc, if_pos (fun z => h41 (by rw [show (40 : Int32) = nI 40 from rfl, nI_leI (by omega) (by omega)]; exact z))]]; exact ⟨rfl, rD.rf M, hst⟩) (rfl)
      · refine px_bipush dX11_lots_30 bp_m4 ?_
        exact px_iret dX11_lots_32 rfl (by rw [show aLot n W H (aA B g) (aD B g) (aT g) dd S P (nI cn) (nI sd) = (-4, dd, S, P) from by unfold aLot; rw [if_neg (fun z => z g1), if_neg (fun z => z g2), if_pos ((n0_i h8).mp h27)]]; exact ⟨rfl, rD.rf M, hst⟩) (rfl)
    · refine px_iconst dX11_lots_21 ic_m1 ?_
      exact px_iret dX11_lots_22 rfl (by rw [show aLot n W H (aA B g) (aD B g) (aT g) dd S P v w = (-1, dd, S, P) from by simp only [aLot, h7, h18, not_true_eq_false, not_false_eq_true, if_true, if_false, and_self, true_and, and_true, ite_true, ite_false, reduceIte, eq_self, ite_self]]; exact ⟨rfl, rD.rf M, hst⟩) (rfl)
