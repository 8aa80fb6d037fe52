/-! ===== what a page could take ===== -/
def tkB (A D T : Nat → Nat) (lay : gLay) (L : List gR) : Nat → Int32
  | 0 => 0
  | f + 1 => if lay f = none ∧ (bsK 0 A D f L (T f) L.length).isSome = true then tkB A D T lay L f ||| (1 <<< (nI f &&& 31)) else tkB A D T lay L f
def gtL (L : List gR) : Nat → Nat
  | 0 => 0
  | k + 1 => nMx (gtL L k) ((gd L k).2.2.1 * (gd L k).2.2.2)
theorem gtL_le {L : List gR} (hB : ∀ r ∈ L, rB r) : ∀ k, gtL L k ≤ 256
  | 0 => Nat.zero_le _
  | k + 1 => nMx_le (gtL_le hB k) (by have := gd_B hB k; exact Nat.mul_le_mul this.2.2.1 this.2.2.2)
noncomputable def aTak (n W H : Nat) (A D T : Nat → Nat) (lay : gLay) (v : Int32) : aOut := if ¬ (0 ≤ v ∧ v < nI (pgL lay 8)) then aBad else (tkB A D T lay (fL W H (lOcc A D lay v.toNatClampNeg)) n, some (nI (gtL (fL W H (lOcc A D lay v.toNatClampNeg)) (fL W H (lOcc A D lay v.toNatClampNeg)).length)), none)
theorem tkB_u {A D T : Nat → Nat} {lay : gLay} {L : List gR} {f : Nat} (h : ¬ lay f = none) : tkB A D T lay L (f + 1) = tkB A D T lay L f := by rw [tkB, if_neg (fun z => h z.1)]
theorem tkB_n {A D T : Nat → Nat} {lay : gLay} {L : List gR} {f : Nat} (h : bsK 0 A D f L (T f) L.length = none) : tkB A D T lay L (f + 1) = tkB A D T lay L f := by rw [tkB, if_neg (fun z => by rw [h] at z; cases z.2)]
theorem tkB_s {A D T : Nat → Nat} {lay : gLay} {L : List gR} {f : Nat} (h1 : lay f = none) (h : (bsK 0 A D f L (T f) L.length).isSome = true) : tkB A D T lay L (f + 1) = tkB A D T lay L f ||| (1 <<< (nI f &&& 31)) := by rw [tkB, if_pos ⟨h1, h⟩]

set_option maxRecDepth 100000 in
theorem l_X4_greatest {E : xE} {M : xMem} {L : List gR} (hM : xNT ≤ xN M) (hW : xWire M.2.1) (hC : frC M L) (hB : ∀ r ∈ L, rB r) (h729 : L.length ≤ 729) : PR E mX4_greatest (xN M) 4 [some (.ref 25), some (.int (nI (gtL L 0))), some (.int (nI 0))] [] (M) (fun r m => r = some (.int (nI (gtL L L.length))) ∧ m = M) := by
  refine px_for (P := fun i => PR E mX4_greatest (xN M) 4 [some (.ref 25), some (.int (nI (gtL L i))), some (.int (nI i))] [] (M) (fun r m => r = some (.int (nI (gtL L L.length))) ∧ m = M)) (L.length) (fun i hi nx => ?_) (0) (by omega)
  refine px_iload_n dX4_greatest_4 rfl rfl ?_
  refine px_aload_n dX4_greatest_5 rfl rfl ?_
  refine px_getI dX4_greatest_6 fX4_25 (xol rfl) hM rfl ?_
  refine px_top (y := nI L.length) hC.1 ?_
  refine px_icmp_ge 42 dX4_greatest_9 rfl (fun h9 => ?_) (fun h9 => ?_)
  · refine px_iload_n dX4_greatest_42 rfl rfl ?_
    exact px_iret dX4_greatest_43 rfl ⟨by rw [show i = L.length by rw [nI_leI (by omega) (by omega)] at h9; omega], rfl⟩ (rfl)
  · have hlt : i < L.length := by rw [nI_leI (by omega) (by omega)] at h9; omega
    have hg := hC.2 i _ (gd_at hlt)
    have hd := rc_dec (gd_B hB i)
    have hr := gd_B hB i
    have hgt := gtL_le hB i
    have hmul : (gd L i).2.2.1 * (gd L i).2.2.2 ≤ 256 := Nat.mul_le_mul hr.2.2.1 hr.2.2.2
    have hnk : (nI i).toNatClampNeg = i := nI_clamp (by omega)
    refine px_iload_n dX4_greatest_12 rfl rfl ?_
    refine px_aload_n dX4_greatest_13 rfl rfl ?_
    refine px_getR dX4_greatest_14 fX4_15 (xol rfl) hM rfl (wr_4_1 hW (xol rfl)) (Nat.succ_pos _) ?_
    refine px_iload_n dX4_greatest_17 rfl rfl ?_
    refine px_iald dX4_greatest_18 (xal (n := 729) rfl) hM (vp_in_nI (by omega) (by decide)) ?_
    refine px_top (y := nI (gEnc (gd L i))) (by rw [hnk]; exact hg) ?_
    refine px_fS1i dX4_greatest_19 kX4_greatest_91 (Nat.le_of_ble_eq_true rfl) (c_X4_acrossOf) ?_
    refine px_top (y := nI (gd L i).2.2.1) hd.2.2.1 ?_
    refine px_aload_n dX4_greatest_22 rfl rfl ?_
    refine px_getR dX4_greatest_23 fX4_15 (xol rfl) hM rfl (wr_4_1 hW (xol rfl)) (Nat.succ_pos _) ?_
    refine px_iload_n dX4_greatest_26 rfl rfl ?_
    refine px_iald dX4_greatest_27 (xal (n := 729) rfl) hM (vp_in_nI (by omega) (by decide)) ?_
    refine px_top (y := nI (gEnc (gd L i))) (by rw [hnk]; exact hg) ?_
    refine px_fS1i dX4_greatest_28 kX4_greatest_94 (Nat.le_of_ble_eq_true rfl) (c_X4_downOf) ?_
    refine px_top (y := nI (gd L i).2.2.2) hd.2.2.2 ?_
    refine px_imul dX4_greatest_31 ?_
    refine px_top (y := nI ((gd L i).2.2.1 * (gd L i).2.2.2)) (pk_mul _ _) ?_
    refine px_max dX4_greatest_32 kX4_greatest_98 (Nat.le_of_ble_eq_true rfl) ?_
    refine px_top (y := nI (gtL L (i + 1))) (i_maxN (by omega) (by omega)) ?_
    refine px_si_1 dX4_greatest_35 rfl ?_
    refine px_inc_2 dX4_greatest_36 rfl ic_1 ?_
    refine px_goto 4 dX4_greatest_39 rfl ?_
    exact px_eq (by rw [nI_1]) rfl (nx hlt)

set_option maxRecDepth 100000 in
theorem c_X4_greatest {E : xE} {M : xMem} {L : List gR} (hM : xNT ≤ xN M) (hW : xWire M.2.1) (hC : frC M L) (hB : ∀ r ∈ L, rB r) (h729 : L.length ≤ 729) : Cf E mX4_greatest [.ref 25] M (some (.int (nI (gtL L L.length)))) M := by
  refine Ct.of (lo := [some (.ref 25), none, none]) pln_X4 (Nat.le_of_ble_eq_true rfl) rfl (Nat.le_refl _) ?_
  refine px_iconst dX4_greatest_0 ic_0 ?_
  refine px_si_1 dX4_greatest_1 rfl ?_
  refine px_iconst dX4_greatest_2 ic_0 ?_
  refine px_si_2 dX4_greatest_3 rfl ?_
  exact l_X4_greatest hM hW hC hB h729

set_option maxRecDepth 100000 in
theorem l_X10_takes {E : xE} {M : xMem} {s n W H B dd : Nat} {g : Nat → Nat → Nat} {S : gLay × Nat} {P : Nat → gLay × Nat} (hc : cHy M s n W H B g dd S P) {L : List gR} {m : xMem} {p : Nat} (hk : rmS M m) (hC : frC m L) (hB : ∀ r ∈ L, rB r) (h729 : L.length ≤ 729) : PR E mX10_takes (xN M) 39 [some (.ref 1), some (.int (nI p)), some (.ref 25), some (.int (tkB (aA B g) (aD B g) (aT g) S.1 L 0)), some (.int (nI 0))] [] m (fun r m2 => r = some (.int (tkB (aA B g) (aD B g) (aT g) S.1 L n)) ∧ cS (telM M (nI (gtL L L.length))) m2) := by
  obtain ⟨hM, hW, hs, hcu, hsh, hok, hst, hly, hru⟩ := hc
  have hp0 : 0 < s := hs.1
  have h8 : n ≤ 8 := hok.1
  have hb : lyB S.1 := (hsh.s hok).b hly
  have hl : lyC (M.1 8) S.1 := hst.2.2.1
  have hpg := pgL_le hb 8
  have hm : xNT ≤ xN m := by rw [hk.m]; exact hM
  have hw : xWire m.2.1 := by rw [hk.w]; exact hW
  have hmN := hk.m
  have h7 := xob_7 hs
  have hsC := hsh.s hok
  have hsT := hsh.t hok
  have hsC1 := shC_keep hs hsC hk
  have hcu1 : m.2.1 1 10 = s := by rw [hk.w]; exact hcu
  have hl1 : lyC (m.1 8) S.1 := by rw [hk.2 8 (by omega) (by omega) (by omega)]; exact hl
  refine px_for (P := fun i => PR E mX10_takes (xN M) 39 [some (.ref 1), some (.int (nI p)), some (.ref 25), some (.int (tkB (aA B g) (aD B g) (aT g) S.1 L i)), some (.int (nI i))] [] m (fun r m2 => r = some (.int (tkB (aA B g) (aD B g) (aT g) S.1 L n)) ∧ cS (telM M (nI (gtL L L.length))) m2)) n (fun i hi nx => ?_) 0 (Nat.zero_le _)
  refine px_iload dX10_takes_39 rfl ?_
  refine px_aload_n dX10_takes_41 rfl rfl ?_
  refine px_getR dX10_takes_42 fX10_71 (xol rfl) hm rfl (by assumption) (by assumption) ?_
  refine px_getI dX10_takes_45 fX10_140 hs hm rfl ?_
  refine px_top (y := nI n) (by rw [hk.2 s (by omega) (by omega) (by omega)]; exact hsh.1) ?_
  refine px_icmp_ge 99 dX10_takes_48 rfl (fun h48 => ?_) (fun h48 => ?_)
  · refine px_aload_n dX10_takes_99 rfl rfl ?_
    refine px_aload_n dX10_takes_100 rfl rfl ?_
    refine px_fV0i dX10_takes_101 kX10_takes_289 (xol rfl) hm (Nat.le_of_ble_eq_true rfl) (c_X4_greatest hm hw hC hB h729) ?_
    refine px_putI dX10_takes_104 fX10_75 p10_11 (xol rfl) hm rfl ?_
    refine px_iload_n dX10_takes_107 rfl rfl ?_
    exact px_iret dX10_takes_108 rfl ⟨by rw [show i = n by rw [nI_leI (by omega) (by omega)] at h48; omega], hk.c.wI _ _ _⟩ (hmN)
  · have hlt : i < n := by rw [nI_leI (by omega) (by omega)] at h48; omega
    have hfi : vp_in (nI i) 8 := vp_in_nI (by omega) (by decide)
    have hnf : (nI i).toNatClampNeg = i := nI_clamp (by omega)
    have hTi := hsT i hlt
    have e34 : m.1 (fA s i) = M.1 (fA s i) := hk.2 _ (by show s + 1 + 1 + i ≠ 25; omega) (by show s + 1 + 1 + i ≠ 26; omega) (by show s + 1 + 1 + i ≠ 27; omega)
    refine px_aload_n dX10_takes_51 rfl rfl ?_
    refine px_getR dX10_takes_52 fX10_32 (xol rfl) hm rfl (wr_10_4 hw (xol rfl)) (Nat.succ_pos _) ?_
    refine px_getR dX10_takes_55 fX10_163 (xol rfl) hm rfl (wr_8_0 hw (xol rfl)) (Nat.succ_pos _) ?_
    refine px_iload dX10_takes_58 rfl ?_
    refine px_fV1i dX10_takes_60 kX10_takes_166 (xol rfl) hm (Nat.le_of_ble_eq_true rfl) (c_X1_isSet (a := 7) (xol rfl) hm hw hfi) ?_
    refine px_top (y := zb (¬ S.1 i = none)) (lyC_is hl1 hb (by omega)) ?_
    refine px_zif_ne 93 dX10_takes_63 rfl (fun h63 => ?_) (fun h63 => ?_)
    · refine px_inc_4 dX10_takes_93 rfl ic_1 ?_
      refine px_goto 39 dX10_takes_96 rfl ?_
      first
        | exact px_eq (by rw [nI_1, tkB_u h63]) rfl (nx hlt)
        | exact px_eq (by rw [nI_1, tkB_n (spE_n hB (fun q hq => by have := (bsK_ok (aT g i) _ q hq).2.1; have := hTi.1; omega) h83)]) rfl (nx hlt)
        | exact px_eq (by rw [nI_1, tkB_s (Classical.byContradiction h63) (by obtain ⟨q, hq⟩ := spE_s h83; rw [hq]; rfl)]) rfl (nx hlt)
    · refine px_aload_n dX10_takes_66 rfl rfl ?_
      refine px_aload_n dX10_takes_67 rfl rfl ?_
      refine px_getR dX10_takes_68 fX10_71 (xol rfl) hm rfl (by assumption) (by assumption) ?_
      refine px_getR dX10_takes_71 fX10_154 hs hm rfl (wr_7_0 hw hs) (Nat.succ_pos _) ?_
      refine px_iload dX10_takes_74 rfl ?_
      refine px_aald (t0 := 6) dX10_takes_76 (ar_7 hs) (by decide) (fun _ => rfl) hm hfi (show m.2.1 (s + 1) (nI i).toNatClampNeg = s + 1 + 1 + i by rw [hnf]; exact wa_26 hw (ar_7 hs) (by omega)) (by omega) ?_
      refine px_iconst dX10_takes_77 ic_0 ?_
      refine px_fV2i dX10_takes_78 kX10_takes_285 (xol rfl) hm (Nat.le_of_ble_eq_true rfl) (c_X4_bestSpot (M := m) (s := s) (f := i) (T := aT g i) (rule := 0) hm hw hs hsC1 hC hB h729 hlt hTi.1 (by decide) (by rw [e34]; exact hTi.2)) ?_
      refine px_bipush dX10_takes_81 bp_m9 ?_
      refine px_icmp_eq 93 dX10_takes_83 rfl (fun h83 => ?_) (fun h83 => ?_)
      · refine px_inc_4 dX10_takes_93 rfl ic_1 ?_
        refine px_goto 39 dX10_takes_96 rfl ?_
        first
          | exact px_eq (by rw [nI_1, tkB_u h63]) rfl (nx hlt)
          | exact px_eq (by rw [nI_1, tkB_n (spE_n hB (fun q hq => by have := (bsK_ok (aT g i) _ q hq).2.1; have := hTi.1; omega) h83)]) rfl (nx hlt)
          | exact px_eq (by rw [nI_1, tkB_s (Classical.byContradiction h63) (by obtain ⟨q, hq⟩ := spE_s h83; rw [hq]; rfl)]) rfl (nx hlt)
      · refine px_iload_n dX10_takes_86 rfl rfl ?_
        refine px_iconst dX10_takes_87 ic_1 ?_
        refine px_iload dX10_takes_88 rfl ?_
        refine px_ishl dX10_takes_90 ?_
        refine px_ior dX10_takes_91 ?_
        refine px_si_3 dX10_takes_92 rfl ?_
        refine px_inc_4 dX10_takes_93 rfl ic_1 ?_
        refine px_goto 39 dX10_takes_96 rfl ?_
        first
          | exact px_eq (by rw [nI_1, tkB_u h63]) rfl (nx hlt)
          | exact px_eq (by rw [nI_1, tkB_n (spE_n hB (fun q hq => by have := (bsK_ok (aT g i) _ q hq).2.1; have := hTi.1; omega) h83)]) rfl (nx hlt)
          | exact px_eq (by rw [nI_1, tkB_s (Classical.byContradiction h63) (by obtain ⟨q, hq⟩ := spE_s h83; rw [hq]; rfl)]) rfl (nx hlt)

set_option maxRecDepth 100000 in
theorem c_X10_takes {E : xE} {M : xMem} {s n W H B dd : Nat} {g : Nat → Nat → Nat} {S : gLay × Nat} {P : Nat → gLay × Nat} (hc : cHy M s n W H B g dd S P) {v : Int32} : Ct E mX10_takes [.ref 1, .int v] M (xN M) (fun r m => r = some (.int (aTak n W H (aA B g) (aD B g) (aT g) S.1 v).1) ∧ cS (oC M (aTak n W H (aA B g) (aD B g) (aT g) S.1 v).2.1 (aTak n W H (aA B g) (aD B g) (aT g) S.1 v).2.2) m) := by
  have hc0 := hc
  obtain ⟨hM, hW, hs, hcu, hsh, hok, hst, hly, hru⟩ := hc
  have hp0 : 0 < s := hs.1
  have h8 : n ≤ 8 := hok.1
  have hb : lyB S.1 := (hsh.s hok).b hly
  have hl : lyC (M.1 8) S.1 := hst.2.2.1
  have hpg := pgL_le hb 8
  refine Ct.of (lo := [some (.ref 1), some (.int v), none, none, none]) pln_X10 (Nat.le_of_ble_eq_true rfl) rfl (Nat.le_refl _) ?_
  refine px_aload_n dX10_takes_0 rfl rfl ?_
  refine px_iload_n dX10_takes_1 rfl rfl ?_
  refine px_fV1i dX10_takes_2 kX10_takes_229 (xol rfl) hM (Nat.le_of_ble_eq_true rfl) (c_X10_isPage hc0) ?_
  refine px_zif_ne 10 dX10_takes_5 rfl (fun h5 => ?_) (fun h5 => ?_)
  · obtain ⟨p, hp, rfl⟩ := in_nat (by omega) h5
    have hnp : (nI p).toNatClampNeg = p := nI_clamp (by omega)
    refine px_aload_n dX10_takes_10 rfl rfl ?_
    refine px_getR dX10_takes_11 fX10_53 (xol rfl) hM rfl (wr_10_7 hW (xol rfl)) (Nat.succ_pos _) ?_
    refine px_getR dX10_takes_14 fX10_232 (xol rfl) hM rfl (wr_2_0 hW (xol rfl)) (Nat.succ_pos _) ?_
    refine px_sa_2 dX10_takes_17 rfl ?_
    refine px_aload_n dX10_takes_18 rfl rfl ?_
    refine px_aload_n dX10_takes_19 rfl rfl ?_
    refine px_getR dX10_takes_20 fX10_71 (xol rfl) hM rfl (by assumption) (by assumption) ?_
    refine px_aload_n dX10_takes_23 rfl rfl ?_
    refine px_getR dX10_takes_24 fX10_32 (xol rfl) hM rfl (wr_10_4 hW (xol rfl)) (Nat.succ_pos _) ?_
    refine px_getR dX10_takes_27 fX10_163 (xol rfl) hM rfl (wr_8_0 hW (xol rfl)) (Nat.succ_pos _) ?_
    refine px_iload_n dX10_takes_30 rfl rfl ?_
    refine px_gV3 dX10_takes_31 kX10_takes_236 (xol rfl) hM (Nat.le_of_ble_eq_true rfl) (c_X4_look (n := n) (W := W) (H := H) (la := 7) hM hW hs (xol rfl) (hsh.s hok) hl hly (by omega)) (fun r31 M31 hq31 hn31 => ?_)
    obtain ⟨rfl, L, q1, q2, q3⟩ := hq31
    have hcap := lcap (p := p) hly h8 L q3.1 (fun q hq => (q3.2 q).mp hq)
    have hB := gIs_B hok.2.1 hok.2.2.1 q3
    have eL := fL_eq q3
    refine px_iconst dX10_takes_34 ic_0 ?_
    refine px_si_3 dX10_takes_35 rfl ?_
    refine px_iconst dX10_takes_36 ic_0 ?_
    refine px_si_4 dX10_takes_37 rfl ?_
    subst eL
    simp only [aTak, h5, hnp, not_true_eq_false, not_false_eq_true, if_true, if_false, and_self, or_true, true_or, or_false, false_or, true_and, and_true, false_and, and_false, or_self, ite_true, ite_false, reduceIte, oC, oR]
    exact l_X10_takes hc0 q1 q2 hB hcap
  · refine px_iconst dX10_takes_8 ic_m1 ?_
    exact px_iret dX10_takes_9 rfl ⟨by simp only [aTak, h5, not_true_eq_false, not_false_eq_true, if_true, if_false, and_self, or_true, true_or, or_false, false_or, true_and, and_true, false_and, and_false, or_self, ite_true, ite_false, reduceIte, oC, oR], by simp only [aTak, h5, not_true_eq_false, not_false_eq_true, if_true, if_false, and_self, or_true, true_or, or_false, false_or, true_and, and_true, false_and, and_false, or_self, ite_true, ite_false, reduceIte, oC, oR]; exact cS.rf _⟩ (rfl)

set_option maxRecDepth 100000 in
theorem l_X11_takes2 {E : xE} {M : xMem} {n W H B dd : Nat} {g : Nat → Nat → Nat} {S : gLay × Nat} {P : Nat → gLay × Nat} (hc : rHy M n W H B g dd S P) {L : List gR} {m : xMem} {p : Nat} (hk : mSc2 M m) (hL : frL m L) (hB : ∀ r ∈ L, rB r) (h729 : L.length ≤ 729) : PR E mX11_takes (xN M) 70 [some (.ref 74), some (.int (nI p)), some (.int (tkB (aA B g) (aD B g) (aT g) S.1 L n)), some (.int (nI (gtL L 0))), some (.int (nI 0))] [] m (fun r m2 => r = some (.int (tkB (aA B g) (aD B g) (aT g) S.1 L n)) ∧ rS (mtel M (nI (gtL L L.length))) m2) := by
  obtain ⟨hM, hW, hsh, hok, hst, hly, hru⟩ := hc
  have h8 : n ≤ 8 := hok.1
  have hb : lyB S.1 := (hsh.s hok).b hly
  have hl : lyM (M.1 83) S.1 := lyM_c hst.2.2.1.1 (fun k _ => by rw [Nat.zero_add])
  have hpg := pgL_le hb 8
  have hm : xNT ≤ xN m := by rw [hk.m]; exact hM
  have hw : xWire m.2.1 := by rw [hk.w]; exact hW
  have hmN := hk.m
  have hsM := hsh.s hok
  have hsU := hsh.u hok
  have hs1 := hk.sh hsM
  have hl1 : lyM (m.1 83) S.1 := by rw [hk.now]; exact hl
  refine px_for (P := fun i => PR E mX11_takes (xN M) 70 [some (.ref 74), some (.int (nI p)), some (.int (tkB (aA B g) (aD B g) (aT g) S.1 L n)), some (.int (nI (gtL L i))), some (.int (nI i))] [] m (fun r m2 => r = some (.int (tkB (aA B g) (aD B g) (aT g) S.1 L n)) ∧ rS (mtel M (nI (gtL L L.length))) m2)) L.length (fun i hi nx => ?_) 0 (Nat.zero_le _)
  refine px_iload dX11_takes_70 rfl ?_
  refine px_aload_n dX11_takes_72 rfl rfl ?_
  refine px_getI dX11_takes_73 fX11_242 (xol rfl) hm rfl ?_
  refine px_top (y := nI L.length) hL.1 ?_
  refine px_icmp_ge 124 dX11_takes_76 rfl (fun h76 => ?_) (fun h76 => ?_)
  · refine px_aload_n dX11_takes_124 rfl rfl ?_
    refine px_iload_n dX11_takes_125 rfl rfl ?_
    refine px_iload_n dX11_takes_126 rfl rfl ?_
    refine px_fV2i dX11_takes_127 kX11_takes_91 (xol rfl) hm (Nat.le_of_ble_eq_true rfl) (c_X11_tells hm) ?_
    exact px_iret dX11_takes_130 rfl ⟨rfl, by rw [show i = L.length by rw [nI_leI (by omega) (by omega)] at h76; omega]; exact hk.r.wI _ _ _⟩ (hmN)
  · have hlt : i < L.length := by rw [nI_leI (by omega) (by omega)] at h76; omega
    have ha := hL.2 i _ (gd_at hlt)
    have hr := gd_B hB i
    have hgt := gtL_le hB i
    have hmul : (gd L i).2.2.1 * (gd L i).2.2.2 ≤ 256 := Nat.mul_le_mul hr.2.2.1 hr.2.2.2
    have hnk : (nI i).toNatClampNeg = i := nI_clamp (by omega)
    refine px_aload_n dX11_takes_79 rfl rfl ?_
    refine px_getR dX11_takes_80 fX11_50 (xol rfl) hm rfl (wr_11_30 hw (xol rfl)) (Nat.succ_pos _) ?_
    refine px_iload dX11_takes_83 rfl ?_
    refine px_iald dX11_takes_85 (xal (n := 4096) rfl) hm (vp_in_nI (by omega) (by decide)) ?_
    refine px_top (y := nI (gd L i).2.2.1) (by rw [hnk]; exact ha.2.2.1) ?_
    refine px_aload_n dX11_takes_86 rfl rfl ?_
    refine px_getR dX11_takes_87 fX11_53 (xol rfl) hm rfl (wr_11_31 hw (xol rfl)) (Nat.succ_pos _) ?_
    refine px_iload dX11_takes_90 rfl ?_
    refine px_iald dX11_takes_92 (xal (n := 4096) rfl) hm (vp_in_nI (by omega) (by decide)) ?_
    refine px_top (y := nI (gd L i).2.2.2) (by rw [hnk]; exact ha.2.2.2) ?_
    refine px_imul dX11_takes_93 ?_
    refine px_top (y := nI ((gd L i).2.2.1 * (gd L i).2.2.2)) (pk_mul _ _) ?_
    refine px_iload_n dX11_takes_94 rfl rfl ?_
    refine px_icmp_le 116 dX11_takes_95 rfl (fun h95 => ?_) (fun h95 => ?_)
    · refine px_iload_n dX11_takes_116 rfl rfl ?_
      refine px_top (y := nI (gtL L (i + 1))) (by rw [gtL]; unfold nMx; rw [nI_leI (by omega) (by omega)] at h95; first | rw [if_pos (by omega)] | rw [if_neg (by omega)]) ?_
      refine px_si_3 dX11_takes_117 rfl ?_
      refine px_inc_4 dX11_takes_118 rfl ic_1 ?_
      refine px_goto 70 dX11_takes_121 rfl ?_
      exact px_eq (by rw [nI_1]) rfl (nx hlt)
    · refine px_aload_n dX11_takes_98 rfl rfl ?_
      refine px_getR dX11_takes_99 fX11_50 (xol rfl) hm rfl (wr_11_30 hw (xol rfl)) (Nat.succ_pos _) ?_
      refine px_iload dX11_takes_102 rfl ?_
      refine px_iald dX11_takes_104 (xal (n := 4096) rfl) hm (vp_in_nI (by omega) (by decide)) ?_
      refine px_top (y := nI (gd L i).2.2.1) (by rw [hnk]; exact ha.2.2.1) ?_
      refine px_aload_n dX11_takes_105 rfl rfl ?_
      refine px_getR dX11_takes_106 fX11_53 (xol rfl) hm rfl (wr_11_31 hw (xol rfl)) (Nat.succ_pos _) ?_
      refine px_iload dX11_takes_109 rfl ?_
      refine px_iald dX11_takes_111 (xal (n := 4096) rfl) hm (vp_in_nI (by omega) (by decide)) ?_
      refine px_top (y := nI (gd L i).2.2.2) (by rw [hnk]; exact ha.2.2.2) ?_
      refine px_imul dX11_takes_112 ?_
      refine px_top (y := nI ((gd L i).2.2.1 * (gd L i).2.2.2)) (pk_mul _ _) ?_
      refine px_goto 117 dX11_takes_113 rfl ?_
      refine px_top (y := nI (gtL L (i + 1))) (by rw [gtL]; unfold nMx; rw [nI_leI (by omega) (by omega)] at h95; first | rw [if_pos (by omega)] | rw [if_neg (by omega)]) ?_
      refine px_si_3 dX11_takes_117 rfl ?_
      refine px_inc_4 dX11_takes_118 rfl ic_1 ?_
      refine px_goto 70 dX11_takes_121 rfl ?_
      exact px_eq (by rw [nI_1]) rfl (nx hlt)

set_option maxRecDepth 100000 in
theorem l_X11_takes {E : xE} {M : xMem} {n W H B dd : Nat} {g : Nat → Nat → Nat} {S : gLay × Nat} {P : Nat → gLay × Nat} (hc : rHy M n W H B g dd S P) {L : List gR} {p : Nat} (hB : ∀ r ∈ L, rB r) (h729 : L.length ≤ 729) : ∀ m, mSc2 M m → frL m L → PR E mX11_takes (xN M) 22 [some (.ref 74), some (.int (nI p)), some (.int (tkB (aA B g) (aD B g) (aT g) S.1 L 0)), some (.int 0), some (.int (nI 0))] [] m (fun r m2 => r = some (.int (tkB (aA B g) (aD B g) (aT g) S.1 L n)) ∧ rS (mtel M (nI (gtL L L.length))) m2) := by
  have hc0 := hc
  obtain ⟨hM, hW, hsh, hok, hst, hly, hru⟩ := hc
  have h8 : n ≤ 8 := hok.1
  have hb : lyB S.1 := (hsh.s hok).b hly
  have hl : lyM (M.1 83) S.1 := lyM_c hst.2.2.1.1 (fun k _ => by rw [Nat.zero_add])
  have hpg := pgL_le hb 8
  refine px_for (P := fun i => ∀ m, mSc2 M m → frL m L → PR E mX11_takes (xN M) 22 [some (.ref 74), some (.int (nI p)), some (.int (tkB (aA B g) (aD B g) (aT g) S.1 L i)), some (.int 0), some (.int (nI i))] [] m (fun r m2 => r = some (.int (tkB (aA B g) (aD B g) (aT g) S.1 L n)) ∧ rS (mtel M (nI (gtL L L.length))) m2)) n (fun i hi nx => ?_) 0 (Nat.zero_le _)
  intro m hk hL
  have hm : xNT ≤ xN m := by rw [hk.m]; exact hM
  have hw : xWire m.2.1 := by rw [hk.w]; exact hW
  have hmN := hk.m
  have hsM := hsh.s hok
  have hsU := hsh.u hok
  have hs1 := hk.sh hsM
  have hl1 : lyM (m.1 83) S.1 := by rw [hk.now]; exact hl
  refine px_iload dX11_takes_22 rfl ?_
  refine px_aload_n dX11_takes_24 rfl rfl ?_
  refine px_getI dX11_takes_25 fX11_179 (xol rfl) hm rfl ?_
  refine px_top (y := nI n) hs1.1 ?_
  refine px_icmp_ge 67 dX11_takes_28 rfl (fun h28 => ?_) (fun h28 => ?_)
  · refine px_iconst dX11_takes_67 ic_0 ?_
    refine px_si_4 dX11_takes_68 rfl ?_
    have hi2 : i = n := by rw [nI_leI (by omega) (by omega)] at h28; omega
    subst hi2
    exact l_X11_takes2 hc0 hk hL hB h729
  · have hlt : i < n := by rw [nI_leI (by omega) (by omega)] at h28; omega
    have hUi := hsU i hlt
    refine px_iload_n dX11_takes_31 rfl rfl ?_
    refine px_aload_n dX11_takes_32 rfl rfl ?_
    refine px_iload dX11_takes_33 rfl ?_
    refine px_fV1i dX11_takes_35 kX11_takes_232 (xol rfl) hm (Nat.le_of_ble_eq_true rfl) (c_X11_isSet (by omega) hm hw) ?_
    refine px_top (y := zb (¬ S.1 i = none)) (lyM_is hl1 hb (by omega)) ?_
    refine px_zif_ne 58 dX11_takes_38 rfl (fun h38 => ?_) (fun h38 => ?_)
    · refine px_iconst dX11_takes_58 ic_0 ?_
      refine px_ior dX11_takes_59 ?_
      refine px_si_2 dX11_takes_60 rfl ?_
      refine px_inc_4 dX11_takes_61 rfl ic_1 ?_
      refine px_goto 22 dX11_takes_64 rfl ?_
      first
        | exact px_eq (by rw [nI_1, tkB_u h38, Int32.or_zero]) rfl (nx hlt m hk hL)
        | exact px_eq (by rw [nI_1, tkB_n (not_some h48), Int32.or_zero]) rfl (nx hlt _ (hk.tr (mSc2.bg m _)) (frL_bg hL _))
        | exact px_eq (by rw [nI_1, tkB_s (Classical.byContradiction h38) h48]) rfl (nx hlt _ (hk.tr (mSc2.bg m _)) (frL_bg hL _))
    · refine px_aload_n dX11_takes_41 rfl rfl ?_
      refine px_iload dX11_takes_42 rfl ?_
      refine px_iconst dX11_takes_44 ic_0 ?_
      refine px_fV2i dX11_takes_45 kX11_takes_277 (xol rfl) hm (Nat.le_of_ble_eq_true rfl) (c_X11_findsRoom (T := aT g i) (rule := 0) hm hw hs1 hL hB (by omega) hlt hUi.1 (by decide) (by show (if m.1 81 (7 * i + 0) = 1 then _ else if m.1 81 (7 * i + 0) = 3 then _ else _) = _; rw [hk.giv]; exact hUi.2)) ?_
      refine px_zif_eq 58 dX11_takes_48 rfl (fun h48 => ?_) (fun h48 => ?_)
      · refine px_iconst dX11_takes_58 ic_0 ?_
        refine px_ior dX11_takes_59 ?_
        refine px_si_2 dX11_takes_60 rfl ?_
        refine px_inc_4 dX11_takes_61 rfl ic_1 ?_
        refine px_goto 22 dX11_takes_64 rfl ?_
        first
          | exact px_eq (by rw [nI_1, tkB_u h38, Int32.or_zero]) rfl (nx hlt m hk hL)
          | exact px_eq (by rw [nI_1, tkB_n (not_some h48), Int32.or_zero]) rfl (nx hlt _ (hk.tr (mSc2.bg m _)) (frL_bg hL _))
          | exact px_eq (by rw [nI_1, tkB_s (Classical.byContradiction h38) h48]) rfl (nx hlt _ (hk.tr (mSc2.bg m _)) (frL_bg hL _))
      · refine px_iconst dX11_takes_51 ic_1 ?_
        refine px_iload dX11_takes_52 rfl ?_
        refine px_ishl dX11_takes_54 ?_
        refine px_goto 59 dX11_takes_55 rfl ?_
        refine px_ior dX11_takes_59 ?_
        refine px_si_2 dX11_takes_60 rfl ?_
        refine px_inc_4 dX11_takes_61 rfl ic_1 ?_
        refine px_goto 22 dX11_takes_64 rfl ?_
        first
          | exact px_eq (by rw [nI_1, tkB_u h38, Int32.or_zero]) rfl (nx hlt m hk hL)
          | exact px_eq (by rw [nI_1, tkB_n (not_some h48), Int32.or_zero]) rfl (nx hlt _ (hk.tr (mSc2.bg m _)) (frL_bg hL _))
          | exact px_eq (by rw [nI_1, tkB_s (Classical.byContradiction h38) h48]) rfl (nx hlt _ (hk.tr (mSc2.bg m _)) (frL_bg hL _))

set_option maxRecDepth 100000 in
theorem c_X11_takes {E : xE} {M : xMem} {n W H B dd : Nat} {g : Nat → Nat → Nat} {S : gLay × Nat} {P : Nat → gLay × Nat} (hc : rHy M n W H B g dd S P) {v : Int32} : Ct E mX11_takes [.ref 74, .int v] M (xN M) (fun r m => r = some (.int (aTak n W H (aA B g) (aD B g) (aT g) S.1 v).1) ∧ rS (oR M (aTak n W H (aA B g) (aD B g) (aT g) S.1 v).2.1 (aTak n W H (aA B g) (aD B g) (aT g) S.1 v).2.2) m) := by
  have hc0 := hc
  obtain ⟨hM, hW, hsh, hok, hst, hly, hru⟩ := hc
  have h8 : n ≤ 8 := hok.1
  have hb : lyB S.1 := (hsh.s hok).b hly
  have hl : lyM (M.1 83) S.1 := lyM_c hst.2.2.1.1 (fun k _ => by rw [Nat.zero_add])
  have hpg := pgL_le hb 8
  refine Ct.of (lo := [some (.ref 74), some (.int v), none, none, none]) pln_X11 (Nat.le_of_ble_eq_true rfl) rfl (Nat.le_refl _) ?_
  refine px_aload_n dX11_takes_0 rfl rfl ?_
  refine px_iload_n dX11_takes_1 rfl rfl ?_
  refine px_fV1i dX11_takes_2 kX11_takes_302 (xol rfl) hM (Nat.le_of_ble_eq_true rfl) (c_X11_isPage hc0) ?_
  refine px_zif_ne 10 dX11_takes_5 rfl (fun h5 => ?_) (fun h5 => ?_)
  · obtain ⟨p, hp, rfl⟩ := in_nat (by omega) h5
    have hnp : (nI p).toNatClampNeg = p := nI_clamp (by omega)
    refine px_aload_n dX11_takes_10 rfl rfl ?_
    refine px_iload_n dX11_takes_11 rfl rfl ?_
    refine px_gV1 dX11_takes_12 kX11_takes_274 (xol rfl) hM (Nat.le_of_ble_eq_true rfl) (c_X11_layFree (n := n) (W := W) (H := H) hM hW (hsh.s hok) hl hly (by omega)) (fun r12 M12 hq12 hn12 => ?_)
    obtain ⟨rfl, L, q1, q2, q3, q4⟩ := hq12
    have hcap := lcap (p := p) hly h8 L q3.1 (fun q hq => (q3.2 q).mp hq)
    have hB := gIs_B hok.2.1 hok.2.2.1 q3
    have eL := fL_eq q3
    refine px_iconst dX11_takes_15 ic_0 ?_
    refine px_si_2 dX11_takes_16 rfl ?_
    refine px_iconst dX11_takes_17 ic_0 ?_
    refine px_si_3 dX11_takes_18 rfl ?_
    refine px_iconst dX11_takes_19 ic_0 ?_
    refine px_si_4 dX11_takes_20 rfl ?_
    subst eL
    simp only [aTak, h5, hnp, not_true_eq_false, not_false_eq_true, if_true, if_false, and_self, or_true, true_or, or_false, false_or, true_and, and_true, false_and, and_false, or_self, ite_true, ite_false, reduceIte, oC, oR]
    exact l_X11_takes hc0 hB hcap _ q1.s q2
  · refine px_iconst dX11_takes_8 ic_m1 ?_
    exact px_iret dX11_takes_9 rfl ⟨by simp only [aTak, h5, not_true_eq_false, not_false_eq_true, if_true, if_false, and_self, or_true, true_or, or_false, false_or, true_and, and_true, false_and, and_false, or_self, ite_true, ite_false, reduceIte, oC, oR], by simp only [aTak, h5, not_true_eq_false, not_false_eq_true, if_true, if_false, and_self, or_true, true_or, or_false, false_or, true_and, and_true, false_and, and_false, or_self, ite_true, ite_false, reduceIte, oC, oR]; exact rS.rf _⟩ (rfl)
