/-! ===== counts ===== -/
def tkA (A D : Nat → Nat) (lay : gLay) (n : Nat) : Nat → Nat
  | 0 => 0
  | p + 1 => tkA A D lay n p + tkN A D lay (nI p) n
noncomputable def frA (W H : Nat) (A D : Nat → Nat) (lay : gLay) : Nat → Nat
  | 0 => 0
  | p + 1 => frA W H A D lay p + (fL W H (lOcc A D lay p)).length
def rcN (z : Nat → Int32) : Nat → Nat
  | 0 => 0
  | r + 1 => if z r = -1 then rcN z r else rcN z r + 1
theorem rcN_m {z : Nat → Int32} {r : Nat} (h : z r = -1) : rcN z (r + 1) = rcN z r := by rw [rcN, if_pos h]
theorem rcN_p {z : Nat → Int32} {r : Nat} (h : ¬ z r = -1) : rcN z (r + 1) = rcN z r + 1 := by rw [rcN, if_neg h]
theorem rcN_c {z z' : Nat → Int32} : ∀ n, (∀ i, i < n → z i = z' i) → rcN z n = rcN z' n
  | 0, _ => rfl
  | n + 1, h => by rw [rcN, rcN, rcN_c n (fun i hi => h i (by omega)), h n (by omega)]
def kcN (K : Nat → aKep) : Nat → Nat
  | 0 => 0
  | k + 1 => match K k with
    | none => kcN K k
    | some _ => kcN K k + 1
theorem kcN_n {K : Nat → aKep} {k : Nat} (h : K k = none) : kcN K (k + 1) = kcN K k := by rw [kcN, h]
theorem kcN_s {K : Nat → aKep} {k : Nat} (h : ¬ K k = none) : kcN K (k + 1) = kcN K k + 1 := by
  rw [kcN]
  cases e : K k with
  | none => exact absurd e h
  | some q => rfl
theorem kp_n {M : xMem} {K : Nat → aKep} (hK : kpC M K) {k : Nat} (hk : k < 3) (h : M.1 5 (nI k).toNatClampNeg = 0) : K k = none := by
  rw [nI_clamp (by omega)] at h
  cases e : K k with
  | none => rfl
  | some q => rw [((hK k hk).2 q e).1] at h; exact absurd h (by decide)
theorem kp_s {M : xMem} {K : Nat → aKep} (hK : kpC M K) {k : Nat} (hk : k < 3) (h : ¬ M.1 5 (nI k).toNatClampNeg = 0) : ¬ K k = none := fun z => h (by rw [nI_clamp (by omega)]; exact (hK k hk).1 z)
theorem mp_n {M : xMem} {K : Nat → aKep} (hK : kpM M K) {k : Nat} (hk : k < 3) (h : M.1 91 (nI k).toNatClampNeg < 0) : K k = none := by
  rw [nI_clamp (by omega)] at h
  cases e : K k with
  | none => rfl
  | some q => rw [((hK k hk).2 q e).1] at h; exact absurd h (nI_pos (by have := ((hK k hk).2 q e).2.1; omega))
theorem mp_s {M : xMem} {K : Nat → aKep} (hK : kpM M K) {k : Nat} (hk : k < 3) (h : ¬ M.1 91 (nI k).toNatClampNeg < 0) : ¬ K k = none := fun z => h (by rw [nI_clamp (by omega), (hK k hk).1 z]; decide)
theorem sz_n {x : Int32} {N : Nat} (hN : N < 2 ^ 30) (h : x = -1 ∨ ∃ n, n ≤ N ∧ x = nI n) (hx : x < 0) : x = -1 := by
  rcases h with h | ⟨n, hn, h⟩
  · exact h
  · rw [h] at hx; exact absurd hx (nI_pos (by omega))
theorem sz_p {x : Int32} (hx : ¬ x < 0) : ¬ x = -1 := fun z => hx (by rw [z]; decide)
noncomputable def aCnt (n W H B : Nat) (A D : Nat → Nat) (S : gLay × Nat) (dd rc tc kc : Nat) (w : Int32) : Int32 := if w = 0 then nI n else if w = 1 then nI (stL S.1 8) else if w = 2 then nI (pgL S.1 8) else if w = 3 then nI W else if w = 4 then nI H else if w = 5 then nI B else if w = 6 then nI S.2 else if w = 7 then nI (tkA A D S.1 n (pgL S.1 8)) else if w = 8 then nI (frA W H A D S.1 (pgL S.1 8)) else if w = 9 then nI (tuL S.1 8) else if w = 10 then nI dd else if w = 11 then nI rc else if w = 12 then nI tc else if w = 13 then nI kc else -1

set_option maxRecDepth 100000 in
theorem l_X10_pt {E : xE} {M : xMem} {s n W H B dd : Nat} {g : Nat → Nat → Nat} {S : gLay × Nat} {P : Nat → gLay × Nat} (hc : cHy M s n W H B g dd S P) : PR E mX10_placesTakenOnAllPages (xN M) 15 [some (.ref 1), some (.int (nI (tkA (aA B g) (aD B g) S.1 n 0))), some (.int (nI (pgL S.1 8))), some (.int (nI 0))] [] (M) (fun r m => r = some (.int (nI (tkA (aA B g) (aD B g) S.1 n (pgL S.1 8)))) ∧ m = M) := by
  have hc0 := hc
  obtain ⟨hM, hW, hs, hcu, hsh, hok, hst, hly, hru⟩ := hc
  have hp0 : 0 < s := hs.1
  have h8 : n ≤ 8 := hok.1
  have hb : lyB S.1 := (hsh.s hok).b hly
  have hl : lyC (M.1 8) S.1 := hst.2.2.1
  have hpg := pgL_le hb 8
  have hd4 : dd ≤ 40 := hst.2.1
  have hsC := hsh.s hok
  have h7 := xob_7 hs
  refine px_for (P := fun i => PR E mX10_placesTakenOnAllPages (xN M) 15 [some (.ref 1), some (.int (nI (tkA (aA B g) (aD B g) S.1 n i))), some (.int (nI (pgL S.1 8))), some (.int (nI i))] [] (M) (fun r m => r = some (.int (nI (tkA (aA B g) (aD B g) S.1 n (pgL S.1 8)))) ∧ m = M)) (pgL S.1 8) (fun i hi nx => ?_) (0) (Nat.zero_le _)
  refine px_iload_n dX10_placesTakenOnAllPages_15 rfl rfl ?_
  refine px_iload_n dX10_placesTakenOnAllPages_16 rfl rfl ?_
  refine px_icmp_ge 44 dX10_placesTakenOnAllPages_17 rfl (fun h17 => ?_) (fun h17 => ?_)
  · have hi2 : i = pgL S.1 8 := by rw [nI_leI (by omega) (by omega)] at h17; omega
    refine px_iload_n dX10_placesTakenOnAllPages_44 rfl rfl ?_
    exact px_iret dX10_placesTakenOnAllPages_45 rfl ⟨by rw [hi2], rfl⟩ (rfl)
  · have hlt : i < pgL S.1 8 := by rw [nI_leI (by omega) (by omega)] at h17; omega
    refine px_iload_n dX10_placesTakenOnAllPages_20 rfl rfl ?_
    refine px_aload_n dX10_placesTakenOnAllPages_21 rfl rfl ?_
    refine px_getR dX10_placesTakenOnAllPages_22 fX10_71 (xol rfl) hM rfl (by assumption) (by assumption) ?_
    refine px_aload_n dX10_placesTakenOnAllPages_25 rfl rfl ?_
    refine px_getR dX10_placesTakenOnAllPages_26 fX10_32 (xol rfl) hM rfl (wr_10_4 hW (xol rfl)) (Nat.succ_pos _) ?_
    refine px_getR dX10_placesTakenOnAllPages_29 fX10_163 (xol rfl) hM rfl (wr_8_0 hW (xol rfl)) (Nat.succ_pos _) ?_
    refine px_iload_n dX10_placesTakenOnAllPages_32 rfl rfl ?_
    refine px_fV2i dX10_placesTakenOnAllPages_33 kX10_placesTakenOnAllPages_281 hs hM (Nat.le_of_ble_eq_true rfl) (c_X7_placesTaken (la := 7) (pg := nI i) hM hW hs (xol rfl) hsC hl hb) ?_
    refine px_iadd dX10_placesTakenOnAllPages_36 ?_
    refine px_top (y := nI (tkA (aA B g) (aD B g) S.1 n (i + 1))) (nI_add _ _) ?_
    refine px_si_1 dX10_placesTakenOnAllPages_37 rfl ?_
    refine px_inc_3 dX10_placesTakenOnAllPages_38 rfl ic_1 ?_
    refine px_goto 15 dX10_placesTakenOnAllPages_41 rfl ?_
    exact px_eq (by rw [nI_1]) rfl (nx hlt)

set_option maxRecDepth 100000 in
theorem c_X10_pt {E : xE} {M : xMem} {s n W H B dd : Nat} {g : Nat → Nat → Nat} {S : gLay × Nat} {P : Nat → gLay × Nat} (hc : cHy M s n W H B g dd S P) : Cf E mX10_placesTakenOnAllPages [.ref 1] M (some (.int (nI (tkA (aA B g) (aD B g) S.1 n (pgL S.1 8))))) M := by
  refine Ct.of (lo := [some (.ref 1), none, none, none]) pln_X10 (Nat.le_of_ble_eq_true rfl) rfl (Nat.le_refl _) ?_
  have hc0 := hc
  obtain ⟨hM, hW, hs, hcu, hsh, hok, hst, hly, hru⟩ := hc
  have hp0 : 0 < s := hs.1
  have h8 : n ≤ 8 := hok.1
  have hb : lyB S.1 := (hsh.s hok).b hly
  have hl : lyC (M.1 8) S.1 := hst.2.2.1
  have hpg := pgL_le hb 8
  refine px_iconst dX10_placesTakenOnAllPages_0 ic_0 ?_
  refine px_si_1 dX10_placesTakenOnAllPages_1 rfl ?_
  refine px_aload_n dX10_placesTakenOnAllPages_2 rfl rfl ?_
  refine px_getR dX10_placesTakenOnAllPages_3 fX10_32 (xol rfl) hM rfl (wr_10_4 hW (xol rfl)) (Nat.succ_pos _) ?_
  refine px_getR dX10_placesTakenOnAllPages_6 fX10_163 (xol rfl) hM rfl (wr_8_0 hW (xol rfl)) (Nat.succ_pos _) ?_
  refine px_fV0i dX10_placesTakenOnAllPages_9 kX10_placesTakenOnAllPages_210 (xol rfl) hM (Nat.le_of_ble_eq_true rfl) (c_X1_pages (la := 7) hM hW (xol rfl) hl hb) ?_
  refine px_si_2 dX10_placesTakenOnAllPages_12 rfl ?_
  refine px_iconst dX10_placesTakenOnAllPages_13 ic_0 ?_
  refine px_si_3 dX10_placesTakenOnAllPages_14 rfl ?_
  exact l_X10_pt hc0

set_option maxRecDepth 100000 in
theorem l_X10_fa {E : xE} {M : xMem} {s n W H B dd : Nat} {g : Nat → Nat → Nat} {S : gLay × Nat} {P : Nat → gLay × Nat} (hc : cHy M s n W H B g dd S P) : ∀ m, cS M m → PR E mX10_freeOnAllPages (xN M) 15 [some (.ref 1), some (.int (nI (frA W H (aA B g) (aD B g) S.1 0))), some (.int (nI (pgL S.1 8))), some (.int (nI 0))] [] (m) (fun r m => r = some (.int (nI (frA W H (aA B g) (aD B g) S.1 (pgL S.1 8)))) ∧ cS M m) := by
  have hc0 := hc
  obtain ⟨hM, hW, hs, hcu, hsh, hok, hst, hly, hru⟩ := hc
  have hp0 : 0 < s := hs.1
  have h8 : n ≤ 8 := hok.1
  have hb : lyB S.1 := (hsh.s hok).b hly
  have hl : lyC (M.1 8) S.1 := hst.2.2.1
  have hpg := pgL_le hb 8
  have hd4 : dd ≤ 40 := hst.2.1
  have hsC := hsh.s hok
  have h7 := xob_7 hs
  refine px_for (P := fun i => ∀ m, cS M m → PR E mX10_freeOnAllPages (xN M) 15 [some (.ref 1), some (.int (nI (frA W H (aA B g) (aD B g) S.1 i))), some (.int (nI (pgL S.1 8))), some (.int (nI i))] [] (m) (fun r m => r = some (.int (nI (frA W H (aA B g) (aD B g) S.1 (pgL S.1 8)))) ∧ cS M m)) (pgL S.1 8) (fun i hi nx => ?_) (0) (Nat.zero_le _)
  intro m hk
  have hm : xNT ≤ xN m := by rw [hk.m]; exact hM
  have hw : xWire m.2.1 := by rw [hk.w]; exact hW
  have hcm : m.2.1 1 10 = s := by rw [hk.w]; exact hcu
  have hsC1 := (hk.sh hs hsh h8).s hok
  have hl1 : lyC (m.1 8) S.1 := by rw [hk.2 8 (by omega)]; exact hl
  refine px_iload_n dX10_freeOnAllPages_15 rfl rfl ?_
  refine px_iload_n dX10_freeOnAllPages_16 rfl rfl ?_
  refine px_icmp_ge 61 dX10_freeOnAllPages_17 rfl (fun h17 => ?_) (fun h17 => ?_)
  · have hi2 : i = pgL S.1 8 := by rw [nI_leI (by omega) (by omega)] at h17; omega
    refine px_iload_n dX10_freeOnAllPages_61 rfl rfl ?_
    exact px_iret dX10_freeOnAllPages_62 rfl ⟨by rw [hi2], hk⟩ (hk.m)
  · have hlt : i < pgL S.1 8 := by rw [nI_leI (by omega) (by omega)] at h17; omega
    refine px_aload_n dX10_freeOnAllPages_20 rfl rfl ?_
    refine px_getR dX10_freeOnAllPages_21 fX10_53 (xol rfl) hm rfl (wr_10_7 hw (xol rfl)) (Nat.succ_pos _) ?_
    refine px_getR dX10_freeOnAllPages_24 fX10_232 (xol rfl) hm rfl (wr_2_0 hw (xol rfl)) (Nat.succ_pos _) ?_
    refine px_aload_n dX10_freeOnAllPages_27 rfl rfl ?_
    refine px_getR dX10_freeOnAllPages_28 fX10_71 (xol rfl) hm rfl (by assumption) (by assumption) ?_
    refine px_aload_n dX10_freeOnAllPages_31 rfl rfl ?_
    refine px_getR dX10_freeOnAllPages_32 fX10_32 (xol rfl) hm rfl (wr_10_4 hw (xol rfl)) (Nat.succ_pos _) ?_
    refine px_getR dX10_freeOnAllPages_35 fX10_163 (xol rfl) hm rfl (wr_8_0 hw (xol rfl)) (Nat.succ_pos _) ?_
    refine px_iload_n dX10_freeOnAllPages_38 rfl rfl ?_
    refine px_gV3 dX10_freeOnAllPages_39 kX10_freeOnAllPages_236 (xol rfl) hm (Nat.le_of_ble_eq_true rfl) (c_X4_look (la := 7) hm hw hs (xol rfl) hsC1 hl1 hly (by omega)) (fun r39 M39 hq39 hn39 => ?_)
    obtain ⟨rfl, L, q1, q2, q3⟩ := hq39
    have eL := fL_eq q3
    subst eL
    have hm5 : xNT ≤ xN M39 := by rw [hn39]; exact hm
    have hw5 : xWire M39.2.1 := by rw [q1.1]; exact hw
    refine px_iload_n dX10_freeOnAllPages_42 rfl rfl ?_
    refine px_aload_n dX10_freeOnAllPages_43 rfl rfl ?_
    refine px_getR dX10_freeOnAllPages_44 fX10_53 (xol rfl) hm5 rfl (wr_10_7 hw5 (xol rfl)) (Nat.succ_pos _) ?_
    refine px_getR dX10_freeOnAllPages_47 fX10_232 (xol rfl) hm5 rfl (wr_2_0 hw5 (xol rfl)) (Nat.succ_pos _) ?_
    refine px_getI dX10_freeOnAllPages_50 fX10_241 (xol rfl) hm5 rfl ?_
    refine px_top (y := nI (fL W H (lOcc (aA B g) (aD B g) S.1 i)).length) q2.1 ?_
    refine px_iadd dX10_freeOnAllPages_53 ?_
    refine px_top (y := nI (frA W H (aA B g) (aD B g) S.1 (i + 1))) (nI_add _ _) ?_
    refine px_si_1 dX10_freeOnAllPages_54 rfl ?_
    refine px_inc_3 dX10_freeOnAllPages_55 rfl ic_1 ?_
    refine px_goto 15 dX10_freeOnAllPages_58 rfl ?_
    exact px_eq (by rw [nI_1]) rfl (nx hlt M39 (hk.tr q1.c))

set_option maxRecDepth 100000 in
theorem c_X10_fa {E : xE} {M : xMem} {s n W H B dd : Nat} {g : Nat → Nat → Nat} {S : gLay × Nat} {P : Nat → gLay × Nat} (hc : cHy M s n W H B g dd S P) : Ct E mX10_freeOnAllPages [.ref 1] M (xN M) (fun r m => r = some (.int (nI (frA W H (aA B g) (aD B g) S.1 (pgL S.1 8)))) ∧ cS M m) := by
  have hc0 := hc
  obtain ⟨hM, hW, hs, hcu, hsh, hok, hst, hly, hru⟩ := hc
  have hp0 : 0 < s := hs.1
  have h8 : n ≤ 8 := hok.1
  have hb : lyB S.1 := (hsh.s hok).b hly
  have hl : lyC (M.1 8) S.1 := hst.2.2.1
  have hpg := pgL_le hb 8
  refine Ct.of (lo := [some (.ref 1), none, none, none]) pln_X10 (Nat.le_of_ble_eq_true rfl) rfl (Nat.le_refl _) ?_
  refine px_iconst dX10_freeOnAllPages_0 ic_0 ?_
  refine px_si_1 dX10_freeOnAllPages_1 rfl ?_
  refine px_aload_n dX10_freeOnAllPages_2 rfl rfl ?_
  refine px_getR dX10_freeOnAllPages_3 fX10_32 (xol rfl) hM rfl (wr_10_4 hW (xol rfl)) (Nat.succ_pos _) ?_
  refine px_getR dX10_freeOnAllPages_6 fX10_163 (xol rfl) hM rfl (wr_8_0 hW (xol rfl)) (Nat.succ_pos _) ?_
  refine px_fV0i dX10_freeOnAllPages_9 kX10_freeOnAllPages_210 (xol rfl) hM (Nat.le_of_ble_eq_true rfl) (c_X1_pages (la := 7) hM hW (xol rfl) hl hb) ?_
  refine px_si_2 dX10_freeOnAllPages_12 rfl ?_
  refine px_iconst dX10_freeOnAllPages_13 ic_0 ?_
  refine px_si_3 dX10_freeOnAllPages_14 rfl ?_
  exact l_X10_fa hc0 M (cS.rf M)

set_option maxRecDepth 100000 in
theorem l_X10_rows {E : xE} {M : xMem} (hM : xNT ≤ xN M) (hW : xWire M.2.1) : PR E mX10_rowsThere (xN M) 4 [some (.ref 1), some (.int (nI (rcN (fun r => M.1 (42 + 2 * r) 1) 0))), some (.int (nI 0))] [] (M) (fun r m => r = some (.int (nI (rcN (fun r => M.1 (42 + 2 * r) 1) 6))) ∧ m = M) := by
  refine px_for (P := fun i => PR E mX10_rowsThere (xN M) 4 [some (.ref 1), some (.int (nI (rcN (fun r => M.1 (42 + 2 * r) 1) i))), some (.int (nI i))] [] (M) (fun r m => r = some (.int (nI (rcN (fun r => M.1 (42 + 2 * r) 1) 6))) ∧ m = M)) (6) (fun i hi nx => ?_) (0) (Nat.zero_le _)
  refine px_iload_n dX10_rowsThere_4 rfl rfl ?_
  refine px_bipush dX10_rowsThere_5 bp_6 ?_
  refine px_icmp_ge 31 dX10_rowsThere_7 rfl (fun h7 => ?_) (fun h7 => ?_)
  · have hi2 : i = 6 := by rw [show (6 : Int32) = nI 6 from rfl, nI_leI (by omega) (by omega)] at h7; omega
    refine px_iload_n dX10_rowsThere_31 rfl rfl ?_
    exact px_iret dX10_rowsThere_32 rfl ⟨by rw [hi2], rfl⟩ (rfl)
  · have hlt : i < 6 := by rw [show (6 : Int32) = nI 6 from rfl, nI_leI (by omega) (by omega)] at h7; omega
    have hni : (nI i).toNatClampNeg = i := nI_clamp (by omega)
    refine px_aload_n dX10_rowsThere_10 rfl rfl ?_
    refine px_getR dX10_rowsThere_11 fX10_11 (xol rfl) hM rfl (wr_10_0 hW (xol rfl)) (Nat.succ_pos _) ?_
    refine px_iload_n dX10_rowsThere_14 rfl rfl ?_
    refine px_aald (t0 := 3) dX10_rowsThere_15 (xal (n := 6) rfl) (by decide) (fun _ => rfl) hM (vp_in_nI (by omega) (by decide)) (show M.2.1 2 (nI i).toNatClampNeg = 42 + 2 * i by rw [hni]; exact wa_2 hW (by omega)) (by omega) ?_
    refine px_fV0i dX10_rowsThere_16 kX10_rowsThere_96 (ob_row (by omega)) hM (Nat.le_of_ble_eq_true rfl) (c_X5_isMissing (ob_row (by omega)) hM) ?_
    refine px_zif_ne 25 dX10_rowsThere_19 rfl (fun h19 => ?_) (fun h19 => ?_)
    · refine px_inc_2 dX10_rowsThere_25 rfl ic_1 ?_
      refine px_goto 4 dX10_rowsThere_28 rfl ?_
      first
        | exact px_eq (by rw [nI_1, rcN_m (z := (fun r => M.1 (42 + 2 * r) 1)) (r := i) h19]) rfl (nx hlt)
        | exact px_eq (by rw [nI_1, nI_1, rcN_p (z := (fun r => M.1 (42 + 2 * r) 1)) (r := i) h19]) rfl (nx hlt)
    · refine px_inc_1 dX10_rowsThere_22 rfl ic_1 ?_
      refine px_inc_2 dX10_rowsThere_25 rfl ic_1 ?_
      refine px_goto 4 dX10_rowsThere_28 rfl ?_
      first
        | exact px_eq (by rw [nI_1, rcN_m (z := (fun r => M.1 (42 + 2 * r) 1)) (r := i) h19]) rfl (nx hlt)
        | exact px_eq (by rw [nI_1, nI_1, rcN_p (z := (fun r => M.1 (42 + 2 * r) 1)) (r := i) h19]) rfl (nx hlt)

set_option maxRecDepth 100000 in
theorem c_X10_rowsThere {E : xE} {M : xMem} (hM : xNT ≤ xN M) (hW : xWire M.2.1) : Cf E mX10_rowsThere [.ref 1] M (some (.int (nI (rcN (fun r => M.1 (42 + 2 * r) 1) 6)))) M := by
  refine Ct.of (lo := [some (.ref 1), none, none]) pln_X10 (Nat.le_of_ble_eq_true rfl) rfl (Nat.le_refl _) ?_
  refine px_iconst dX10_rowsThere_0 ic_0 ?_
  refine px_si_1 dX10_rowsThere_1 rfl ?_
  refine px_iconst dX10_rowsThere_2 ic_0 ?_
  refine px_si_2 dX10_rowsThere_3 rfl ?_
  exact l_X10_rows hM hW

set_option maxRecDepth 100000 in
theorem l_X10_texts {E : xE} {M : xMem} (hM : xNT ≤ xN M) (hW : xWire M.2.1) : PR E mX10_textsThere (xN M) 4 [some (.ref 1), some (.int (nI (rcN (fun t => M.1 (54 + 2 * t) 1) 0))), some (.int (nI 0))] [] (M) (fun r m => r = some (.int (nI (rcN (fun t => M.1 (54 + 2 * t) 1) 4))) ∧ m = M) := by
  refine px_for (P := fun i => PR E mX10_textsThere (xN M) 4 [some (.ref 1), some (.int (nI (rcN (fun t => M.1 (54 + 2 * t) 1) i))), some (.int (nI i))] [] (M) (fun r m => r = some (.int (nI (rcN (fun t => M.1 (54 + 2 * t) 1) 4))) ∧ m = M)) (4) (fun i hi nx => ?_) (0) (Nat.zero_le _)
  refine px_iload_n dX10_textsThere_4 rfl rfl ?_
  refine px_iconst dX10_textsThere_5 ic_4 ?_
  refine px_icmp_ge 30 dX10_textsThere_6 rfl (fun h6 => ?_) (fun h6 => ?_)
  · have hi2 : i = 4 := by rw [show (4 : Int32) = nI 4 from rfl, nI_leI (by omega) (by omega)] at h6; omega
    refine px_iload_n dX10_textsThere_30 rfl rfl ?_
    exact px_iret dX10_textsThere_31 rfl ⟨by rw [hi2], rfl⟩ (rfl)
  · have hlt : i < 4 := by rw [show (4 : Int32) = nI 4 from rfl, nI_leI (by omega) (by omega)] at h6; omega
    have hni : (nI i).toNatClampNeg = i := nI_clamp (by omega)
    refine px_aload_n dX10_textsThere_9 rfl rfl ?_
    refine px_getR dX10_textsThere_10 fX10_17 (xol rfl) hM rfl (wr_10_1 hW (xol rfl)) (Nat.succ_pos _) ?_
    refine px_iload_n dX10_textsThere_13 rfl rfl ?_
    refine px_aald (t0 := 4) dX10_textsThere_14 (xal (n := 4) rfl) (by decide) (fun _ => rfl) hM (vp_in_nI (by omega) (by decide)) (show M.2.1 3 (nI i).toNatClampNeg = 54 + 2 * i by rw [hni]; exact wa_3 hW (by omega)) (by omega) ?_
    refine px_fV0i dX10_textsThere_15 kX10_textsThere_123 (ob_text (by omega)) hM (Nat.le_of_ble_eq_true rfl) (c_X9_isMissing (ob_text (by omega)) hM) ?_
    refine px_zif_ne 24 dX10_textsThere_18 rfl (fun h18 => ?_) (fun h18 => ?_)
    · refine px_inc_2 dX10_textsThere_24 rfl ic_1 ?_
      refine px_goto 4 dX10_textsThere_27 rfl ?_
      first
        | exact px_eq (by rw [nI_1, rcN_m (z := (fun t => M.1 (54 + 2 * t) 1)) (r := i) h18]) rfl (nx hlt)
        | exact px_eq (by rw [nI_1, nI_1, rcN_p (z := (fun t => M.1 (54 + 2 * t) 1)) (r := i) h18]) rfl (nx hlt)
    · refine px_inc_1 dX10_textsThere_21 rfl ic_1 ?_
      refine px_inc_2 dX10_textsThere_24 rfl ic_1 ?_
      refine px_goto 4 dX10_textsThere_27 rfl ?_
      first
        | exact px_eq (by rw [nI_1, rcN_m (z := (fun t => M.1 (54 + 2 * t) 1)) (r := i) h18]) rfl (nx hlt)
        | exact px_eq (by rw [nI_1, nI_1, rcN_p (z := (fun t => M.1 (54 + 2 * t) 1)) (r := i) h18]) rfl (nx hlt)

set_option maxRecDepth 100000 in
theorem c_X10_textsThere {E : xE} {M : xMem} (hM : xNT ≤ xN M) (hW : xWire M.2.1) : Cf E mX10_textsThere [.ref 1] M (some (.int (nI (rcN (fun t => M.1 (54 + 2 * t) 1) 4)))) M := by
  refine Ct.of (lo := [some (.ref 1), none, none]) pln_X10 (Nat.le_of_ble_eq_true rfl) rfl (Nat.le_refl _) ?_
  refine px_iconst dX10_textsThere_0 ic_0 ?_
  refine px_si_1 dX10_textsThere_1 rfl ?_
  refine px_iconst dX10_textsThere_2 ic_0 ?_
  refine px_si_2 dX10_textsThere_3 rfl ?_
  exact l_X10_texts hM hW

set_option maxRecDepth 100000 in
theorem l_X10_kept {E : xE} {M : xMem} (hM : xNT ≤ xN M) (hW : xWire M.2.1) {K : Nat → aKep} (hK : kpC M K) : PR E mX10_sheetsKept (xN M) 4 [some (.ref 1), some (.int (nI (kcN K 0))), some (.int (nI 0))] [] (M) (fun r m => r = some (.int (nI (kcN K 3))) ∧ m = M) := by
  refine px_for (P := fun i => PR E mX10_sheetsKept (xN M) 4 [some (.ref 1), some (.int (nI (kcN K i))), some (.int (nI i))] [] (M) (fun r m => r = some (.int (nI (kcN K 3))) ∧ m = M)) (3) (fun i hi nx => ?_) (0) (Nat.zero_le _)
  refine px_iload_n dX10_sheetsKept_4 rfl rfl ?_
  refine px_iconst dX10_sheetsKept_5 ic_3 ?_
  refine px_icmp_ge 27 dX10_sheetsKept_6 rfl (fun h6 => ?_) (fun h6 => ?_)
  · have hi2 : i = 3 := by rw [show (3 : Int32) = nI 3 from rfl, nI_leI (by omega) (by omega)] at h6; omega
    refine px_iload_n dX10_sheetsKept_27 rfl rfl ?_
    exact px_iret dX10_sheetsKept_28 rfl ⟨by rw [hi2], rfl⟩ (rfl)
  · have hlt : i < 3 := by rw [show (3 : Int32) = nI 3 from rfl, nI_leI (by omega) (by omega)] at h6; omega
    refine px_aload_n dX10_sheetsKept_9 rfl rfl ?_
    refine px_getR dX10_sheetsKept_10 fX10_27 (xol rfl) hM rfl (wr_10_3 hW (xol rfl)) (Nat.succ_pos _) ?_
    refine px_iload_n dX10_sheetsKept_13 rfl rfl ?_
    refine px_zald dX10_sheetsKept_14 (xal (n := 3) rfl) hM (vp_in_nI (by omega) (by decide)) ?_
    refine px_if_eq 21 dX10_sheetsKept_15 rfl (fun h15 => ?_) (fun h15 => ?_)
    · refine px_inc_2 dX10_sheetsKept_21 rfl ic_1 ?_
      refine px_goto 4 dX10_sheetsKept_24 rfl ?_
      first
        | exact px_eq (by rw [nI_1, kcN_n (kp_n hK (by omega) h15)]) rfl (nx hlt)
        | exact px_eq (by rw [nI_1, nI_1, kcN_s (kp_s hK (by omega) h15)]) rfl (nx hlt)
    · refine px_inc_1 dX10_sheetsKept_18 rfl ic_1 ?_
      refine px_inc_2 dX10_sheetsKept_21 rfl ic_1 ?_
      refine px_goto 4 dX10_sheetsKept_24 rfl ?_
      first
        | exact px_eq (by rw [nI_1, kcN_n (kp_n hK (by omega) h15)]) rfl (nx hlt)
        | exact px_eq (by rw [nI_1, nI_1, kcN_s (kp_s hK (by omega) h15)]) rfl (nx hlt)

set_option maxRecDepth 100000 in
theorem c_X10_sheetsKept {E : xE} {M : xMem} (hM : xNT ≤ xN M) (hW : xWire M.2.1) {K : Nat → aKep} (hK : kpC M K) : Cf E mX10_sheetsKept [.ref 1] M (some (.int (nI (kcN K 3)))) M := by
  refine Ct.of (lo := [some (.ref 1), none, none]) pln_X10 (Nat.le_of_ble_eq_true rfl) rfl (Nat.le_refl _) ?_
  refine px_iconst dX10_sheetsKept_0 ic_0 ?_
  refine px_si_1 dX10_sheetsKept_1 rfl ?_
  refine px_iconst dX10_sheetsKept_2 ic_0 ?_
  refine px_si_2 dX10_sheetsKept_3 rfl ?_
  exact l_X10_kept hM hW hK

set_option maxRecDepth 100000 in
theorem c_X10_count {E : xE} {M : xMem} {s n W H B dd : Nat} {g : Nat → Nat → Nat} {S : gLay × Nat} {P : Nat → gLay × Nat} (hc : cHy M s n W H B g dd S P) {K : Nat → aKep} (hK : kpC M K) {v : Int32} : Ct E mX10_count [.ref 1, .int v] M (xN M) (fun r m => r = some (.int (aCnt n W H B (aA B g) (aD B g) S dd (rcN (fun r => M.1 (42 + 2 * r) 1) 6) (rcN (fun t => M.1 (54 + 2 * t) 1) 4) (kcN K 3) v)) ∧ cS M m) := by
  have hc0 := hc
  obtain ⟨hM, hW, hs, hcu, hsh, hok, hst, hly, hru⟩ := hc
  have hp0 : 0 < s := hs.1
  have h8 : n ≤ 8 := hok.1
  have hb : lyB S.1 := (hsh.s hok).b hly
  have hl : lyC (M.1 8) S.1 := hst.2.2.1
  have hpg := pgL_le hb 8
  have hd4 : dd ≤ 40 := hst.2.1
  have hsC := hsh.s hok
  have h7 := xob_7 hs
  refine Ct.of (lo := [some (.ref 1), some (.int v), none]) pln_X10 (Nat.le_of_ble_eq_true rfl) rfl (Nat.le_refl _) ?_
  refine px_aload_n dX10_count_0 rfl rfl ?_
  refine px_getR dX10_count_1 fX10_32 (xol rfl) hM rfl (wr_10_4 hW (xol rfl)) (Nat.succ_pos _) ?_
  refine px_getR dX10_count_4 fX10_163 (xol rfl) hM rfl (wr_8_0 hW (xol rfl)) (Nat.succ_pos _) ?_
  refine px_sa_2 dX10_count_7 rfl ?_
  refine px_iload_n dX10_count_8 rfl rfl ?_
  by_cases s9_0 : v = 0
  · refine px_tableIn (off := 71) 80 dX10_count_9 (by rw [s9_0]; decide) (by rw [s9_0]; decide) (by rw [s9_0]; rfl) rfl ?_
    refine px_aload_n dX10_count_80 rfl rfl ?_
    refine px_getR dX10_count_81 fX10_71 (xol rfl) hM rfl (by assumption) (by assumption) ?_
    refine px_getI dX10_count_84 fX10_140 hs hM rfl ?_
    refine px_top (y := nI n) hsh.1 ?_
    exact px_iret dX10_count_87 rfl (by rw [show aCnt n W H B (aA B g) (aD B g) S dd (rcN (fun r => M.1 (42 + 2 * r) 1) 6) (rcN (fun t => M.1 (54 + 2 * t) 1) 4) (kcN K 3) v = nI n from by unfold aCnt; rw [if_pos s9_0]]; exact ⟨rfl, cS.rf M⟩) (by first | rfl | exact hn133)
  by_cases s9_1 : v = 1
  · refine px_tableIn (off := 79) 88 dX10_count_9 (by rw [s9_1]; decide) (by rw [s9_1]; decide) (by rw [s9_1]; rfl) rfl ?_
    refine px_aload_n dX10_count_88 rfl rfl ?_
    refine px_fV0i dX10_count_89 kX10_count_304 (xol rfl) hM (Nat.le_of_ble_eq_true rfl) (c_X1_framesSet (la := 7) hM hW (xol rfl) hl hb) ?_
    exact px_iret dX10_count_92 rfl (by rw [show aCnt n W H B (aA B g) (aD B g) S dd (rcN (fun r => M.1 (42 + 2 * r) 1) 6) (rcN (fun t => M.1 (54 + 2 * t) 1) 4) (kcN K 3) v = nI (stL S.1 8) from by unfold aCnt; rw [if_neg s9_0, if_pos s9_1]]; exact ⟨rfl, cS.rf M⟩) (by first | rfl | exact hn133)
  by_cases s9_2 : v = 2
  · refine px_tableIn (off := 84) 93 dX10_count_9 (by rw [s9_2]; decide) (by rw [s9_2]; decide) (by rw [s9_2]; rfl) rfl ?_
    refine px_aload_n dX10_count_93 rfl rfl ?_
    refine px_fV0i dX10_count_94 kX10_count_210 (xol rfl) hM (Nat.le_of_ble_eq_true rfl) (c_X1_pages (la := 7) hM hW (xol rfl) hl hb) ?_
    exact px_iret dX10_count_97 rfl (by rw [show aCnt n W H B (aA B g) (aD B g) S dd (rcN (fun r => M.1 (42 + 2 * r) 1) 6) (rcN (fun t => M.1 (54 + 2 * t) 1) 4) (kcN K 3) v = nI (pgL S.1 8) from by unfold aCnt; rw [if_neg s9_0, if_neg s9_1, if_pos s9_2]]; exact ⟨rfl, cS.rf M⟩) (by first | rfl | exact hn133)
  by_cases s9_3 : v = 3
  · refine px_tableIn (off := 89) 98 dX10_count_9 (by rw [s9_3]; decide) (by rw [s9_3]; decide) (by rw [s9_3]; rfl) rfl ?_
    refine px_aload_n dX10_count_98 rfl rfl ?_
    refine px_getR dX10_count_99 fX10_71 (xol rfl) hM rfl (by assumption) (by assumption) ?_
    refine px_getI dX10_count_102 fX10_243 hs hM rfl ?_
    refine px_top (y := nI W) hsh.2.1 ?_
    exact px_iret dX10_count_105 rfl (by rw [show aCnt n W H B (aA B g) (aD B g) S dd (rcN (fun r => M.1 (42 + 2 * r) 1) 6) (rcN (fun t => M.1 (54 + 2 * t) 1) 4) (kcN K 3) v = nI W from by unfold aCnt; rw [if_neg s9_0, if_neg s9_1, if_neg s9_2, if_pos s9_3]]; exact ⟨rfl, cS.rf M⟩) (by first | rfl | exact hn133)
  by_cases s9_4 : v = 4
  · refine px_tableIn (off := 97) 106 dX10_count_9 (by rw [s9_4]; decide) (by rw [s9_4]; decide) (by rw [s9_4]; rfl) rfl ?_
    refine px_aload_n dX10_count_106 rfl rfl ?_
    refine px_getR dX10_count_107 fX10_71 (xol rfl) hM rfl (by assumption) (by assumption) ?_
    refine px_getI dX10_count_110 fX10_246 hs hM rfl ?_
    refine px_top (y := nI H) hsh.2.2.1 ?_
    exact px_iret dX10_count_113 rfl (by rw [show aCnt n W H B (aA B g) (aD B g) S dd (rcN (fun r => M.1 (42 + 2 * r) 1) 6) (rcN (fun t => M.1 (54 + 2 * t) 1) 4) (kcN K 3) v = nI H from by unfold aCnt; rw [if_neg s9_0, if_neg s9_1, if_neg s9_2, if_neg s9_3, if_pos s9_4]]; exact ⟨rfl, cS.rf M⟩) (by first | rfl | exact hn133)
  by_cases s9_5 : v = 5
  · refine px_tableIn (off := 105) 114 dX10_count_9 (by rw [s9_5]; decide) (by rw [s9_5]; decide) (by rw [s9_5]; rfl) rfl ?_
    refine px_aload_n dX10_count_114 rfl rfl ?_
    refine px_getR dX10_count_115 fX10_71 (xol rfl) hM rfl (by assumption) (by assumption) ?_
    refine px_getI dX10_count_118 fX10_307 hs hM rfl ?_
    refine px_top (y := nI B) hsh.2.2.2.1 ?_
    exact px_iret dX10_count_121 rfl (by rw [show aCnt n W H B (aA B g) (aD B g) S dd (rcN (fun r => M.1 (42 + 2 * r) 1) 6) (rcN (fun t => M.1 (54 + 2 * t) 1) 4) (kcN K 3) v = nI B from by unfold aCnt; rw [if_neg s9_0, if_neg s9_1, if_neg s9_2, if_neg s9_3, if_neg s9_4, if_pos s9_5]]; exact ⟨rfl, cS.rf M⟩) (by first | rfl | exact hn133)
  by_cases s9_6 : v = 6
  · refine px_tableIn (off := 113) 122 dX10_count_9 (by rw [s9_6]; decide) (by rw [s9_6]; decide) (by rw [s9_6]; rfl) rfl ?_
    refine px_aload_n dX10_count_122 rfl rfl ?_
    refine px_getI dX10_count_123 fX10_217 (xol rfl) hM rfl ?_
    refine px_top (y := nI S.2) hst.2.2.2.1 ?_
    exact px_iret dX10_count_126 rfl (by rw [show aCnt n W H B (aA B g) (aD B g) S dd (rcN (fun r => M.1 (42 + 2 * r) 1) 6) (rcN (fun t => M.1 (54 + 2 * t) 1) 4) (kcN K 3) v = nI S.2 from by unfold aCnt; rw [if_neg s9_0, if_neg s9_1, if_neg s9_2, if_neg s9_3, if_neg s9_4, if_neg s9_5, if_pos s9_6]]; exact ⟨rfl, cS.rf M⟩) (by first | rfl | exact hn133)
  by_cases s9_7 : v = 7
  · refine px_tableIn (off := 118) 127 dX10_count_9 (by rw [s9_7]; decide) (by rw [s9_7]; decide) (by rw [s9_7]; rfl) rfl ?_
    refine px_aload_n dX10_count_127 rfl rfl ?_
    refine px_fV0i dX10_count_128 kX10_count_310 (xol rfl) hM (Nat.le_of_ble_eq_true rfl) (c_X10_pt hc0) ?_
    exact px_iret dX10_count_131 rfl (by rw [show aCnt n W H B (aA B g) (aD B g) S dd (rcN (fun r => M.1 (42 + 2 * r) 1) 6) (rcN (fun t => M.1 (54 + 2 * t) 1) 4) (kcN K 3) v = nI (tkA (aA B g) (aD B g) S.1 n (pgL S.1 8)) from by unfold aCnt; rw [if_neg s9_0, if_neg s9_1, if_neg s9_2, if_neg s9_3, if_neg s9_4, if_neg s9_5, if_neg s9_6, if_pos s9_7]]; exact ⟨rfl, cS.rf M⟩) (by first | rfl | exact hn133)
  by_cases s9_8 : v = 8
  · refine px_tableIn (off := 123) 132 dX10_count_9 (by rw [s9_8]; decide) (by rw [s9_8]; decide) (by rw [s9_8]; rfl) rfl ?_
    refine px_aload_n dX10_count_132 rfl rfl ?_
    refine px_gV0 dX10_count_133 kX10_count_313 (xol rfl) hM (Nat.le_of_ble_eq_true rfl) (c_X10_fa hc0) (fun r133 M133 hq133 hn133 => ?_)
    obtain ⟨rfl, q1⟩ := hq133
    exact px_iret dX10_count_136 rfl (by rw [show aCnt n W H B (aA B g) (aD B g) S dd (rcN (fun r => M.1 (42 + 2 * r) 1) 6) (rcN (fun t => M.1 (54 + 2 * t) 1) 4) (kcN K 3) v = nI (frA W H (aA B g) (aD B g) S.1 (pgL S.1 8)) from by unfold aCnt; rw [if_neg s9_0, if_neg s9_1, if_neg s9_2, if_neg s9_3, if_neg s9_4, if_neg s9_5, if_neg s9_6, if_neg s9_7, if_pos s9_8]]; exact ⟨rfl, q1⟩) (by first | rfl | exact hn133)
  by_cases s9_9 : v = 9
  · refine px_tableIn (off := 128) 137 dX10_count_9 (by rw [s9_9]; decide) (by rw [s9_9]; decide) (by rw [s9_9]; rfl) rfl ?_
    refine px_aload_n dX10_count_137 rfl rfl ?_
    refine px_fV0i dX10_count_138 kX10_count_316 (xol rfl) hM (Nat.le_of_ble_eq_true rfl) (c_X1_framesTurned (la := 7) hM hW (xol rfl) hl hb) ?_
    exact px_iret dX10_count_141 rfl (by rw [show aCnt n W H B (aA B g) (aD B g) S dd (rcN (fun r => M.1 (42 + 2 * r) 1) 6) (rcN (fun t => M.1 (54 + 2 * t) 1) 4) (kcN K 3) v = nI (tuL S.1 8) from by unfold aCnt; rw [if_neg s9_0, if_neg s9_1, if_neg s9_2, if_neg s9_3, if_neg s9_4, if_neg s9_5, if_neg s9_6, if_neg s9_7, if_neg s9_8, if_pos s9_9]]; exact ⟨rfl, cS.rf M⟩) (by first | rfl | exact hn133)
  by_cases s9_10 : v = 10
  · refine px_tableIn (off := 133) 142 dX10_count_9 (by rw [s9_10]; decide) (by rw [s9_10]; decide) (by rw [s9_10]; rfl) rfl ?_
    refine px_aload_n dX10_count_142 rfl rfl ?_
    refine px_getR dX10_count_143 fX10_32 (xol rfl) hM rfl (wr_10_4 hW (xol rfl)) (Nat.succ_pos _) ?_
    refine px_getI dX10_count_146 fX10_220 (xol rfl) hM rfl ?_
    refine px_top (y := nI dd) hst.1 ?_
    exact px_iret dX10_count_149 rfl (by rw [show aCnt n W H B (aA B g) (aD B g) S dd (rcN (fun r => M.1 (42 + 2 * r) 1) 6) (rcN (fun t => M.1 (54 + 2 * t) 1) 4) (kcN K 3) v = nI dd from by unfold aCnt; rw [if_neg s9_0, if_neg s9_1, if_neg s9_2, if_neg s9_3, if_neg s9_4, if_neg s9_5, if_neg s9_6, if_neg s9_7, if_neg s9_8, if_neg s9_9, if_pos s9_10]]; exact ⟨rfl, cS.rf M⟩) (by first | rfl | exact hn133)
  by_cases s9_11 : v = 11
  · refine px_tableIn (off := 141) 150 dX10_count_9 (by rw [s9_11]; decide) (by rw [s9_11]; decide) (by rw [s9_11]; rfl) rfl ?_
    refine px_aload_n dX10_count_150 rfl rfl ?_
    refine px_fV0i dX10_count_151 kX10_count_319 (xol rfl) hM (Nat.le_of_ble_eq_true rfl) (c_X10_rowsThere hM hW) ?_
    exact px_iret dX10_count_154 rfl (by rw [show aCnt n W H B (aA B g) (aD B g) S dd (rcN (fun r => M.1 (42 + 2 * r) 1) 6) (rcN (fun t => M.1 (54 + 2 * t) 1) 4) (kcN K 3) v = nI (rcN (fun r => M.1 (42 + 2 * r) 1) 6) from by unfold aCnt; rw [if_neg s9_0, if_neg s9_1, if_neg s9_2, if_neg s9_3, if_neg s9_4, if_neg s9_5, if_neg s9_6, if_neg s9_7, if_neg s9_8, if_neg s9_9, if_neg s9_10, if_pos s9_11]]; exact ⟨rfl, cS.rf M⟩) (by first | rfl | exact hn133)
  by_cases s9_12 : v = 12
  · refine px_tableIn (off := 146) 155 dX10_count_9 (by rw [s9_12]; decide) (by rw [s9_12]; decide) (by rw [s9_12]; rfl) rfl ?_
    refine px_aload_n dX10_count_155 rfl rfl ?_
    refine px_fV0i dX10_count_156 kX10_count_322 (xol rfl) hM (Nat.le_of_ble_eq_true rfl) (c_X10_textsThere hM hW) ?_
    exact px_iret dX10_count_159 rfl (by rw [show aCnt n W H B (aA B g) (aD B g) S dd (rcN (fun r => M.1 (42 + 2 * r) 1) 6) (rcN (fun t => M.1 (54 + 2 * t) 1) 4) (kcN K 3) v = nI (rcN (fun t => M.1 (54 + 2 * t) 1) 4) from by unfold aCnt; rw [if_neg s9_0, if_neg s9_1, if_neg s9_2, if_neg s9_3, if_neg s9_4, if_neg s9_5, if_neg s9_6, if_neg s9_7, if_neg s9_8, if_neg s9_9, if_neg s9_10, if_neg s9_11, if_pos s9_12]]; exact ⟨rfl, cS.rf M⟩) (by first | rfl | exact hn133)
  by_cases s9_13 : v = 13
  · refine px_tableIn (off := 151) 160 dX10_count_9 (by rw [s9_13]; decide) (by rw [s9_13]; decide) (by rw [s9_13]; rfl) rfl ?_
    refine px_aload_n dX10_count_160 rfl rfl ?_
    refine px_fV0i dX10_count_161 kX10_count_325 (xol rfl) hM (Nat.le_of_ble_eq_true rfl) (c_X10_sheetsKept hM hW hK) ?_
    exact px_iret dX10_count_164 rfl (by rw [show aCnt n W H B (aA B g) (aD B g) S dd (rcN (fun r => M.1 (42 + 2 * r) 1) 6) (rcN (fun t => M.1 (54 + 2 * t) 1) 4) (kcN K 3) v = nI (kcN K 3) from by unfold aCnt; rw [if_neg s9_0, if_neg s9_1, if_neg s9_2, if_neg s9_3, if_neg s9_4, if_neg s9_5, if_neg s9_6, if_neg s9_7, if_neg s9_8, if_neg s9_9, if_neg s9_10, if_neg s9_11, if_neg s9_12, if_pos s9_13]]; exact ⟨rfl, cS.rf M⟩) (by first | rfl | exact hn133)
  refine px_tableOut 165 dX10_count_9 (by simp only [← Int32.toInt_inj, Int32.reduceToInt] at *; omega) rfl ?_
  refine px_iconst dX10_count_165 ic_m1 ?_
  exact px_iret dX10_count_166 rfl (by rw [show aCnt n W H B (aA B g) (aD B g) S dd (rcN (fun r => M.1 (42 + 2 * r) 1) 6) (rcN (fun t => M.1 (54 + 2 * t) 1) 4) (kcN K 3) v = -1 from by unfold aCnt; rw [if_neg s9_0, if_neg s9_1, if_neg s9_2, if_neg s9_3, if_neg s9_4, if_neg s9_5, if_neg s9_6, if_neg s9_7, if_neg s9_8, if_neg s9_9, if_neg s9_10, if_neg s9_11, if_neg s9_12, if_neg s9_13]]; exact ⟨rfl, cS.rf M⟩) (by first | rfl | exact hn133)
