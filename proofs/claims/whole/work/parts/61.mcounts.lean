/-! ===== counts of the reference ===== -/
set_option maxRecDepth 100000 in
theorem l_X11_at {E : xE} {M : xMem} {n W H B dd : Nat} {g : Nat → Nat → Nat} {S : gLay × Nat} {P : Nat → gLay × Nat} (hc : rHy M n W H B g dd S P) : PR E mX11_allTaken (xN M) 4 [some (.ref 74), some (.int (nI (tkA (aA B g) (aD B g) S.1 n 0))), some (.int (nI 0))] [] (M) (fun r m => r = some (.int (nI (tkA (aA B g) (aD B g) S.1 n (pgL S.1 8)))) ∧ m = M) := by
  have hc0 := hc
  obtain ⟨hM, hW, hsh, hok, hst, hly, hru⟩ := hc
  have h8 : n ≤ 8 := hok.1
  have hb : lyB S.1 := (hsh.s hok).b hly
  have hl : lyM (M.1 83) S.1 := lyM_c hst.2.2.1.1 (fun k _ => by rw [Nat.zero_add])
  have hpg := pgL_le hb 8
  have hd4 : dd ≤ 40 := hst.2.1
  have hsM := hsh.s hok
  refine px_for (P := fun i => PR E mX11_allTaken (xN M) 4 [some (.ref 74), some (.int (nI (tkA (aA B g) (aD B g) S.1 n i))), some (.int (nI i))] [] (M) (fun r m => r = some (.int (nI (tkA (aA B g) (aD B g) S.1 n (pgL S.1 8)))) ∧ m = M)) (pgL S.1 8) (fun i hi nx => ?_) (0) (Nat.zero_le _)
  refine px_iload_n dX11_allTaken_4 rfl rfl ?_
  refine px_aload_n dX11_allTaken_5 rfl rfl ?_
  refine px_fV0i dX11_allTaken_6 kX11_allTaken_270 (xol rfl) hM (Nat.le_of_ble_eq_true rfl) (c_X11_pageMany (N := n) hM hW h8 hsh.1) ?_
  refine px_top (y := nI (pgL S.1 8)) (by rw [pgF_L hl hb n h8, (L_more hly.1 8 h8).1]) ?_
  refine px_icmp_ge 26 dX11_allTaken_9 rfl (fun h9 => ?_) (fun h9 => ?_)
  · have hi2 : i = pgL S.1 8 := by rw [nI_leI (by omega) (by omega)] at h9; omega
    refine px_iload_n dX11_allTaken_26 rfl rfl ?_
    exact px_iret dX11_allTaken_27 rfl ⟨by rw [hi2], rfl⟩ (rfl)
  · have hlt : i < pgL S.1 8 := by rw [nI_leI (by omega) (by omega)] at h9; omega
    refine px_iload_n dX11_allTaken_12 rfl rfl ?_
    refine px_aload_n dX11_allTaken_13 rfl rfl ?_
    refine px_iload_n dX11_allTaken_14 rfl rfl ?_
    refine px_fV1i dX11_allTaken_15 kX11_allTaken_314 (xol rfl) hM (Nat.le_of_ble_eq_true rfl) (c_X11_takenOf (N := n) hM hW h8 hsh.1) ?_
    refine px_top (y := nI (tkN (aA B g) (aD B g) S.1 (nI i) n)) (tkF_N (by omega) hsM hl n (Nat.le_refl _)) ?_
    refine px_iadd dX11_allTaken_18 ?_
    refine px_top (y := nI (tkA (aA B g) (aD B g) S.1 n (i + 1))) (nI_add _ _) ?_
    refine px_si_1 dX11_allTaken_19 rfl ?_
    refine px_inc_2 dX11_allTaken_20 rfl ic_1 ?_
    refine px_goto 4 dX11_allTaken_23 rfl ?_
    exact px_eq (by rw [nI_1]) rfl (nx hlt)

set_option maxRecDepth 100000 in
theorem c_X11_allTaken {E : xE} {M : xMem} {n W H B dd : Nat} {g : Nat → Nat → Nat} {S : gLay × Nat} {P : Nat → gLay × Nat} (hc : rHy M n W H B g dd S P) : Cf E mX11_allTaken [.ref 74] M (some (.int (nI (tkA (aA B g) (aD B g) S.1 n (pgL S.1 8))))) M := by
  refine Ct.of (lo := [some (.ref 74), none, none]) pln_X11 (Nat.le_of_ble_eq_true rfl) rfl (Nat.le_refl _) ?_
  refine px_iconst dX11_allTaken_0 ic_0 ?_
  refine px_si_1 dX11_allTaken_1 rfl ?_
  refine px_iconst dX11_allTaken_2 ic_0 ?_
  refine px_si_2 dX11_allTaken_3 rfl ?_
  exact l_X11_at hc

set_option maxRecDepth 100000 in
theorem l_X11_af {E : xE} {M : xMem} {n W H B dd : Nat} {g : Nat → Nat → Nat} {S : gLay × Nat} {P : Nat → gLay × Nat} (hc : rHy M n W H B g dd S P) : ∀ m, mSc2 M m → PR E mX11_allFree (xN M) 4 [some (.ref 74), some (.int (nI (frA W H (aA B g) (aD B g) S.1 0))), some (.int (nI 0))] [] (m) (fun r m => r = some (.int (nI (frA W H (aA B g) (aD B g) S.1 (pgL S.1 8)))) ∧ mSc2 M m) := by
  have hc0 := hc
  obtain ⟨hM, hW, hsh, hok, hst, hly, hru⟩ := hc
  have h8 : n ≤ 8 := hok.1
  have hb : lyB S.1 := (hsh.s hok).b hly
  have hl : lyM (M.1 83) S.1 := lyM_c hst.2.2.1.1 (fun k _ => by rw [Nat.zero_add])
  have hpg := pgL_le hb 8
  have hd4 : dd ≤ 40 := hst.2.1
  have hsM := hsh.s hok
  refine px_for (P := fun i => ∀ m, mSc2 M m → PR E mX11_allFree (xN M) 4 [some (.ref 74), some (.int (nI (frA W H (aA B g) (aD B g) S.1 i))), some (.int (nI i))] [] (m) (fun r m => r = some (.int (nI (frA W H (aA B g) (aD B g) S.1 (pgL S.1 8)))) ∧ mSc2 M m)) (pgL S.1 8) (fun i hi nx => ?_) (0) (Nat.zero_le _)
  intro m hk
  have hm : xNT ≤ xN m := by rw [hk.m]; exact hM
  have hw : xWire m.2.1 := by rw [hk.w]; exact hW
  have hs1 := hk.sh hsM
  have hl1 : lyM (m.1 83) S.1 := by rw [hk.now]; exact hl
  refine px_iload_n dX11_allFree_4 rfl rfl ?_
  refine px_aload_n dX11_allFree_5 rfl rfl ?_
  refine px_fV0i dX11_allFree_6 kX11_allFree_270 (xol rfl) hm (Nat.le_of_ble_eq_true rfl) (c_X11_pageMany (N := n) hm hw h8 hs1.1) ?_
  refine px_top (y := nI (pgL S.1 8)) (by rw [pgF_L hl1 hb n h8, (L_more hly.1 8 h8).1]) ?_
  refine px_icmp_ge 30 dX11_allFree_9 rfl (fun h9 => ?_) (fun h9 => ?_)
  · have hi2 : i = pgL S.1 8 := by rw [nI_leI (by omega) (by omega)] at h9; omega
    refine px_iload_n dX11_allFree_30 rfl rfl ?_
    exact px_iret dX11_allFree_31 rfl ⟨by rw [hi2], hk⟩ (hk.m)
  · have hlt : i < pgL S.1 8 := by rw [nI_leI (by omega) (by omega)] at h9; omega
    refine px_aload_n dX11_allFree_12 rfl rfl ?_
    refine px_iload_n dX11_allFree_13 rfl rfl ?_
    refine px_gV1 dX11_allFree_14 kX11_allFree_274 (xol rfl) hm (Nat.le_of_ble_eq_true rfl) (c_X11_layFree (n := n) (W := W) (H := H) hm hw hs1 hl1 hly (by omega)) (fun r14 M14 hq14 hn14 => ?_)
    obtain ⟨rfl, L, q1, q2, q3, q4⟩ := hq14
    have eL := fL_eq q3
    subst eL
    have hm5 : xNT ≤ xN M14 := by rw [hn14]; exact hm
    have hw5 : xWire M14.2.1 := by rw [q1.1]; exact hw
    refine px_iload_n dX11_allFree_17 rfl rfl ?_
    refine px_aload_n dX11_allFree_18 rfl rfl ?_
    refine px_getI dX11_allFree_19 fX11_242 (xol rfl) hm5 rfl ?_
    refine px_top (y := nI (fL W H (lOcc (aA B g) (aD B g) S.1 i)).length) q2.1 ?_
    refine px_iadd dX11_allFree_22 ?_
    refine px_top (y := nI (frA W H (aA B g) (aD B g) S.1 (i + 1))) (nI_add _ _) ?_
    refine px_si_1 dX11_allFree_23 rfl ?_
    refine px_inc_2 dX11_allFree_24 rfl ic_1 ?_
    refine px_goto 4 dX11_allFree_27 rfl ?_
    exact px_eq (by rw [nI_1]) rfl (nx hlt M14 (hk.tr q1.s))

set_option maxRecDepth 100000 in
theorem c_X11_allFree {E : xE} {M : xMem} {n W H B dd : Nat} {g : Nat → Nat → Nat} {S : gLay × Nat} {P : Nat → gLay × Nat} (hc : rHy M n W H B g dd S P) : Ct E mX11_allFree [.ref 74] M (xN M) (fun r m => r = some (.int (nI (frA W H (aA B g) (aD B g) S.1 (pgL S.1 8)))) ∧ mSc2 M m) := by
  refine Ct.of (lo := [some (.ref 74), none, none]) pln_X11 (Nat.le_of_ble_eq_true rfl) rfl (Nat.le_refl _) ?_
  refine px_iconst dX11_allFree_0 ic_0 ?_
  refine px_si_1 dX11_allFree_1 rfl ?_
  refine px_iconst dX11_allFree_2 ic_0 ?_
  refine px_si_2 dX11_allFree_3 rfl ?_
  exact l_X11_af hc M (mSc2.rf M)

set_option maxRecDepth 100000 in
theorem l_cnt118 {E : xE} {M : xMem} {n W H B dd : Nat} {g : Nat → Nat → Nat} {S : gLay × Nat} {P : Nat → gLay × Nat} (hc : rHy M n W H B g dd S P) {v : Int32} : PR E mX11_counted (xN M) 118 [some (.ref 74), some (.int v), some (.int (nI (tuL S.1 0))), some (.int (nI 0))] [] (M) (fun r m => r = some (.int (nI (tuL S.1 8))) ∧ m = M) := by
  have hc0 := hc
  obtain ⟨hM, hW, hsh, hok, hst, hly, hru⟩ := hc
  have h8 : n ≤ 8 := hok.1
  have hb : lyB S.1 := (hsh.s hok).b hly
  have hl : lyM (M.1 83) S.1 := lyM_c hst.2.2.1.1 (fun k _ => by rw [Nat.zero_add])
  have hpg := pgL_le hb 8
  have hd4 : dd ≤ 40 := hst.2.1
  have hsM := hsh.s hok
  refine px_for (P := fun i => PR E mX11_counted (xN M) 118 [some (.ref 74), some (.int v), some (.int (nI (tuL S.1 i))), some (.int (nI i))] [] (M) (fun r m => r = some (.int (nI (tuL S.1 8))) ∧ m = M)) (n) (fun i hi nx => ?_) (0) (Nat.zero_le _)
  refine px_iload_n dX11_counted_118 rfl rfl ?_
  refine px_aload_n dX11_counted_119 rfl rfl ?_
  refine px_getI dX11_counted_120 fX11_179 (xol rfl) hM rfl ?_
  refine px_top (y := nI n) hsh.1 ?_
  refine px_icmp_ge 145 dX11_counted_123 rfl (fun h123 => ?_) (fun h123 => ?_)
  · have hi2 : i = n := by rw [nI_leI (by omega) (by omega)] at h123; omega
    refine px_iload_n dX11_counted_145 rfl rfl ?_
    exact px_iret dX11_counted_146 rfl ⟨by rw [hi2, (L_more hly.1 8 h8).2.2], rfl⟩ (rfl)
  · have hlt : i < n := by rw [nI_leI (by omega) (by omega)] at h123; omega
    have hni : (nI i).toNatClampNeg = i := nI_clamp (by omega)
    have e4 : (4 : Int32) * nI i + 3 = nI (4 * i + 3) := by rw [show (4 : Int32) = nI 4 from rfl, show (3 : Int32) = nI 3 from rfl, pk_mul, nI_add]
    refine px_iload_n dX11_counted_126 rfl rfl ?_
    refine px_aload_n dX11_counted_127 rfl rfl ?_
    refine px_getR dX11_counted_128 fX11_35 (xol rfl) hM rfl (wr_11_23 hW (xol rfl)) (Nat.succ_pos _) ?_
    refine px_iconst dX11_counted_131 ic_4 ?_
    refine px_iload_n dX11_counted_132 rfl rfl ?_
    refine px_imul dX11_counted_133 ?_
    refine px_iconst dX11_counted_134 ic_3 ?_
    refine px_iadd dX11_counted_135 ?_
    refine px_top (y := nI (4 * i + 3)) e4 ?_
    refine px_iald dX11_counted_136 (xal (n := 33) rfl) hM (vp_in_nI (by omega) (by decide)) ?_
    refine px_iadd dX11_counted_137 ?_
    refine px_top (y := nI (tuL S.1 (i + 1))) (by rw [nI_clamp (by omega)]; cases e : S.1 i with
      | none => rw [(hl.1 i (by omega) e).2.2.2, tuL_n e, Int32.add_zero]
      | some q => obtain ⟨p, x, y, t⟩ := q; rw [(hl.2 i p x y t (by omega) e).2.2.2, tuL_s e, nI_add]) ?_
    refine px_si_2 dX11_counted_138 rfl ?_
    refine px_inc_3 dX11_counted_139 rfl ic_1 ?_
    refine px_goto 118 dX11_counted_142 rfl ?_
    exact px_eq (by rw [nI_1]) rfl (nx hlt)

set_option maxRecDepth 100000 in
theorem l_cnt154 {E : xE} {M : xMem} {v : Int32} (hM : xNT ≤ xN M) (hW : xWire M.2.1) (hz : ∀ r, r < 6 → M.1 76 r = -1 ∨ ∃ n, n ≤ 40 ∧ M.1 76 r = nI n) : PR E mX11_counted (xN M) 154 [some (.ref 74), some (.int v), some (.int (nI (rcN (fun r => M.1 76 r) 0))), some (.int (nI 0))] [] (M) (fun r m => r = some (.int (nI (rcN (fun r => M.1 76 r) 6))) ∧ m = M) := by
  refine px_for (P := fun i => PR E mX11_counted (xN M) 154 [some (.ref 74), some (.int v), some (.int (nI (rcN (fun r => M.1 76 r) i))), some (.int (nI i))] [] (M) (fun r m => r = some (.int (nI (rcN (fun r => M.1 76 r) 6))) ∧ m = M)) (6) (fun i hi nx => ?_) (0) (Nat.zero_le _)
  refine px_iload_n dX11_counted_154 rfl rfl ?_
  refine px_bipush dX11_counted_155 bp_6 ?_
  refine px_icmp_ge 183 dX11_counted_157 rfl (fun h157 => ?_) (fun h157 => ?_)
  · have hi2 : i = 6 := by rw [show (6 : Int32) = nI 6 from rfl, nI_leI (by omega) (by omega)] at h157; omega
    refine px_iload_n dX11_counted_183 rfl rfl ?_
    exact px_iret dX11_counted_184 rfl ⟨by rw [hi2], rfl⟩ (rfl)
  · have hlt : i < 6 := by rw [show (6 : Int32) = nI 6 from rfl, nI_leI (by omega) (by omega)] at h157; omega
    have hni : (nI i).toNatClampNeg = i := nI_clamp (by omega)
    refine px_iload_n dX11_counted_160 rfl rfl ?_
    refine px_aload_n dX11_counted_161 rfl rfl ?_
    refine px_getR dX11_counted_162 fX11_13 (xol rfl) hM rfl (wr_11_3 hW (xol rfl)) (Nat.succ_pos _) ?_
    refine px_iload_n dX11_counted_165 rfl rfl ?_
    refine px_iald dX11_counted_166 (xal (n := 6) rfl) hM (vp_in_nI (by omega) (by decide)) ?_
    refine px_top (y := M.1 76 i) (by rw [hni]) ?_
    refine px_if_lt 174 dX11_counted_167 rfl (fun h167 => ?_) (fun h167 => ?_)
    · refine px_iconst dX11_counted_174 ic_0 ?_
      refine px_iadd dX11_counted_175 ?_
      refine px_top (y := nI (rcN (fun r => M.1 76 r) (i + 1))) (by first | (rw [rcN_m (z := (fun r => M.1 76 r)) (r := i) (sz_n (by decide) (hz i (by omega)) h167), Int32.add_zero]; done) | rw [rcN_p (z := (fun r => M.1 76 r)) (r := i) (sz_p h167), nI_1]) ?_
      refine px_si_2 dX11_counted_176 rfl ?_
      refine px_inc_3 dX11_counted_177 rfl ic_1 ?_
      refine px_goto 154 dX11_counted_180 rfl ?_
      exact px_eq (by rw [nI_1]) rfl (nx hlt)
    · refine px_iconst dX11_counted_170 ic_1 ?_
      refine px_goto 175 dX11_counted_171 rfl ?_
      refine px_iadd dX11_counted_175 ?_
      refine px_top (y := nI (rcN (fun r => M.1 76 r) (i + 1))) (by first | (rw [rcN_m (z := (fun r => M.1 76 r)) (r := i) (sz_n (by decide) (hz i (by omega)) h167), Int32.add_zero]; done) | rw [rcN_p (z := (fun r => M.1 76 r)) (r := i) (sz_p h167), nI_1]) ?_
      refine px_si_2 dX11_counted_176 rfl ?_
      refine px_inc_3 dX11_counted_177 rfl ic_1 ?_
      refine px_goto 154 dX11_counted_180 rfl ?_
      exact px_eq (by rw [nI_1]) rfl (nx hlt)

set_option maxRecDepth 100000 in
theorem l_cnt187 {E : xE} {M : xMem} {v : Int32} (hM : xNT ≤ xN M) (hW : xWire M.2.1) (hz : ∀ r, r < 4 → M.1 79 r = -1 ∨ ∃ n, n ≤ 120 ∧ M.1 79 r = nI n) : PR E mX11_counted (xN M) 187 [some (.ref 74), some (.int v), some (.int (nI (rcN (fun r => M.1 79 r) 0))), some (.int (nI 0))] [] (M) (fun r m => r = some (.int (nI (rcN (fun r => M.1 79 r) 4))) ∧ m = M) := by
  refine px_for (P := fun i => PR E mX11_counted (xN M) 187 [some (.ref 74), some (.int v), some (.int (nI (rcN (fun r => M.1 79 r) i))), some (.int (nI i))] [] (M) (fun r m => r = some (.int (nI (rcN (fun r => M.1 79 r) 4))) ∧ m = M)) (4) (fun i hi nx => ?_) (0) (Nat.zero_le _)
  refine px_iload_n dX11_counted_187 rfl rfl ?_
  refine px_iconst dX11_counted_188 ic_4 ?_
  refine px_icmp_ge 215 dX11_counted_189 rfl (fun h189 => ?_) (fun h189 => ?_)
  · have hi2 : i = 4 := by rw [show (4 : Int32) = nI 4 from rfl, nI_leI (by omega) (by omega)] at h189; omega
    refine px_iload_n dX11_counted_215 rfl rfl ?_
    exact px_iret dX11_counted_216 rfl ⟨by rw [hi2], rfl⟩ (rfl)
  · have hlt : i < 4 := by rw [show (4 : Int32) = nI 4 from rfl, nI_leI (by omega) (by omega)] at h189; omega
    have hni : (nI i).toNatClampNeg = i := nI_clamp (by omega)
    refine px_iload_n dX11_counted_192 rfl rfl ?_
    refine px_aload_n dX11_counted_193 rfl rfl ?_
    refine px_getR dX11_counted_194 fX11_22 (xol rfl) hM rfl (wr_11_6 hW (xol rfl)) (Nat.succ_pos _) ?_
    refine px_iload_n dX11_counted_197 rfl rfl ?_
    refine px_iald dX11_counted_198 (xal (n := 4) rfl) hM (vp_in_nI (by omega) (by decide)) ?_
    refine px_top (y := M.1 79 i) (by rw [hni]) ?_
    refine px_if_lt 206 dX11_counted_199 rfl (fun h199 => ?_) (fun h199 => ?_)
    · refine px_iconst dX11_counted_206 ic_0 ?_
      refine px_iadd dX11_counted_207 ?_
      refine px_top (y := nI (rcN (fun r => M.1 79 r) (i + 1))) (by first | (rw [rcN_m (z := (fun r => M.1 79 r)) (r := i) (sz_n (by decide) (hz i (by omega)) h199), Int32.add_zero]; done) | rw [rcN_p (z := (fun r => M.1 79 r)) (r := i) (sz_p h199), nI_1]) ?_
      refine px_si_2 dX11_counted_208 rfl ?_
      refine px_inc_3 dX11_counted_209 rfl ic_1 ?_
      refine px_goto 187 dX11_counted_212 rfl ?_
      exact px_eq (by rw [nI_1]) rfl (nx hlt)
    · refine px_iconst dX11_counted_202 ic_1 ?_
      refine px_goto 207 dX11_counted_203 rfl ?_
      refine px_iadd dX11_counted_207 ?_
      refine px_top (y := nI (rcN (fun r => M.1 79 r) (i + 1))) (by first | (rw [rcN_m (z := (fun r => M.1 79 r)) (r := i) (sz_n (by decide) (hz i (by omega)) h199), Int32.add_zero]; done) | rw [rcN_p (z := (fun r => M.1 79 r)) (r := i) (sz_p h199), nI_1]) ?_
      refine px_si_2 dX11_counted_208 rfl ?_
      refine px_inc_3 dX11_counted_209 rfl ic_1 ?_
      refine px_goto 187 dX11_counted_212 rfl ?_
      exact px_eq (by rw [nI_1]) rfl (nx hlt)

set_option maxRecDepth 100000 in
theorem l_cnt219 {E : xE} {M : xMem} {v : Int32} (hM : xNT ≤ xN M) (hW : xWire M.2.1) {K : Nat → aKep} (hK : kpM M K) : PR E mX11_counted (xN M) 219 [some (.ref 74), some (.int v), some (.int (nI (kcN K 0))), some (.int (nI 0))] [] (M) (fun r m => r = some (.int (nI (kcN K 3))) ∧ m = M) := by
  refine px_for (P := fun i => PR E mX11_counted (xN M) 219 [some (.ref 74), some (.int v), some (.int (nI (kcN K i))), some (.int (nI i))] [] (M) (fun r m => r = some (.int (nI (kcN K 3))) ∧ m = M)) (3) (fun i hi nx => ?_) (0) (Nat.zero_le _)
  refine px_iload_n dX11_counted_219 rfl rfl ?_
  refine px_iconst dX11_counted_220 ic_3 ?_
  refine px_icmp_ge 247 dX11_counted_221 rfl (fun h221 => ?_) (fun h221 => ?_)
  · have hi2 : i = 3 := by rw [show (3 : Int32) = nI 3 from rfl, nI_leI (by omega) (by omega)] at h221; omega
    refine px_iload_n dX11_counted_247 rfl rfl ?_
    exact px_iret dX11_counted_248 rfl ⟨by rw [hi2], rfl⟩ (rfl)
  · have hlt : i < 3 := by rw [show (3 : Int32) = nI 3 from rfl, nI_leI (by omega) (by omega)] at h221; omega
    refine px_iload_n dX11_counted_224 rfl rfl ?_
    refine px_aload_n dX11_counted_225 rfl rfl ?_
    refine px_getR dX11_counted_226 fX11_59 (xol rfl) hM rfl (wr_11_38 hW (xol rfl)) (Nat.succ_pos _) ?_
    refine px_iload_n dX11_counted_229 rfl rfl ?_
    refine px_iald dX11_counted_230 (xal (n := 3) rfl) hM (vp_in_nI (by omega) (by decide)) ?_
    refine px_if_lt 238 dX11_counted_231 rfl (fun h231 => ?_) (fun h231 => ?_)
    · refine px_iconst dX11_counted_238 ic_0 ?_
      refine px_iadd dX11_counted_239 ?_
      refine px_top (y := nI (kcN K (i + 1))) (by first | (rw [kcN_n (mp_n hK (by omega) h231), Int32.add_zero]; done) | rw [kcN_s (mp_s hK (by omega) h231), nI_1]) ?_
      refine px_si_2 dX11_counted_240 rfl ?_
      refine px_inc_3 dX11_counted_241 rfl ic_1 ?_
      refine px_goto 219 dX11_counted_244 rfl ?_
      exact px_eq (by rw [nI_1]) rfl (nx hlt)
    · refine px_iconst dX11_counted_234 ic_1 ?_
      refine px_goto 239 dX11_counted_235 rfl ?_
      refine px_iadd dX11_counted_239 ?_
      refine px_top (y := nI (kcN K (i + 1))) (by first | (rw [kcN_n (mp_n hK (by omega) h231), Int32.add_zero]; done) | rw [kcN_s (mp_s hK (by omega) h231), nI_1]) ?_
      refine px_si_2 dX11_counted_240 rfl ?_
      refine px_inc_3 dX11_counted_241 rfl ic_1 ?_
      refine px_goto 219 dX11_counted_244 rfl ?_
      exact px_eq (by rw [nI_1]) rfl (nx hlt)

set_option maxRecDepth 100000 in
theorem c_X11_counted {E : xE} {M : xMem} {n W H B dd : Nat} {g : Nat → Nat → Nat} {S : gLay × Nat} {P : Nat → gLay × Nat} (hc : rHy M n W H B g dd S P) {K : Nat → aKep} (hK : kpM M K) (hz : mszOK M) {v : Int32} (hv : 0 ≤ v ∧ v ≤ 13) : Ct E mX11_counted [.ref 74, .int v] M (xN M) (fun r m => r = some (.int (aCnt n W H B (aA B g) (aD B g) S dd (rcN (fun r => M.1 76 r) 6) (rcN (fun r => M.1 79 r) 4) (kcN K 3) v)) ∧ mSc2 M m) := by
  have hc0 := hc
  obtain ⟨hM, hW, hsh, hok, hst, hly, hru⟩ := hc
  have h8 : n ≤ 8 := hok.1
  have hb : lyB S.1 := (hsh.s hok).b hly
  have hl : lyM (M.1 83) S.1 := lyM_c hst.2.2.1.1 (fun k _ => by rw [Nat.zero_add])
  have hpg := pgL_le hb 8
  have hd4 : dd ≤ 40 := hst.2.1
  have hsM := hsh.s hok
  refine Ct.of (lo := [some (.ref 74), some (.int v), none, none]) pln_X11 (Nat.le_of_ble_eq_true rfl) rfl (Nat.le_refl _) ?_
  refine px_iconst dX11_counted_0 ic_0 ?_
  refine px_si_2 dX11_counted_1 rfl ?_
  refine px_iload_n dX11_counted_2 rfl rfl ?_
  by_cases s3_0 : v = 0
  · refine px_tableIn (off := 65) 68 dX11_counted_3 (by rw [s3_0]; decide) (by rw [s3_0]; decide) (by rw [s3_0]; rfl) rfl ?_
    refine px_aload_n dX11_counted_68 rfl rfl ?_
    refine px_getI dX11_counted_69 fX11_179 (xol rfl) hM rfl ?_
    refine px_top (y := nI n) hsh.1 ?_
    exact px_iret dX11_counted_72 rfl (by rw [show aCnt n W H B (aA B g) (aD B g) S dd (rcN (fun r => M.1 76 r) 6) (rcN (fun r => M.1 79 r) 4) (kcN K 3) v = nI n from by unfold aCnt; rw [if_pos s3_0]]; exact ⟨rfl, mSc2.rf M⟩) (by first | rfl | exact hn112)
  by_cases s3_1 : v = 1
  · refine px_tableIn (off := 70) 73 dX11_counted_3 (by rw [s3_1]; decide) (by rw [s3_1]; decide) (by rw [s3_1]; rfl) rfl ?_
    refine px_aload_n dX11_counted_73 rfl rfl ?_
    refine px_fV0i dX11_counted_74 kX11_counted_343 (xol rfl) hM (Nat.le_of_ble_eq_true rfl) (c_X11_setMany hM hW h8 hsh.1 hl hb) ?_
    refine px_top (y := nI (stL S.1 8)) (by rw [(L_more hly.1 8 h8).2.1]) ?_
    exact px_iret dX11_counted_77 rfl (by rw [show aCnt n W H B (aA B g) (aD B g) S dd (rcN (fun r => M.1 76 r) 6) (rcN (fun r => M.1 79 r) 4) (kcN K 3) v = nI (stL S.1 8) from by unfold aCnt; rw [if_neg s3_0, if_pos s3_1]]; exact ⟨rfl, mSc2.rf M⟩) (by first | rfl | exact hn112)
  by_cases s3_2 : v = 2
  · refine px_tableIn (off := 75) 78 dX11_counted_3 (by rw [s3_2]; decide) (by rw [s3_2]; decide) (by rw [s3_2]; rfl) rfl ?_
    refine px_aload_n dX11_counted_78 rfl rfl ?_
    refine px_fV0i dX11_counted_79 kX11_counted_270 (xol rfl) hM (Nat.le_of_ble_eq_true rfl) (c_X11_pageMany (N := n) hM hW h8 hsh.1) ?_
    refine px_top (y := nI (pgL S.1 8)) (by rw [pgF_L hl hb n h8, (L_more hly.1 8 h8).1]) ?_
    exact px_iret dX11_counted_82 rfl (by rw [show aCnt n W H B (aA B g) (aD B g) S dd (rcN (fun r => M.1 76 r) 6) (rcN (fun r => M.1 79 r) 4) (kcN K 3) v = nI (pgL S.1 8) from by unfold aCnt; rw [if_neg s3_0, if_neg s3_1, if_pos s3_2]]; exact ⟨rfl, mSc2.rf M⟩) (by first | rfl | exact hn112)
  by_cases s3_3 : v = 3
  · refine px_tableIn (off := 80) 83 dX11_counted_3 (by rw [s3_3]; decide) (by rw [s3_3]; decide) (by rw [s3_3]; rfl) rfl ?_
    refine px_aload_n dX11_counted_83 rfl rfl ?_
    refine px_getI dX11_counted_84 fX11_170 (xol rfl) hM rfl ?_
    refine px_top (y := nI W) hsh.2.1 ?_
    exact px_iret dX11_counted_87 rfl (by rw [show aCnt n W H B (aA B g) (aD B g) S dd (rcN (fun r => M.1 76 r) 6) (rcN (fun r => M.1 79 r) 4) (kcN K 3) v = nI W from by unfold aCnt; rw [if_neg s3_0, if_neg s3_1, if_neg s3_2, if_pos s3_3]]; exact ⟨rfl, mSc2.rf M⟩) (by first | rfl | exact hn112)
  by_cases s3_4 : v = 4
  · refine px_tableIn (off := 85) 88 dX11_counted_3 (by rw [s3_4]; decide) (by rw [s3_4]; decide) (by rw [s3_4]; rfl) rfl ?_
    refine px_aload_n dX11_counted_88 rfl rfl ?_
    refine px_getI dX11_counted_89 fX11_173 (xol rfl) hM rfl ?_
    refine px_top (y := nI H) hsh.2.2.1 ?_
    exact px_iret dX11_counted_92 rfl (by rw [show aCnt n W H B (aA B g) (aD B g) S dd (rcN (fun r => M.1 76 r) 6) (rcN (fun r => M.1 79 r) 4) (kcN K 3) v = nI H from by unfold aCnt; rw [if_neg s3_0, if_neg s3_1, if_neg s3_2, if_neg s3_3, if_pos s3_4]]; exact ⟨rfl, mSc2.rf M⟩) (by first | rfl | exact hn112)
  by_cases s3_5 : v = 5
  · refine px_tableIn (off := 90) 93 dX11_counted_3 (by rw [s3_5]; decide) (by rw [s3_5]; decide) (by rw [s3_5]; rfl) rfl ?_
    refine px_aload_n dX11_counted_93 rfl rfl ?_
    refine px_getI dX11_counted_94 fX11_176 (xol rfl) hM rfl ?_
    refine px_top (y := nI B) hsh.2.2.2.1 ?_
    exact px_iret dX11_counted_97 rfl (by rw [show aCnt n W H B (aA B g) (aD B g) S dd (rcN (fun r => M.1 76 r) 6) (rcN (fun r => M.1 79 r) 4) (kcN K 3) v = nI B from by unfold aCnt; rw [if_neg s3_0, if_neg s3_1, if_neg s3_2, if_neg s3_3, if_neg s3_4, if_pos s3_5]]; exact ⟨rfl, mSc2.rf M⟩) (by first | rfl | exact hn112)
  by_cases s3_6 : v = 6
  · refine px_tableIn (off := 95) 98 dX11_counted_3 (by rw [s3_6]; decide) (by rw [s3_6]; decide) (by rw [s3_6]; rfl) rfl ?_
    refine px_aload_n dX11_counted_98 rfl rfl ?_
    refine px_getR dX11_counted_99 fX11_35 (xol rfl) hM rfl (wr_11_23 hW (xol rfl)) (Nat.succ_pos _) ?_
    refine px_bipush dX11_counted_102 bp_32 ?_
    refine px_iald dX11_counted_104 (xal (n := 33) rfl) hM (vp_in_nI (n := 32) (by decide) (by decide)) ?_
    refine px_top (y := nI S.2) (rRow_0.mp hst.2.2.1).2 ?_
    exact px_iret dX11_counted_105 rfl (by rw [show aCnt n W H B (aA B g) (aD B g) S dd (rcN (fun r => M.1 76 r) 6) (rcN (fun r => M.1 79 r) 4) (kcN K 3) v = nI S.2 from by unfold aCnt; rw [if_neg s3_0, if_neg s3_1, if_neg s3_2, if_neg s3_3, if_neg s3_4, if_neg s3_5, if_pos s3_6]]; exact ⟨rfl, mSc2.rf M⟩) (by first | rfl | exact hn112)
  by_cases s3_7 : v = 7
  · refine px_tableIn (off := 103) 106 dX11_counted_3 (by rw [s3_7]; decide) (by rw [s3_7]; decide) (by rw [s3_7]; rfl) rfl ?_
    refine px_aload_n dX11_counted_106 rfl rfl ?_
    refine px_fV0i dX11_counted_107 kX11_counted_346 (xol rfl) hM (Nat.le_of_ble_eq_true rfl) (c_X11_allTaken hc0) ?_
    exact px_iret dX11_counted_110 rfl (by rw [show aCnt n W H B (aA B g) (aD B g) S dd (rcN (fun r => M.1 76 r) 6) (rcN (fun r => M.1 79 r) 4) (kcN K 3) v = nI (tkA (aA B g) (aD B g) S.1 n (pgL S.1 8)) from by unfold aCnt; rw [if_neg s3_0, if_neg s3_1, if_neg s3_2, if_neg s3_3, if_neg s3_4, if_neg s3_5, if_neg s3_6, if_pos s3_7]]; exact ⟨rfl, mSc2.rf M⟩) (by first | rfl | exact hn112)
  by_cases s3_8 : v = 8
  · refine px_tableIn (off := 108) 111 dX11_counted_3 (by rw [s3_8]; decide) (by rw [s3_8]; decide) (by rw [s3_8]; rfl) rfl ?_
    refine px_aload_n dX11_counted_111 rfl rfl ?_
    refine px_gV0 dX11_counted_112 kX11_counted_349 (xol rfl) hM (Nat.le_of_ble_eq_true rfl) (c_X11_allFree hc0) (fun r112 M112 hq112 hn112 => ?_)
    obtain ⟨rfl, q1⟩ := hq112
    exact px_iret dX11_counted_115 rfl (by rw [show aCnt n W H B (aA B g) (aD B g) S dd (rcN (fun r => M.1 76 r) 6) (rcN (fun r => M.1 79 r) 4) (kcN K 3) v = nI (frA W H (aA B g) (aD B g) S.1 (pgL S.1 8)) from by unfold aCnt; rw [if_neg s3_0, if_neg s3_1, if_neg s3_2, if_neg s3_3, if_neg s3_4, if_neg s3_5, if_neg s3_6, if_neg s3_7, if_pos s3_8]]; exact ⟨rfl, q1⟩) (by first | rfl | exact hn112)
  by_cases s3_9 : v = 9
  · refine px_tableIn (off := 113) 116 dX11_counted_3 (by rw [s3_9]; decide) (by rw [s3_9]; decide) (by rw [s3_9]; rfl) rfl ?_
    refine px_iconst dX11_counted_116 ic_0 ?_
    refine px_si_3 dX11_counted_117 rfl ?_
    rw [show aCnt n W H B (aA B g) (aD B g) S dd (rcN (fun r => M.1 76 r) 6) (rcN (fun r => M.1 79 r) 4) (kcN K 3) v = nI (tuL S.1 8) from by unfold aCnt; rw [if_neg s3_0, if_neg s3_1, if_neg s3_2, if_neg s3_3, if_neg s3_4, if_neg s3_5, if_neg s3_6, if_neg s3_7, if_neg s3_8, if_pos s3_9]]
    refine px_q ?_ (l_cnt118 hc0)
    rintro r m ⟨h1, h2⟩
    exact ⟨h1, by rw [h2]; exact mSc2.rf M⟩
  by_cases s3_10 : v = 10
  · refine px_tableIn (off := 144) 147 dX11_counted_3 (by rw [s3_10]; decide) (by rw [s3_10]; decide) (by rw [s3_10]; rfl) rfl ?_
    refine px_aload_n dX11_counted_147 rfl rfl ?_
    refine px_getI dX11_counted_148 fX11_185 (xol rfl) hM rfl ?_
    refine px_top (y := nI dd) hst.1 ?_
    exact px_iret dX11_counted_151 rfl (by rw [show aCnt n W H B (aA B g) (aD B g) S dd (rcN (fun r => M.1 76 r) 6) (rcN (fun r => M.1 79 r) 4) (kcN K 3) v = nI dd from by unfold aCnt; rw [if_neg s3_0, if_neg s3_1, if_neg s3_2, if_neg s3_3, if_neg s3_4, if_neg s3_5, if_neg s3_6, if_neg s3_7, if_neg s3_8, if_neg s3_9, if_pos s3_10]]; exact ⟨rfl, mSc2.rf M⟩) (by first | rfl | exact hn112)
  by_cases s3_11 : v = 11
  · refine px_tableIn (off := 149) 152 dX11_counted_3 (by rw [s3_11]; decide) (by rw [s3_11]; decide) (by rw [s3_11]; rfl) rfl ?_
    refine px_iconst dX11_counted_152 ic_0 ?_
    refine px_si_3 dX11_counted_153 rfl ?_
    rw [show aCnt n W H B (aA B g) (aD B g) S dd (rcN (fun r => M.1 76 r) 6) (rcN (fun r => M.1 79 r) 4) (kcN K 3) v = nI (rcN (fun r => M.1 76 r) 6) from by unfold aCnt; rw [if_neg s3_0, if_neg s3_1, if_neg s3_2, if_neg s3_3, if_neg s3_4, if_neg s3_5, if_neg s3_6, if_neg s3_7, if_neg s3_8, if_neg s3_9, if_neg s3_10, if_pos s3_11]]
    refine px_q ?_ (l_cnt154 hM hW hz.1)
    rintro r m ⟨h1, h2⟩
    exact ⟨h1, by rw [h2]; exact mSc2.rf M⟩
  by_cases s3_12 : v = 12
  · refine px_tableIn (off := 182) 185 dX11_counted_3 (by rw [s3_12]; decide) (by rw [s3_12]; decide) (by rw [s3_12]; rfl) rfl ?_
    refine px_iconst dX11_counted_185 ic_0 ?_
    refine px_si_3 dX11_counted_186 rfl ?_
    rw [show aCnt n W H B (aA B g) (aD B g) S dd (rcN (fun r => M.1 76 r) 6) (rcN (fun r => M.1 79 r) 4) (kcN K 3) v = nI (rcN (fun r => M.1 79 r) 4) from by unfold aCnt; rw [if_neg s3_0, if_neg s3_1, if_neg s3_2, if_neg s3_3, if_neg s3_4, if_neg s3_5, if_neg s3_6, if_neg s3_7, if_neg s3_8, if_neg s3_9, if_neg s3_10, if_neg s3_11, if_pos s3_12]]
    refine px_q ?_ (l_cnt187 hM hW hz.2)
    rintro r m ⟨h1, h2⟩
    exact ⟨h1, by rw [h2]; exact mSc2.rf M⟩
  refine px_tableOut 217 dX11_counted_3 (by simp only [← Int32.toInt_inj, Int32.reduceToInt] at *; omega) rfl ?_
  have e13 : v = 13 := by (simp only [Int32.le_iff_toInt_le, Int32.lt_iff_toInt_lt, ← Int32.toInt_inj, Int32.reduceToInt] at *; omega)
  refine px_iconst dX11_counted_217 ic_0 ?_
  refine px_si_3 dX11_counted_218 rfl ?_
  rw [show aCnt n W H B (aA B g) (aD B g) S dd (rcN (fun r => M.1 76 r) 6) (rcN (fun r => M.1 79 r) 4) (kcN K 3) v = nI (kcN K 3) from by unfold aCnt; rw [if_neg s3_0, if_neg s3_1, if_neg s3_2, if_neg s3_3, if_neg s3_4, if_neg s3_5, if_neg s3_6, if_neg s3_7, if_neg s3_8, if_neg s3_9, if_neg s3_10, if_neg s3_11, if_neg s3_12, if_pos e13]]
  refine px_q ?_ (l_cnt219 hM hW hK)
  rintro r m ⟨h1, h2⟩
  exact ⟨h1, by rw [h2]; exact mSc2.rf M⟩

set_option maxRecDepth 100000 in
theorem c_X11_count {E : xE} {M : xMem} {n W H B dd : Nat} {g : Nat → Nat → Nat} {S : gLay × Nat} {P : Nat → gLay × Nat} (hc : rHy M n W H B g dd S P) {K : Nat → aKep} (hK : kpM M K) (hz : mszOK M) {v : Int32} : Ct E mX11_count [.ref 74, .int v] M (xN M) (fun r m => r = some (.int (aCnt n W H B (aA B g) (aD B g) S dd (rcN (fun r => M.1 76 r) 6) (rcN (fun r => M.1 79 r) 4) (kcN K 3) v)) ∧ rS M m) := by
  refine Ct.of (lo := [some (.ref 74), some (.int v)]) pln_X11 (Nat.le_of_ble_eq_true rfl) rfl (Nat.le_refl _) ?_
  refine px_iload_n dX11_count_0 rfl rfl ?_
  refine px_iconst dX11_count_1 ic_0 ?_
  refine px_bipush dX11_count_2 bp_13 ?_
  refine px_fS3i dX11_count_4 kX11_count_75 (Nat.le_of_ble_eq_true rfl) (c_X11_in) ?_
  refine px_zif_eq 18 dX11_count_7 rfl (fun h7 => ?_) (fun h7 => ?_)
  · refine px_iconst dX11_count_18 ic_m1 ?_
    exact px_iret dX11_count_19 rfl (by first
          | exact ⟨rfl, q1.r⟩
          | exact ⟨by rw [show aCnt n W H B (aA B g) (aD B g) S dd (rcN (fun r => M.1 76 r) 6) (rcN (fun r => M.1 79 r) 4) (kcN K 3) v = -1 from by unfold aCnt; rw [if_neg (fun z => h7 (by rw [z]; decide)), if_neg (fun z => h7 (by rw [z]; decide)), if_neg (fun z => h7 (by rw [z]; decide)), if_neg (fun z => h7 (by rw [z]; decide)), if_neg (fun z => h7 (by rw [z]; decide)), if_neg (fun z => h7 (by rw [z]; decide)), if_neg (fun z => h7 (by rw [z]; decide)), if_neg (fun z => h7 (by rw [z]; decide)), if_neg (fun z => h7 (by rw [z]; decide)), if_neg (fun z => h7 (by rw [z]; decide)), if_neg (fun z => h7 (by rw [z]; decide)), if_neg (fun z => h7 (by rw [z]; decide)), if_neg (fun z => h7 (by rw [z]; decide)), if_neg (fun z => h7 (by rw [z]; decide))]], rS.rf M⟩) (by first | rfl | exact hn12)
  · refine px_aload_n dX11_count_10 rfl rfl ?_
    refine px_iload_n dX11_count_11 rfl rfl ?_
    refine px_gV1 dX11_count_12 kX11_count_352 (xol rfl) hc.1 (Nat.le_of_ble_eq_true rfl) (c_X11_counted hc hK hz h7) (fun r12 M12 hq12 hn12 => ?_)
    obtain ⟨rfl, q1⟩ := hq12
    refine px_goto 19 dX11_count_15 rfl ?_
    exact px_iret dX11_count_19 rfl (by first
          | exact ⟨rfl, q1.r⟩
          | exact ⟨by rw [show aCnt n W H B (aA B g) (aD B g) S dd (rcN (fun r => M.1 76 r) 6) (rcN (fun r => M.1 79 r) 4) (kcN K 3) v = -1 from by unfold aCnt; rw [if_neg (fun z => h7 (by rw [z]; decide)), if_neg (fun z => h7 (by rw [z]; decide)), if_neg (fun z => h7 (by rw [z]; decide)), if_neg (fun z => h7 (by rw [z]; decide)), if_neg (fun z => h7 (by rw [z]; decide)), if_neg (fun z => h7 (by rw [z]; decide)), if_neg (fun z => h7 (by rw [z]; decide)), if_neg (fun z => h7 (by rw [z]; decide)), if_neg (fun z => h7 (by rw [z]; decide)), if_neg (fun z => h7 (by rw [z]; decide)), if_neg (fun z => h7 (by rw [z]; decide)), if_neg (fun z => h7 (by rw [z]; decide)), if_neg (fun z => h7 (by rw [z]; decide)), if_neg (fun z => h7 (by rw [z]; decide))]], rS.rf M⟩) (by first | rfl | exact hn12)
