/-! ===== digest ===== -/
def dgF (c : Nat → Int32) (h : Int64) : Nat → Int64
  | 0 => h
  | k + 1 => 31 * dgF c h k + (c k).toInt64
theorem dgF_c {c c' : Nat → Int32} {h : Int64} : ∀ n, (∀ i, i < n → c i = c' i) → dgF c h n = dgF c' h n
  | 0, _ => rfl
  | n + 1, e => by rw [dgF, dgF, dgF_c n (fun i hi => e i (by omega)), e n (by omega)]
def dgN (z : Nat → Int32) (c : Nat → Nat → Int32) (h : Int64) : Nat → Int64
  | 0 => h
  | r + 1 => dgF (c r) (31 * dgN z c h r + (z r).toInt64) (z r).toNatClampNeg
theorem dgN_c {z z' : Nat → Int32} {c c' : Nat → Nat → Int32} {h : Int64} : ∀ n, (∀ r, r < n → z r = z' r ∧ ∀ i, i < (z' r).toNatClampNeg → c r i = c' r i) → dgN z c h n = dgN z' c' h n
  | 0, _ => rfl
  | n + 1, e => by rw [dgN, dgN, dgN_c n (fun i hi => e i (by omega)), (e n (by omega)).1, dgF_c _ (e n (by omega)).2]
def dgW (B : Nat) (g : Nat → Nat → Nat) (f : Nat) (h : Int64) : Option (Nat × Nat × Nat × Nat) → Int64
  | none => 31 * dgF (fun w => pF B g f (nI w)) h 5 - 1
  | some q => dgF (fun w => pL q (nI w)) (dgF (fun w => pF B g f (nI w)) h 5) 4
def dgG (B : Nat) (g : Nat → Nat → Nat) (lay : gLay) (h : Int64) : Nat → Int64
  | 0 => h
  | f + 1 => dgW B g f (dgG B g lay h f) (lay f)
def kV : aKep → Int32
  | none => -1
  | some q => nI q.1
theorem sz_ge {x : Int32} {N i : Nat} (hN : N < 2 ^ 30) (hi : i < 2 ^ 30) (h : x = -1 ∨ ∃ n, n ≤ N ∧ x = nI n) : x ≤ nI i ↔ x.toNatClampNeg ≤ i := by
  rcases h with h | ⟨n, hn, h⟩
  · rw [h]
    refine ⟨fun _ => Nat.zero_le _, fun _ => ?_⟩
    rw [Int32.le_iff_toInt_le, nI_toInt (by omega)]
    simp only [Int32.reduceToInt]; omega
  · rw [h, nI_leI (by omega) (by omega), nI_clamp (by omega)]
theorem sz_le {x : Int32} {N : Nat} (hN : N < 2 ^ 30) (h : x = -1 ∨ ∃ n, n ≤ N ∧ x = nI n) : x.toNatClampNeg ≤ N := by
  rcases h with h | ⟨n, hn, h⟩
  · rw [h]; exact Nat.zero_le _
  · rw [h, nI_clamp (by omega)]; exact hn
theorem kp_V {M : xMem} {K : Nat → aKep} (hK : kpC M K) {k : Nat} (hk : k < 3) : (if M.1 5 k = 0 then -1 else M.1 (62 + 4 * k) 2) = kV (K k) := by
  cases e : K k with
  | none => rw [if_pos ((hK k hk).1 e)]; rfl
  | some q =>
    have h := (hK k hk).2 q e
    rw [if_neg (by rw [h.1]; decide)]
    exact h.2.1
theorem cShy {M m : xMem} {s n W H B dd : Nat} {g : Nat → Nat → Nat} {S : gLay × Nat} {P : Nat → gLay × Nat} (h : cS M m) (hc : cHy M s n W H B g dd S P) : cHy m s n W H B g dd S P := by
  obtain ⟨hM, hW, hs, hcu, hsh, hok, hst, hly, hru⟩ := hc
  exact ⟨by rw [h.m]; exact hM, by rw [h.w]; exact hW, hs, by rw [h.w]; exact hcu, h.sh hs hsh hok.1, hok, stC_k hst (fun b b1 b2 => h.2 b (by omega)), hly, hru⟩
theorem cSkp {M m : xMem} {K : Nat → aKep} (h : cS M m) (hK : kpC M K) : kpC m K := fun k hk => ⟨fun z => by rw [h.2 5 (by omega)]; exact (hK k hk).1 z, fun q hq => ⟨by rw [h.2 5 (by omega)]; exact ((hK k hk).2 q hq).1, stC_k ((hK k hk).2 q hq).2 (fun b b1 b2 => h.2 b (by omega))⟩⟩

set_option maxRecDepth 100000 in
theorem l_wf68 {E : xE} {M : xMem} {s n W H B dd : Nat} {g : Nat → Nat → Nat} {S : gLay × Nat} {P : Nat → gLay × Nat} (hc : cHy M s n W H B g dd S P) {f : Nat} (hf : f < n) {h : Int64} {p x y t : Nat} (e : S.1 f = some (p, x, y, t)) : PR E mX10_withFrame (xN M) 68 [some (.ref 1), some (.long h), none, some (.int (nI f)), some (.long (dgF (fun w => pL (p, x, y, t) (nI w)) (dgF (fun w => pF B g f (nI w)) h 5) 0)), none, some (.int (nI 0))] [] (M) (fun r m => r = some (.long (dgW B g f h (S.1 f))) ∧ m = M) := by
  have hc0 := hc
  obtain ⟨hM, hW, hs, hcu, hsh, hok, hst, hly, hru⟩ := hc
  have hp0 : 0 < s := hs.1
  have h8 : n ≤ 8 := hok.1
  have hb : lyB S.1 := (hsh.s hok).b hly
  have hl : lyC (M.1 8) S.1 := hst.2.2.1
  have hpg := pgL_le hb 8
  have h7 := xob_7 hs
  have hnf : (nI f).toNatClampNeg = f := nI_clamp (by omega)
  have hfi : vp_in (nI f) 8 := vp_in_nI (by omega) (by decide)
  refine px_for (P := fun i => PR E mX10_withFrame (xN M) 68 [some (.ref 1), some (.long h), none, some (.int (nI f)), some (.long (dgF (fun w => pL (p, x, y, t) (nI w)) (dgF (fun w => pF B g f (nI w)) h 5) i)), none, some (.int (nI i))] [] (M) (fun r m => r = some (.long (dgW B g f h (S.1 f))) ∧ m = M)) (4) (fun i hi nx => ?_) (0) (Nat.zero_le _)
  refine px_iload dX10_withFrame_68 rfl ?_
  refine px_iconst dX10_withFrame_70 ic_4 ?_
  refine px_icmp_ge 103 dX10_withFrame_71 rfl (fun h71 => ?_) (fun h71 => ?_)
  · have hi2 : i = 4 := by rw [show (4 : Int32) = nI 4 from rfl, nI_leI (by omega) (by omega)] at h71; omega
    refine px_lload dX10_withFrame_103 rfl ?_
    exact px_lret dX10_withFrame_105 rfl ⟨by rw [hi2, e]; rfl, rfl⟩ (rfl)
  · have hlt : i < 4 := by rw [show (4 : Int32) = nI 4 from rfl, nI_leI (by omega) (by omega)] at h71; omega
    refine px_ldc2 dX10_withFrame_74 xw1014 ?_
    refine px_lload dX10_withFrame_77 rfl ?_
    refine px_lmul dX10_withFrame_79 ?_
    refine px_aload_n dX10_withFrame_80 rfl rfl ?_
    refine px_getR dX10_withFrame_81 fX10_32 (xol rfl) hM rfl (wr_10_4 hW (xol rfl)) (Nat.succ_pos _) ?_
    refine px_getR dX10_withFrame_84 fX10_163 (xol rfl) hM rfl (wr_8_0 hW (xol rfl)) (Nat.succ_pos _) ?_
    refine px_iload_n dX10_withFrame_87 rfl rfl ?_
    refine px_iload dX10_withFrame_88 rfl ?_
    refine px_fV2i dX10_withFrame_90 kX10_withFrame_170 (xol rfl) hM (Nat.le_of_ble_eq_true rfl) (c_X1_part (a := 7) (xol rfl) hM hW hfi) ?_
    refine px_top (y := pL (p, x, y, t) (nI i)) (by rw [hnf]; exact lyC_p hl hb e (nI i)) ?_
    refine px_i2l dX10_withFrame_93 ?_
    refine px_ladd dX10_withFrame_94 ?_
    refine px_sl_4 dX10_withFrame_95 rfl ?_
    refine px_inc_6 dX10_withFrame_97 rfl ic_1 ?_
    refine px_goto 68 dX10_withFrame_100 rfl ?_
    exact px_eq (by rw [nI_1]; rfl) rfl (nx hlt)

set_option maxRecDepth 100000 in
theorem l_wf6 {E : xE} {M : xMem} {s n W H B dd : Nat} {g : Nat → Nat → Nat} {S : gLay × Nat} {P : Nat → gLay × Nat} (hc : cHy M s n W H B g dd S P) {f : Nat} (hf : f < n) {h : Int64} : PR E mX10_withFrame (xN M) 6 [some (.ref 1), some (.long h), none, some (.int (nI f)), some (.long (dgF (fun w => pF B g f (nI w)) h 0)), none, some (.int (nI 0))] [] (M) (fun r m => r = some (.long (dgW B g f h (S.1 f))) ∧ m = M) := by
  have hc0 := hc
  obtain ⟨hM, hW, hs, hcu, hsh, hok, hst, hly, hru⟩ := hc
  have hp0 : 0 < s := hs.1
  have h8 : n ≤ 8 := hok.1
  have hb : lyB S.1 := (hsh.s hok).b hly
  have hl : lyC (M.1 8) S.1 := hst.2.2.1
  have hpg := pgL_le hb 8
  have h7 := xob_7 hs
  have hnf : (nI f).toNatClampNeg = f := nI_clamp (by omega)
  have hfi : vp_in (nI f) 8 := vp_in_nI (by omega) (by decide)
  refine px_for (P := fun i => PR E mX10_withFrame (xN M) 6 [some (.ref 1), some (.long h), none, some (.int (nI f)), some (.long (dgF (fun w => pF B g f (nI w)) h i)), none, some (.int (nI i))] [] (M) (fun r m => r = some (.long (dgW B g f h (S.1 f))) ∧ m = M)) (5) (fun i hi nx => ?_) (0) (Nat.zero_le _)
  refine px_iload dX10_withFrame_6 rfl ?_
  refine px_iconst dX10_withFrame_8 ic_5 ?_
  refine px_icmp_ge 42 dX10_withFrame_9 rfl (fun h9 => ?_) (fun h9 => ?_)
  · have hi2 : i = 5 := by rw [show (5 : Int32) = nI 5 from rfl, nI_leI (by omega) (by omega)] at h9; omega
    subst hi2
    refine px_aload_n dX10_withFrame_42 rfl rfl ?_
    refine px_getR dX10_withFrame_43 fX10_32 (xol rfl) hM rfl (wr_10_4 hW (xol rfl)) (Nat.succ_pos _) ?_
    refine px_getR dX10_withFrame_46 fX10_163 (xol rfl) hM rfl (wr_8_0 hW (xol rfl)) (Nat.succ_pos _) ?_
    refine px_iload_n dX10_withFrame_49 rfl rfl ?_
    refine px_fV1i dX10_withFrame_50 kX10_withFrame_166 (xol rfl) hM (Nat.le_of_ble_eq_true rfl) (c_X1_isSet (a := 7) (xol rfl) hM hW hfi) ?_
    refine px_top (y := zb (¬ S.1 f = none)) (lyC_is hl hb (by omega)) ?_
    refine px_zif_ne 65 dX10_withFrame_53 rfl (fun h53 => ?_) (fun h53 => ?_)
    · obtain ⟨p, x, y, t, e⟩ := lay_some h53
      refine px_iconst dX10_withFrame_65 ic_0 ?_
      refine px_si_6 dX10_withFrame_66 rfl ?_
      exact l_wf68 hc0 hf e
    · have e : S.1 f = none := Classical.byContradiction h53
      refine px_ldc2 dX10_withFrame_56 xw1014 ?_
      refine px_lload dX10_withFrame_59 rfl ?_
      refine px_lmul dX10_withFrame_61 ?_
      refine px_lconst (v := 1) dX10_withFrame_62 (by decide) ?_
      refine px_lsub dX10_withFrame_63 ?_
      exact px_lret dX10_withFrame_64 rfl ⟨by rw [e]; rfl, rfl⟩ (rfl)
  · have hlt : i < 5 := by rw [show (5 : Int32) = nI 5 from rfl, nI_leI (by omega) (by omega)] at h9; omega
    refine px_ldc2 dX10_withFrame_12 xw1014 ?_
    refine px_lload dX10_withFrame_15 rfl ?_
    refine px_lmul dX10_withFrame_17 ?_
    refine px_aload_n dX10_withFrame_18 rfl rfl ?_
    refine px_getR dX10_withFrame_19 fX10_71 (xol rfl) hM rfl (by assumption) (by assumption) ?_
    refine px_getR dX10_withFrame_22 fX10_154 hs hM rfl (wr_7_0 hW hs) (Nat.succ_pos _) ?_
    refine px_iload_n dX10_withFrame_25 rfl rfl ?_
    refine px_aald (t0 := 6) dX10_withFrame_26 (ar_7 hs) (by decide) (fun _ => rfl) hM hfi (show M.2.1 (s + 1) (nI f).toNatClampNeg = s + 1 + 1 + f by rw [hnf]; exact wa_26 hW (ar_7 hs) (by omega)) (by omega) ?_
    refine px_iload dX10_withFrame_27 rfl ?_
    refine px_fV1i dX10_withFrame_29 kX10_withFrame_158 (ob_frame hs (by omega)) hM (Nat.le_of_ble_eq_true rfl) (c_X0_part (ob_frame hs (by omega)) hM) ?_
    refine px_top (y := pF B g f (nI i)) (cSh_p hsh hf (nI i)) ?_
    refine px_i2l dX10_withFrame_32 ?_
    refine px_ladd dX10_withFrame_33 ?_
    refine px_sl_4 dX10_withFrame_34 rfl ?_
    refine px_inc_6 dX10_withFrame_36 rfl ic_1 ?_
    refine px_goto 6 dX10_withFrame_39 rfl ?_
    exact px_eq (by rw [nI_1]; rfl) rfl (nx hlt)

set_option maxRecDepth 100000 in
theorem c_X10_withFrame {E : xE} {M : xMem} {s n W H B dd : Nat} {g : Nat → Nat → Nat} {S : gLay × Nat} {P : Nat → gLay × Nat} (hc : cHy M s n W H B g dd S P) {f : Nat} (hf : f < n) {h : Int64} : Cf E mX10_withFrame [.ref 1, .long h, .int (nI f)] M (some (.long (dgW B g f h (S.1 f)))) M := by
  refine Ct.of (lo := [some (.ref 1), some (.long h), none, some (.int (nI f)), none, none, none]) pln_X10 (Nat.le_of_ble_eq_true rfl) rfl (Nat.le_refl _) ?_
  refine px_lload_n dX10_withFrame_0 rfl rfl ?_
  refine px_sl_4 dX10_withFrame_1 rfl ?_
  refine px_iconst dX10_withFrame_3 ic_0 ?_
  refine px_si_6 dX10_withFrame_4 rfl ?_
  exact l_wf6 hc hf

set_option maxRecDepth 100000 in
theorem l_dg201 {E : xE} {M : xMem} (hM : xNT ≤ xN M) (hW : xWire M.2.1) (hz : ∀ r, r < 4 → M.1 (54 + 2 * r) 1 = -1 ∨ ∃ n, n ≤ 120 ∧ M.1 (54 + 2 * r) 1 = nI n) {QQ : Option Value → xMem → Prop} {r : Nat} (hr : r < 4) {hh : Int64} (kk : ∀ l4, PR E mX10_digest (xN M) 176 [some (.ref 1), some (.long (dgF ((fun r i => M.1 (54 + 2 * r + 1) i) r) hh (M.1 (54 + 2 * r) 1).toNatClampNeg)), none, some (.int (nI (r + 1))), l4] [] M (QQ)) : PR E mX10_digest (xN M) 201 [some (.ref 1), some (.long (dgF ((fun r i => M.1 (54 + 2 * r + 1) i) r) hh 0)), none, some (.int (nI r)), some (.int (nI 0))] [] (M) (QQ) := by
  have hzr := sz_le (by decide) (hz r hr)
  refine px_for (P := fun i => PR E mX10_digest (xN M) 201 [some (.ref 1), some (.long (dgF ((fun r i => M.1 (54 + 2 * r + 1) i) r) hh i)), none, some (.int (nI r)), some (.int (nI i))] [] (M) (QQ)) ((M.1 (54 + 2 * r) 1).toNatClampNeg) (fun i hi nx => ?_) (0) (Nat.zero_le _)
  refine px_iload dX10_digest_201 rfl ?_
  refine px_aload_n dX10_digest_203 rfl rfl ?_
  refine px_getR dX10_digest_204 fX10_17 (xol rfl) hM rfl (wr_10_1 hW (xol rfl)) (Nat.succ_pos _) ?_
  refine px_iload_n dX10_digest_207 rfl rfl ?_
  refine px_aald (t0 := 4) dX10_digest_208 (xal (n := 4) rfl) (by decide) (fun _ => rfl) hM (vp_in_nI (by omega) (by decide)) (show M.2.1 3 (nI r).toNatClampNeg = 54 + 2 * r by rw [nI_clamp (by omega)]; exact wa_3 hW (by omega)) (by omega) ?_
  refine px_getI dX10_digest_209 fX10_124 (ob_text (by omega)) hM rfl ?_
  refine px_icmp_ge 241 dX10_digest_212 rfl (fun h212 => ?_) (fun h212 => ?_)
  · have hi2 : i = (M.1 (54 + 2 * r) 1).toNatClampNeg := by rw [sz_ge (by decide) (by omega) (hz r hr)] at h212; omega
    refine px_inc_3 dX10_digest_241 rfl ic_1 ?_
    refine px_goto 176 dX10_digest_244 rfl ?_
    rw [hi2]
    exact px_eq (by rw [nI_1]) rfl (kk _)
  · have hlt : i < (M.1 (54 + 2 * r) 1).toNatClampNeg := by rw [sz_ge (by decide) (by omega) (hz r hr)] at h212; omega
    refine px_ldc2 dX10_digest_215 xw1014 ?_
    refine px_lload_n dX10_digest_218 rfl rfl ?_
    refine px_lmul dX10_digest_219 ?_
    refine px_aload_n dX10_digest_220 rfl rfl ?_
    refine px_getR dX10_digest_221 fX10_17 (xol rfl) hM rfl (wr_10_1 hW (xol rfl)) (Nat.succ_pos _) ?_
    refine px_iload_n dX10_digest_224 rfl rfl ?_
    refine px_aald (t0 := 4) dX10_digest_225 (xal (n := 4) rfl) (by decide) (fun _ => rfl) hM (vp_in_nI (by omega) (by decide)) (show M.2.1 3 (nI r).toNatClampNeg = 54 + 2 * r by rw [nI_clamp (by omega)]; exact wa_3 hW (by omega)) (by omega) ?_
    refine px_getR dX10_digest_226 fX10_125 (ob_text (by omega)) hM rfl (wr_9_0 hW (ob_text (by omega))) (Nat.succ_pos _) ?_
    refine px_iload dX10_digest_229 rfl ?_
    refine px_bald dX10_digest_231 (ar_9 (ob_text (by omega))) hM (vp_in_nI (by omega) (by decide)) ?_
    refine px_top (y := M.1 (54 + 2 * r + 1) i) (by rw [nI_clamp (by omega)]) ?_
    refine px_i2l dX10_digest_232 ?_
    refine px_ladd dX10_digest_233 ?_
    refine px_sl_1 dX10_digest_234 rfl ?_
    refine px_inc_4 dX10_digest_235 rfl ic_1 ?_
    refine px_goto 201 dX10_digest_238 rfl ?_
    exact px_eq (by rw [nI_1]; rfl) rfl (nx hlt)

set_option maxRecDepth 100000 in
theorem l_dg176 {E : xE} {M : xMem} (hM : xNT ≤ xN M) (hW : xWire M.2.1) (hz : ∀ r, r < 4 → M.1 (54 + 2 * r) 1 = -1 ∨ ∃ n, n ≤ 120 ∧ M.1 (54 + 2 * r) 1 = nI n) {h0 : Int64} : ∀ l4, PR E mX10_digest (xN M) 176 [some (.ref 1), some (.long (dgN (fun r => M.1 (54 + 2 * r) 1) (fun r i => M.1 (54 + 2 * r + 1) i) h0 0)), none, some (.int (nI 0)), l4] [] (M) (fun r m => r = some (.long (dgN (fun r => M.1 (54 + 2 * r) 1) (fun r i => M.1 (54 + 2 * r + 1) i) h0 4)) ∧ m = M) := by
  refine px_for (P := fun i => ∀ l4, PR E mX10_digest (xN M) 176 [some (.ref 1), some (.long (dgN (fun r => M.1 (54 + 2 * r) 1) (fun r i => M.1 (54 + 2 * r + 1) i) h0 i)), none, some (.int (nI i)), l4] [] (M) (fun r m => r = some (.long (dgN (fun r => M.1 (54 + 2 * r) 1) (fun r i => M.1 (54 + 2 * r + 1) i) h0 4)) ∧ m = M)) (4) (fun i hi nx => ?_) (0) (Nat.zero_le _)
  intro l4
  refine px_iload_n dX10_digest_176 rfl rfl ?_
  refine px_iconst dX10_digest_177 ic_4 ?_
  refine px_icmp_ge 247 dX10_digest_178 rfl (fun h178 => ?_) (fun h178 => ?_)
  · have hi2 : i = 4 := by rw [show (4 : Int32) = nI 4 from rfl, nI_leI (by omega) (by omega)] at h178; omega
    subst hi2
    refine px_lload_n dX10_digest_247 rfl rfl ?_
    exact px_lret dX10_digest_248 rfl ⟨rfl, rfl⟩ (rfl)
  · have hlt : i < 4 := by rw [show (4 : Int32) = nI 4 from rfl, nI_leI (by omega) (by omega)] at h178; omega
    refine px_ldc2 dX10_digest_181 xw1014 ?_
    refine px_lload_n dX10_digest_184 rfl rfl ?_
    refine px_lmul dX10_digest_185 ?_
    refine px_aload_n dX10_digest_186 rfl rfl ?_
    refine px_getR dX10_digest_187 fX10_17 (xol rfl) hM rfl (wr_10_1 hW (xol rfl)) (Nat.succ_pos _) ?_
    refine px_iload_n dX10_digest_190 rfl rfl ?_
    refine px_aald (t0 := 4) dX10_digest_191 (xal (n := 4) rfl) (by decide) (fun _ => rfl) hM (vp_in_nI (by omega) (by decide)) (show M.2.1 3 (nI i).toNatClampNeg = 54 + 2 * i by rw [nI_clamp (by omega)]; exact wa_3 hW (by omega)) (by omega) ?_
    refine px_getI dX10_digest_192 fX10_124 (ob_text (by omega)) hM rfl ?_
    refine px_i2l dX10_digest_195 ?_
    refine px_ladd dX10_digest_196 ?_
    refine px_sl_1 dX10_digest_197 rfl ?_
    refine px_iconst dX10_digest_198 ic_0 ?_
    refine px_si_4 dX10_digest_199 rfl ?_
    exact l_dg201 hM hW hz hlt (nx hlt)

set_option maxRecDepth 100000 in
theorem l_dg128 {E : xE} {M : xMem} (hM : xNT ≤ xN M) (hW : xWire M.2.1) (hz : ∀ r, r < 6 → M.1 (42 + 2 * r) 1 = -1 ∨ ∃ n, n ≤ 40 ∧ M.1 (42 + 2 * r) 1 = nI n) {QQ : Option Value → xMem → Prop} {r : Nat} (hr : r < 6) {hh : Int64} (kk : ∀ l4, PR E mX10_digest (xN M) 102 [some (.ref 1), some (.long (dgF ((fun r i => M.1 (42 + 2 * r + 1) i) r) hh (M.1 (42 + 2 * r) 1).toNatClampNeg)), none, some (.int (nI (r + 1))), l4] [] M (QQ)) : PR E mX10_digest (xN M) 128 [some (.ref 1), some (.long (dgF ((fun r i => M.1 (42 + 2 * r + 1) i) r) hh 0)), none, some (.int (nI r)), some (.int (nI 0))] [] (M) (QQ) := by
  have hzr := sz_le (by decide) (hz r hr)
  refine px_for (P := fun i => PR E mX10_digest (xN M) 128 [some (.ref 1), some (.long (dgF ((fun r i => M.1 (42 + 2 * r + 1) i) r) hh i)), none, some (.int (nI r)), some (.int (nI i))] [] (M) (QQ)) ((M.1 (42 + 2 * r) 1).toNatClampNeg) (fun i hi nx => ?_) (0) (Nat.zero_le _)
  refine px_iload dX10_digest_128 rfl ?_
  refine px_aload_n dX10_digest_130 rfl rfl ?_
  refine px_getR dX10_digest_131 fX10_11 (xol rfl) hM rfl (wr_10_0 hW (xol rfl)) (Nat.succ_pos _) ?_
  refine px_iload_n dX10_digest_134 rfl rfl ?_
  refine px_aald (t0 := 3) dX10_digest_135 (xal (n := 6) rfl) (by decide) (fun _ => rfl) hM (vp_in_nI (by omega) (by decide)) (show M.2.1 2 (nI r).toNatClampNeg = 42 + 2 * r by rw [nI_clamp (by omega)]; exact wa_2 hW (by omega)) (by omega) ?_
  refine px_getI dX10_digest_136 fX10_100 (ob_row (by omega)) hM rfl ?_
  refine px_icmp_ge 168 dX10_digest_139 rfl (fun h139 => ?_) (fun h139 => ?_)
  · have hi2 : i = (M.1 (42 + 2 * r) 1).toNatClampNeg := by rw [sz_ge (by decide) (by omega) (hz r hr)] at h139; omega
    refine px_inc_3 dX10_digest_168 rfl ic_1 ?_
    refine px_goto 102 dX10_digest_171 rfl ?_
    rw [hi2]
    exact px_eq (by rw [nI_1]) rfl (kk _)
  · have hlt : i < (M.1 (42 + 2 * r) 1).toNatClampNeg := by rw [sz_ge (by decide) (by omega) (hz r hr)] at h139; omega
    refine px_ldc2 dX10_digest_142 xw1014 ?_
    refine px_lload_n dX10_digest_145 rfl rfl ?_
    refine px_lmul dX10_digest_146 ?_
    refine px_aload_n dX10_digest_147 rfl rfl ?_
    refine px_getR dX10_digest_148 fX10_11 (xol rfl) hM rfl (wr_10_0 hW (xol rfl)) (Nat.succ_pos _) ?_
    refine px_iload_n dX10_digest_151 rfl rfl ?_
    refine px_aald (t0 := 3) dX10_digest_152 (xal (n := 6) rfl) (by decide) (fun _ => rfl) hM (vp_in_nI (by omega) (by decide)) (show M.2.1 2 (nI r).toNatClampNeg = 42 + 2 * r by rw [nI_clamp (by omega)]; exact wa_2 hW (by omega)) (by omega) ?_
    refine px_getR dX10_digest_153 fX10_103 (ob_row (by omega)) hM rfl (wr_5_0 hW (ob_row (by omega))) (Nat.succ_pos _) ?_
    refine px_iload dX10_digest_156 rfl ?_
    refine px_iald dX10_digest_158 (ar_5 (ob_row (by omega))) hM (vp_in_nI (by omega) (by decide)) ?_
    refine px_top (y := M.1 (42 + 2 * r + 1) i) (by rw [nI_clamp (by omega)]) ?_
    refine px_i2l dX10_digest_159 ?_
    refine px_ladd dX10_digest_160 ?_
    refine px_sl_1 dX10_digest_161 rfl ?_
    refine px_inc_4 dX10_digest_162 rfl ic_1 ?_
    refine px_goto 128 dX10_digest_165 rfl ?_
    exact px_eq (by rw [nI_1]; rfl) rfl (nx hlt)

set_option maxRecDepth 100000 in
theorem l_dg102 {E : xE} {M : xMem} (hM : xNT ≤ xN M) (hW : xWire M.2.1) (hz : ∀ r, r < 6 → M.1 (42 + 2 * r) 1 = -1 ∨ ∃ n, n ≤ 40 ∧ M.1 (42 + 2 * r) 1 = nI n) (hzt : ∀ r, r < 4 → M.1 (54 + 2 * r) 1 = -1 ∨ ∃ n, n ≤ 120 ∧ M.1 (54 + 2 * r) 1 = nI n) {h0 : Int64} : ∀ l4, PR E mX10_digest (xN M) 102 [some (.ref 1), some (.long (dgN (fun r => M.1 (42 + 2 * r) 1) (fun r i => M.1 (42 + 2 * r + 1) i) h0 0)), none, some (.int (nI 0)), l4] [] (M) (fun r m => r = some (.long (dgN (fun r => M.1 (54 + 2 * r) 1) (fun r i => M.1 (54 + 2 * r + 1) i) (dgN (fun r => M.1 (42 + 2 * r) 1) (fun r i => M.1 (42 + 2 * r + 1) i) h0 6) 4)) ∧ m = M) := by
  refine px_for (P := fun i => ∀ l4, PR E mX10_digest (xN M) 102 [some (.ref 1), some (.long (dgN (fun r => M.1 (42 + 2 * r) 1) (fun r i => M.1 (42 + 2 * r + 1) i) h0 i)), none, some (.int (nI i)), l4] [] (M) (fun r m => r = some (.long (dgN (fun r => M.1 (54 + 2 * r) 1) (fun r i => M.1 (54 + 2 * r + 1) i) (dgN (fun r => M.1 (42 + 2 * r) 1) (fun r i => M.1 (42 + 2 * r + 1) i) h0 6) 4)) ∧ m = M)) (6) (fun i hi nx => ?_) (0) (Nat.zero_le _)
  intro l4
  refine px_iload_n dX10_digest_102 rfl rfl ?_
  refine px_bipush dX10_digest_103 bp_6 ?_
  refine px_icmp_ge 174 dX10_digest_105 rfl (fun h105 => ?_) (fun h105 => ?_)
  · have hi2 : i = 6 := by rw [show (6 : Int32) = nI 6 from rfl, nI_leI (by omega) (by omega)] at h105; omega
    subst hi2
    refine px_iconst dX10_digest_174 ic_0 ?_
    refine px_si_3 dX10_digest_175 rfl ?_
    exact l_dg176 hM hW hzt _
  · have hlt : i < 6 := by rw [show (6 : Int32) = nI 6 from rfl, nI_leI (by omega) (by omega)] at h105; omega
    refine px_ldc2 dX10_digest_108 xw1014 ?_
    refine px_lload_n dX10_digest_111 rfl rfl ?_
    refine px_lmul dX10_digest_112 ?_
    refine px_aload_n dX10_digest_113 rfl rfl ?_
    refine px_getR dX10_digest_114 fX10_11 (xol rfl) hM rfl (wr_10_0 hW (xol rfl)) (Nat.succ_pos _) ?_
    refine px_iload_n dX10_digest_117 rfl rfl ?_
    refine px_aald (t0 := 3) dX10_digest_118 (xal (n := 6) rfl) (by decide) (fun _ => rfl) hM (vp_in_nI (by omega) (by decide)) (show M.2.1 2 (nI i).toNatClampNeg = 42 + 2 * i by rw [nI_clamp (by omega)]; exact wa_2 hW (by omega)) (by omega) ?_
    refine px_getI dX10_digest_119 fX10_100 (ob_row (by omega)) hM rfl ?_
    refine px_i2l dX10_digest_122 ?_
    refine px_ladd dX10_digest_123 ?_
    refine px_sl_1 dX10_digest_124 rfl ?_
    refine px_iconst dX10_digest_125 ic_0 ?_
    refine px_si_4 dX10_digest_126 rfl ?_
    exact l_dg128 hM hW hz hlt (nx hlt)

set_option maxRecDepth 100000 in
theorem l_dg59 {E : xE} {M : xMem} (hM : xNT ≤ xN M) (hW : xWire M.2.1) (hz : szOK M) {K : Nat → aKep} (hK : kpC M K) {h0 : Int64} : ∀ l4, PR E mX10_digest (xN M) 59 [some (.ref 1), some (.long (dgF (fun k => kV (K k)) h0 0)), none, some (.int (nI 0)), l4] [] (M) (fun r m => r = some (.long (dgN (fun r => M.1 (54 + 2 * r) 1) (fun r i => M.1 (54 + 2 * r + 1) i) (dgN (fun r => M.1 (42 + 2 * r) 1) (fun r i => M.1 (42 + 2 * r + 1) i) (dgF (fun k => kV (K k)) h0 3) 6) 4)) ∧ m = M) := by
  refine px_for (P := fun i => ∀ l4, PR E mX10_digest (xN M) 59 [some (.ref 1), some (.long (dgF (fun k => kV (K k)) h0 i)), none, some (.int (nI i)), l4] [] (M) (fun r m => r = some (.long (dgN (fun r => M.1 (54 + 2 * r) 1) (fun r i => M.1 (54 + 2 * r + 1) i) (dgN (fun r => M.1 (42 + 2 * r) 1) (fun r i => M.1 (42 + 2 * r + 1) i) (dgF (fun k => kV (K k)) h0 3) 6) 4)) ∧ m = M)) (3) (fun i hi nx => ?_) (0) (Nat.zero_le _)
  intro l4
  refine px_iload_n dX10_digest_59 rfl rfl ?_
  refine px_iconst dX10_digest_60 ic_3 ?_
  refine px_icmp_ge 100 dX10_digest_61 rfl (fun h61 => ?_) (fun h61 => ?_)
  · have hi2 : i = 3 := by rw [show (3 : Int32) = nI 3 from rfl, nI_leI (by omega) (by omega)] at h61; omega
    subst hi2
    refine px_iconst dX10_digest_100 ic_0 ?_
    refine px_si_3 dX10_digest_101 rfl ?_
    exact l_dg102 hM hW hz.1 hz.2 _
  · have hlt : i < 3 := by rw [show (3 : Int32) = nI 3 from rfl, nI_leI (by omega) (by omega)] at h61; omega
    have hni : (nI i).toNatClampNeg = i := nI_clamp (by omega)
    have hkv := kp_V hK hlt
    refine px_ldc2 dX10_digest_64 xw1014 ?_
    refine px_lload_n dX10_digest_67 rfl rfl ?_
    refine px_lmul dX10_digest_68 ?_
    refine px_aload_n dX10_digest_69 rfl rfl ?_
    refine px_getR dX10_digest_70 fX10_27 (xol rfl) hM rfl (wr_10_3 hW (xol rfl)) (Nat.succ_pos _) ?_
    refine px_iload_n dX10_digest_73 rfl rfl ?_
    refine px_zald dX10_digest_74 (xal (n := 3) rfl) hM (vp_in_nI (by omega) (by decide)) ?_
    refine px_top (y := M.1 5 i) (by rw [hni]) ?_
    refine px_if_eq 90 dX10_digest_75 rfl (fun h75 => ?_) (fun h75 => ?_)
    · refine px_iconst dX10_digest_90 ic_m1 ?_
      refine px_top (y := kV (K i)) (by first | (rw [if_neg h75] at hkv; exact hkv) | (rw [if_pos h75] at hkv; exact hkv)) ?_
      refine px_i2l dX10_digest_91 ?_
      refine px_ladd dX10_digest_92 ?_
      refine px_sl_1 dX10_digest_93 rfl ?_
      refine px_inc_3 dX10_digest_94 rfl ic_1 ?_
      refine px_goto 59 dX10_digest_97 rfl ?_
      exact px_eq (by rw [nI_1]; rfl) rfl (nx hlt _)
    · refine px_aload_n dX10_digest_78 rfl rfl ?_
      refine px_getR dX10_digest_79 fX10_23 (xol rfl) hM rfl (wr_10_2 hW (xol rfl)) (Nat.succ_pos _) ?_
      refine px_iload_n dX10_digest_82 rfl rfl ?_
      refine px_aald (t0 := 5) dX10_digest_83 (xal (n := 3) rfl) (by decide) (fun _ => rfl) hM (vp_in_nI (by omega) (by decide)) (show M.2.1 4 (nI i).toNatClampNeg = 62 + 4 * i by rw [hni]; exact wa_4 hW (by omega)) (by omega) ?_
      refine px_getI dX10_digest_84 fX10_220 (ob_kept (by omega)) hM rfl ?_
      refine px_goto 91 dX10_digest_87 rfl ?_
      refine px_top (y := kV (K i)) (by first | (rw [if_neg h75] at hkv; exact hkv) | (rw [if_pos h75] at hkv; exact hkv)) ?_
      refine px_i2l dX10_digest_91 ?_
      refine px_ladd dX10_digest_92 ?_
      refine px_sl_1 dX10_digest_93 rfl ?_
      refine px_inc_3 dX10_digest_94 rfl ic_1 ?_
      refine px_goto 59 dX10_digest_97 rfl ?_
      exact px_eq (by rw [nI_1]; rfl) rfl (nx hlt _)

set_option maxRecDepth 100000 in
theorem l_dg33 {E : xE} {M : xMem} {s n W H B dd : Nat} {g : Nat → Nat → Nat} {S : gLay × Nat} {P : Nat → gLay × Nat} (hc : cHy M s n W H B g dd S P) (hz : szOK M) {K : Nat → aKep} (hK : kpC M K) {h0 : Int64} : ∀ l4, PR E mX10_digest (xN M) 33 [some (.ref 1), some (.long (dgG B g S.1 h0 0)), none, some (.int (nI 0)), l4] [] (M) (fun r m => r = some (.long (dgN (fun r => M.1 (54 + 2 * r) 1) (fun r i => M.1 (54 + 2 * r + 1) i) (dgN (fun r => M.1 (42 + 2 * r) 1) (fun r i => M.1 (42 + 2 * r + 1) i) (dgF (fun k => kV (K k)) (dgG B g S.1 h0 n) 3) 6) 4)) ∧ m = M) := by
  have hc0 := hc
  obtain ⟨hM, hW, hs, hcu, hsh, hok, hst, hly, hru⟩ := hc
  have hp0 : 0 < s := hs.1
  have h8 : n ≤ 8 := hok.1
  have hb : lyB S.1 := (hsh.s hok).b hly
  have hl : lyC (M.1 8) S.1 := hst.2.2.1
  have hpg := pgL_le hb 8
  have h7 := xob_7 hs
  refine px_for (P := fun i => ∀ l4, PR E mX10_digest (xN M) 33 [some (.ref 1), some (.long (dgG B g S.1 h0 i)), none, some (.int (nI i)), l4] [] (M) (fun r m => r = some (.long (dgN (fun r => M.1 (54 + 2 * r) 1) (fun r i => M.1 (54 + 2 * r + 1) i) (dgN (fun r => M.1 (42 + 2 * r) 1) (fun r i => M.1 (42 + 2 * r + 1) i) (dgF (fun k => kV (K k)) (dgG B g S.1 h0 n) 3) 6) 4)) ∧ m = M)) (n) (fun i hi nx => ?_) (0) (Nat.zero_le _)
  intro l4
  refine px_iload_n dX10_digest_33 rfl rfl ?_
  refine px_aload_n dX10_digest_34 rfl rfl ?_
  refine px_getR dX10_digest_35 fX10_71 (xol rfl) hM rfl (by assumption) (by assumption) ?_
  refine px_getI dX10_digest_38 fX10_140 hs hM rfl ?_
  refine px_top (y := nI n) hsh.1 ?_
  refine px_icmp_ge 57 dX10_digest_41 rfl (fun h41 => ?_) (fun h41 => ?_)
  · have hi2 : i = n := by rw [nI_leI (by omega) (by omega)] at h41; omega
    subst hi2
    refine px_iconst dX10_digest_57 ic_0 ?_
    refine px_si_3 dX10_digest_58 rfl ?_
    exact l_dg59 hM hW hz hK _
  · have hlt : i < n := by rw [nI_leI (by omega) (by omega)] at h41; omega
    refine px_aload_n dX10_digest_44 rfl rfl ?_
    refine px_lload_n dX10_digest_45 rfl rfl ?_
    refine px_iload_n dX10_digest_46 rfl rfl ?_
    refine px_fV2i dX10_digest_47 kX10_digest_335 (xol rfl) hM (Nat.le_of_ble_eq_true rfl) (c_X10_withFrame hc0 hlt) ?_
    refine px_sl_1 dX10_digest_50 rfl ?_
    refine px_inc_3 dX10_digest_51 rfl ic_1 ?_
    refine px_goto 33 dX10_digest_54 rfl ?_
    exact px_eq (by rw [nI_1]; rfl) rfl (nx hlt _)

theorem szS {M m : xMem} (h : cS M m) (hz : szOK M) : szOK m := ⟨fun r hr => by rw [h.2 (42 + 2 * r) (by omega)]; exact hz.1 r hr, fun t ht => by rw [h.2 (54 + 2 * t) (by omega)]; exact hz.2 t ht⟩
theorem rc_m {M m : xMem} (h : cS M m) : rcN (fun r => m.1 (42 + 2 * r) 1) 6 = rcN (fun r => M.1 (42 + 2 * r) 1) 6 ∧ rcN (fun r => m.1 (54 + 2 * r) 1) 4 = rcN (fun r => M.1 (54 + 2 * r) 1) 4 := ⟨rcN_c 6 (fun i _ => by rw [h.2 (42 + 2 * i) (by omega)]), rcN_c 4 (fun i _ => by rw [h.2 (54 + 2 * i) (by omega)])⟩

theorem fin_m {M m : xMem} {n B : Nat} {g : Nat → Nat → Nat} {S : gLay × Nat} {K : Nat → aKep} {h0 : Int64} (h : cS M m) : dgN (fun r => m.1 (54 + 2 * r) 1) (fun r i => m.1 (54 + 2 * r + 1) i) (dgN (fun r => m.1 (42 + 2 * r) 1) (fun r i => m.1 (42 + 2 * r + 1) i) (dgF (fun k => kV (K k)) (dgG B g S.1 h0 n) 3) 6) 4 = dgN (fun r => M.1 (54 + 2 * r) 1) (fun r i => M.1 (54 + 2 * r + 1) i) (dgN (fun r => M.1 (42 + 2 * r) 1) (fun r i => M.1 (42 + 2 * r + 1) i) (dgF (fun k => kV (K k)) (dgG B g S.1 h0 n) 3) 6) 4 := by
  rw [dgN_c 6 (z := (fun r => m.1 (42 + 2 * r) 1)) (z' := (fun r => M.1 (42 + 2 * r) 1)) (c := (fun r i => m.1 (42 + 2 * r + 1) i)) (c' := (fun r i => M.1 (42 + 2 * r + 1) i)) (fun r _ => ⟨by rw [h.2 (42 + 2 * r) (by omega)], fun i _ => by rw [h.2 (42 + 2 * r + 1) (by omega)]⟩)]
  exact dgN_c 4 (fun r _ => ⟨by rw [h.2 (54 + 2 * r) (by omega)], fun i _ => by rw [h.2 (54 + 2 * r + 1) (by omega)]⟩)

set_option maxRecDepth 100000 in
theorem l_dg6 {E : xE} {M : xMem} {s n W H B dd : Nat} {g : Nat → Nat → Nat} {S : gLay × Nat} {P : Nat → gLay × Nat} (hc : cHy M s n W H B g dd S P) (hz : szOK M) {K : Nat → aKep} (hK : kpC M K) : ∀ m, cS M m → ∀ l4, PR E mX10_digest (xN M) 6 [some (.ref 1), some (.long (dgF (fun w => aCnt n W H B (aA B g) (aD B g) S dd (rcN (fun r => M.1 (42 + 2 * r) 1) 6) (rcN (fun r => M.1 (54 + 2 * r) 1) 4) (kcN K 3) (nI w)) 17 0)), none, some (.int (nI 0)), l4] [] (m) (fun r m => r = some (.long (dgN (fun r => M.1 (54 + 2 * r) 1) (fun r i => M.1 (54 + 2 * r + 1) i) (dgN (fun r => M.1 (42 + 2 * r) 1) (fun r i => M.1 (42 + 2 * r + 1) i) (dgF (fun k => kV (K k)) (dgG B g S.1 (dgF (fun w => aCnt n W H B (aA B g) (aD B g) S dd (rcN (fun r => M.1 (42 + 2 * r) 1) 6) (rcN (fun r => M.1 (54 + 2 * r) 1) 4) (kcN K 3) (nI w)) 17 14) n) 3) 6) 4)) ∧ cS M m) := by
  have hc0 := hc
  obtain ⟨hM, hW, hs, hcu, hsh, hok, hst, hly, hru⟩ := hc
  have hp0 : 0 < s := hs.1
  have h8 : n ≤ 8 := hok.1
  have hb : lyB S.1 := (hsh.s hok).b hly
  have hl : lyC (M.1 8) S.1 := hst.2.2.1
  have hpg := pgL_le hb 8
  have h7 := xob_7 hs
  refine px_for (P := fun i => ∀ m, cS M m → ∀ l4, PR E mX10_digest (xN M) 6 [some (.ref 1), some (.long (dgF (fun w => aCnt n W H B (aA B g) (aD B g) S dd (rcN (fun r => M.1 (42 + 2 * r) 1) 6) (rcN (fun r => M.1 (54 + 2 * r) 1) 4) (kcN K 3) (nI w)) 17 i)), none, some (.int (nI i)), l4] [] (m) (fun r m => r = some (.long (dgN (fun r => M.1 (54 + 2 * r) 1) (fun r i => M.1 (54 + 2 * r + 1) i) (dgN (fun r => M.1 (42 + 2 * r) 1) (fun r i => M.1 (42 + 2 * r + 1) i) (dgF (fun k => kV (K k)) (dgG B g S.1 (dgF (fun w => aCnt n W H B (aA B g) (aD B g) S dd (rcN (fun r => M.1 (42 + 2 * r) 1) 6) (rcN (fun r => M.1 (54 + 2 * r) 1) 4) (kcN K 3) (nI w)) 17 14) n) 3) 6) 4)) ∧ cS M m)) (14) (fun i hi nx => ?_) (0) (Nat.zero_le _)
  intro m hk l4
  have hm : xNT ≤ xN m := by rw [hk.m]; exact hM
  have hw : xWire m.2.1 := by rw [hk.w]; exact hW
  have hcm : m.2.1 1 10 = s := by rw [hk.w]; exact hcu
  refine px_iload_n dX10_digest_6 rfl rfl ?_
  refine px_bipush dX10_digest_7 bp_14 ?_
  refine px_icmp_ge 31 dX10_digest_9 rfl (fun h9 => ?_) (fun h9 => ?_)
  · have hi2 : i = 14 := by rw [show (14 : Int32) = nI 14 from rfl, nI_leI (by omega) (by omega)] at h9; omega
    subst hi2
    refine px_iconst dX10_digest_31 ic_0 ?_
    refine px_si_3 dX10_digest_32 rfl ?_
    refine px_q ?_ (show PR E mX10_digest (xN M) 33 _ _ m _ from hk.m ▸ l_dg33 (cShy hk hc0) (szS hk hz) (cSkp hk hK) _)
    rintro r m' ⟨h1, h2⟩
    rw [fin_m hk] at h1
    exact ⟨h1, by rw [h2]; exact hk⟩
  · have hlt : i < 14 := by rw [show (14 : Int32) = nI 14 from rfl, nI_leI (by omega) (by omega)] at h9; omega
    refine px_ldc2 dX10_digest_12 xw1014 ?_
    refine px_lload_n dX10_digest_15 rfl rfl ?_
    refine px_lmul dX10_digest_16 ?_
    refine px_aload_n dX10_digest_17 rfl rfl ?_
    refine px_iload_n dX10_digest_18 rfl rfl ?_
    refine px_gV1 dX10_digest_19 kX10_digest_332 (xol rfl) hm (Nat.le_of_ble_eq_true rfl) (c_X10_count (cShy hk hc0) (cSkp hk hK) (v := nI i)) (fun r19 M19 hq19 hn19 => ?_)
    obtain ⟨rfl, q1⟩ := hq19
    rw [(rc_m hk).1, (rc_m hk).2]
    refine px_i2l dX10_digest_22 ?_
    refine px_ladd dX10_digest_23 ?_
    refine px_sl_1 dX10_digest_24 rfl ?_
    refine px_inc_3 dX10_digest_25 rfl ic_1 ?_
    refine px_goto 6 dX10_digest_28 rfl ?_
    exact px_eq (by rw [nI_1]; rfl) rfl (nx hlt M19 (hk.tr q1) _)

set_option maxRecDepth 100000 in
theorem c_X10_digest {E : xE} {M : xMem} {s n W H B dd : Nat} {g : Nat → Nat → Nat} {S : gLay × Nat} {P : Nat → gLay × Nat} (hc : cHy M s n W H B g dd S P) (hz : szOK M) {K : Nat → aKep} (hK : kpC M K) : Ct E mX10_digest [.ref 1] M (xN M) (fun r m => r = some (.long (dgN (fun r => M.1 (54 + 2 * r) 1) (fun r i => M.1 (54 + 2 * r + 1) i) (dgN (fun r => M.1 (42 + 2 * r) 1) (fun r i => M.1 (42 + 2 * r + 1) i) (dgF (fun k => kV (K k)) (dgG B g S.1 (dgF (fun w => aCnt n W H B (aA B g) (aD B g) S dd (rcN (fun r => M.1 (42 + 2 * r) 1) 6) (rcN (fun r => M.1 (54 + 2 * r) 1) 4) (kcN K 3) (nI w)) 17 14) n) 3) 6) 4)) ∧ cS M m) := by
  refine Ct.of (lo := [some (.ref 1), none, none, none, none]) pln_X10 (Nat.le_of_ble_eq_true rfl) rfl (Nat.le_refl _) ?_
  refine px_ldc2 dX10_digest_0 xw1013 ?_
  refine px_sl_1 dX10_digest_3 rfl ?_
  refine px_iconst dX10_digest_4 ic_0 ?_
  refine px_si_3 dX10_digest_5 rfl ?_
  exact l_dg6 hc hz hK M (cS.rf M) _
