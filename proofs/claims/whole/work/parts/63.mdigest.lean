/-! ===== digest of the reference ===== -/
theorem rSwL {M m : xMem} (h : rS M m) (v : Int64) : rS M (wL m 74 44 v) := ⟨h.1, h.2.1, h.2.2.1, h.2.2.2⟩
theorem rShy {M m : xMem} {n W H B dd : Nat} {g : Nat → Nat → Nat} {S : gLay × Nat} {P : Nat → gLay × Nat} (h : rS M m) (hc : rHy M n W H B g dd S P) : rHy m n W H B g dd S P := by
  obtain ⟨hM, hW, hsh, hok, hst, hly, hru⟩ := hc
  exact ⟨by rw [h.m]; exact hM, by rw [h.1]; exact hW, mSh_k hsh (h.2.2.1 81 (by decide) (by decide) (by decide)) (fun k k1 k2 => h.2.2.2 k (by omega) (by omega) (by omega)), hok, stM_k hst (h.2.2.2 36 (by decide) (by decide) (by decide)) (h.2.2.1 83 (by decide) (by decide) (by decide)) (h.2.2.1 90 (by decide) (by decide) (by decide)), hly, hru⟩
theorem rSkp {M m : xMem} {K : Nat → aKep} (h : rS M m) (hK : kpM M K) : kpM m K := fun k hk => ⟨fun z => by rw [h.2.2.1 91 (by decide) (by decide) (by decide)]; exact (hK k hk).1 z, fun q hq => ktM_c ((hK k hk).2 q hq) (by rw [h.2.2.1 91 (by decide) (by decide) (by decide)]) (fun j _ _ => by rw [h.2.2.1 92 (by decide) (by decide) (by decide)])⟩
theorem rSsz {M m : xMem} (h : rS M m) (hz : mszOK M) : mszOK m := ⟨fun r hr => by rw [h.2.2.1 76 (by decide) (by decide) (by decide)]; exact hz.1 r hr, fun t ht => by rw [h.2.2.1 79 (by decide) (by decide) (by decide)]; exact hz.2 t ht⟩
theorem mp_V {M : xMem} {K : Nat → aKep} (hK : kpM M K) {k : Nat} (hk : k < 3) : M.1 91 k = kV (K k) := by
  cases e : K k with
  | none => exact (hK k hk).1 e
  | some q => exact ((hK k hk).2 q e).1

set_option maxRecDepth 100000 in
theorem c_X11_adds {E : xE} {M : xMem} {v : Int64} (hM : xNT ≤ xN M) : Cf E mX11_adds [.ref 74, .long v] M none (wL M 74 44 (31 * M.2.2.1 74 44 + v)) := by
  refine Ct.of (lo := [some (.ref 74), some (.long v), none]) pln_X11 (Nat.le_of_ble_eq_true rfl) rfl (Nat.le_refl _) ?_
  refine px_aload_n dX11_adds_0 rfl rfl ?_
  refine px_ldc2 dX11_adds_1 xw1553 ?_
  refine px_aload_n dX11_adds_4 rfl rfl ?_
  refine px_getL dX11_adds_5 fX11_357 (xol rfl) hM rfl ?_
  refine px_lmul dX11_adds_8 ?_
  refine px_lload_n dX11_adds_9 rfl rfl ?_
  refine px_ladd dX11_adds_10 ?_
  refine px_putL dX11_adds_11 fX11_357 p11_44 (xol rfl) hM rfl ?_
  exact px_ret dX11_adds_14 rfl ⟨rfl, rfl⟩ (rfl)

set_option maxRecDepth 100000 in
theorem l_md223 {E : xE} {M : xMem} (hM : xNT ≤ xN M) (hW : xWire M.2.1) (hz : ∀ r, r < 4 → M.1 79 r = -1 ∨ ∃ n, n ≤ 120 ∧ M.1 79 r = nI n) {QQ : Option Value → xMem → Prop} {r : Nat} (hr : r < 4) {hh : Int64} (kk : ∀ m, rS M m → m.2.2.1 74 44 = dgF ((fun r i => M.1 80 (120 * r + i)) r) hh (M.1 79 r).toNatClampNeg → ∀ l2, PR E mX11_digest (xN M) 205 [some (.ref 74), some (.int (nI (r + 1))), l2] [] m QQ) : ∀ m, rS M m → m.2.2.1 74 44 = dgF ((fun r i => M.1 80 (120 * r + i)) r) hh 0 → PR E mX11_digest (xN M) 223 [some (.ref 74), some (.int (nI r)), some (.int (nI 0))] [] (m) (QQ) := by
  have hzr := sz_le (by decide) (hz r hr)
  refine px_for (P := fun i => ∀ m, rS M m → m.2.2.1 74 44 = dgF ((fun r i => M.1 80 (120 * r + i)) r) hh i → PR E mX11_digest (xN M) 223 [some (.ref 74), some (.int (nI r)), some (.int (nI i))] [] (m) (QQ)) ((M.1 79 r).toNatClampNeg) (fun i hi nx => ?_) (0) (Nat.zero_le _)
  intro m hk hv
  have hm : xNT ≤ xN m := by rw [hk.m]; exact hM
  have hw : xWire m.2.1 := by rw [hk.1]; exact hW
  refine px_iload_n dX11_digest_223 rfl rfl ?_
  refine px_aload_n dX11_digest_224 rfl rfl ?_
  refine px_getR dX11_digest_225 fX11_22 (xol rfl) hm rfl (wr_11_6 hw (xol rfl)) (Nat.succ_pos _) ?_
  refine px_iload_n dX11_digest_228 rfl rfl ?_
  refine px_iald dX11_digest_229 (xal (n := 4) rfl) hm (vp_in_nI (by omega) (by decide)) ?_
  refine px_top (y := M.1 79 r) (by rw [nI_clamp (by omega), hk.2.2.1 79 (by decide) (by decide) (by decide)]) ?_
  refine px_icmp_ge 255 dX11_digest_230 rfl (fun h230 => ?_) (fun h230 => ?_)
  · have hi2 : i = (M.1 79 r).toNatClampNeg := by rw [sz_ge (by decide) (by omega) (hz r hr)] at h230; omega
    refine px_inc_1 dX11_digest_255 rfl ic_1 ?_
    refine px_goto 205 dX11_digest_258 rfl ?_
    rw [hi2] at hv
    exact px_eq (by rw [nI_1]) rfl (kk m hk hv _)
  · have hlt : i < (M.1 79 r).toNatClampNeg := by rw [sz_ge (by decide) (by omega) (hz r hr)] at h230; omega
    refine px_aload_n dX11_digest_233 rfl rfl ?_
    refine px_aload_n dX11_digest_234 rfl rfl ?_
    refine px_getR dX11_digest_235 fX11_25 (xol rfl) hm rfl (wr_11_7 hw (xol rfl)) (Nat.succ_pos _) ?_
    refine px_bipush dX11_digest_238 bp_120 ?_
    refine px_iload_n dX11_digest_240 rfl rfl ?_
    refine px_imul dX11_digest_241 ?_
    refine px_iload_n dX11_digest_242 rfl rfl ?_
    refine px_iadd dX11_digest_243 ?_
    refine px_top (y := nI (120 * r + i)) (by rw [show (120 : Int32) = nI 120 from rfl, pk_mul, nI_add]) ?_
    refine px_bald dX11_digest_244 (xal (n := 480) rfl) hm (vp_in_nI (by omega) (by decide)) ?_
    refine px_top (y := M.1 80 (120 * r + i)) (by rw [nI_clamp (by omega), hk.2.2.1 80 (by decide) (by decide) (by decide)]) ?_
    refine px_i2l dX11_digest_245 ?_
    refine px_fV1v dX11_digest_246 kX11_digest_363 (xol rfl) hm (Nat.le_of_ble_eq_true rfl) (c_X11_adds hm) ?_
    refine px_inc_2 dX11_digest_249 rfl ic_1 ?_
    refine px_goto 223 dX11_digest_252 rfl ?_
    exact px_eq (by rw [nI_1]) rfl (nx hlt _ (rSwL hk _) (by show 31 * m.2.2.1 74 44 + _ = _; rw [hv]; rfl))

set_option maxRecDepth 100000 in
theorem l_md205 {E : xE} {M : xMem} (hM : xNT ≤ xN M) (hW : xWire M.2.1) (hz : ∀ r, r < 4 → M.1 79 r = -1 ∨ ∃ n, n ≤ 120 ∧ M.1 79 r = nI n) {h0 : Int64} : ∀ m, rS M m → m.2.2.1 74 44 = dgN (fun r => M.1 79 r) (fun r i => M.1 80 (120 * r + i)) h0 0 → ∀ l2, PR E mX11_digest (xN M) 205 [some (.ref 74), some (.int (nI 0)), l2] [] (m) (fun r m => r = some (.long (dgN (fun r => M.1 79 r) (fun r i => M.1 80 (120 * r + i)) h0 4)) ∧ rS M m) := by
  refine px_for (P := fun i => ∀ m, rS M m → m.2.2.1 74 44 = dgN (fun r => M.1 79 r) (fun r i => M.1 80 (120 * r + i)) h0 i → ∀ l2, PR E mX11_digest (xN M) 205 [some (.ref 74), some (.int (nI i)), l2] [] (m) (fun r m => r = some (.long (dgN (fun r => M.1 79 r) (fun r i => M.1 80 (120 * r + i)) h0 4)) ∧ rS M m)) (4) (fun i hi nx => ?_) (0) (Nat.zero_le _)
  intro m hk hv l2
  have hm : xNT ≤ xN m := by rw [hk.m]; exact hM
  have hw : xWire m.2.1 := by rw [hk.1]; exact hW
  refine px_iload_n dX11_digest_205 rfl rfl ?_
  refine px_iconst dX11_digest_206 ic_4 ?_
  refine px_icmp_ge 261 dX11_digest_207 rfl (fun h207 => ?_) (fun h207 => ?_)
  · have hi2 : i = 4 := by rw [show (4 : Int32) = nI 4 from rfl, nI_leI (by omega) (by omega)] at h207; omega
    subst hi2
    refine px_aload_n dX11_digest_261 rfl rfl ?_
    refine px_getL dX11_digest_262 fX11_357 (xol rfl) hm rfl ?_
    exact px_lret dX11_digest_265 rfl ⟨by rw [hv], hk⟩ (hk.m)
  · have hlt : i < 4 := by rw [show (4 : Int32) = nI 4 from rfl, nI_leI (by omega) (by omega)] at h207; omega
    refine px_aload_n dX11_digest_210 rfl rfl ?_
    refine px_aload_n dX11_digest_211 rfl rfl ?_
    refine px_getR dX11_digest_212 fX11_22 (xol rfl) hm rfl (wr_11_6 hw (xol rfl)) (Nat.succ_pos _) ?_
    refine px_iload_n dX11_digest_215 rfl rfl ?_
    refine px_iald dX11_digest_216 (xal (n := 4) rfl) hm (vp_in_nI (by omega) (by decide)) ?_
    refine px_top (y := M.1 79 i) (by rw [nI_clamp (by omega), hk.2.2.1 79 (by decide) (by decide) (by decide)]) ?_
    refine px_i2l dX11_digest_217 ?_
    refine px_fV1v dX11_digest_218 kX11_digest_363 (xol rfl) hm (Nat.le_of_ble_eq_true rfl) (c_X11_adds hm) ?_
    refine px_iconst dX11_digest_221 ic_0 ?_
    refine px_si_2 dX11_digest_222 rfl ?_
    exact l_md223 hM hW hz hlt (hh := 31 * dgN (fun r => M.1 79 r) (fun r i => M.1 80 (120 * r + i)) h0 i + (M.1 79 i).toInt64) (nx hlt) _ (rSwL hk _) (by show 31 * m.2.2.1 74 44 + _ = _; rw [hv]; rfl)

set_option maxRecDepth 100000 in
theorem l_md170 {E : xE} {M : xMem} (hM : xNT ≤ xN M) (hW : xWire M.2.1) (hz : ∀ r, r < 6 → M.1 76 r = -1 ∨ ∃ n, n ≤ 40 ∧ M.1 76 r = nI n) {QQ : Option Value → xMem → Prop} {r : Nat} (hr : r < 6) {hh : Int64} (kk : ∀ m, rS M m → m.2.2.1 74 44 = dgF ((fun r i => M.1 77 (40 * r + i)) r) hh (M.1 76 r).toNatClampNeg → ∀ l2, PR E mX11_digest (xN M) 151 [some (.ref 74), some (.int (nI (r + 1))), l2] [] m QQ) : ∀ m, rS M m → m.2.2.1 74 44 = dgF ((fun r i => M.1 77 (40 * r + i)) r) hh 0 → PR E mX11_digest (xN M) 170 [some (.ref 74), some (.int (nI r)), some (.int (nI 0))] [] (m) (QQ) := by
  have hzr := sz_le (by decide) (hz r hr)
  refine px_for (P := fun i => ∀ m, rS M m → m.2.2.1 74 44 = dgF ((fun r i => M.1 77 (40 * r + i)) r) hh i → PR E mX11_digest (xN M) 170 [some (.ref 74), some (.int (nI r)), some (.int (nI i))] [] (m) (QQ)) ((M.1 76 r).toNatClampNeg) (fun i hi nx => ?_) (0) (Nat.zero_le _)
  intro m hk hv
  have hm : xNT ≤ xN m := by rw [hk.m]; exact hM
  have hw : xWire m.2.1 := by rw [hk.1]; exact hW
  refine px_iload_n dX11_digest_170 rfl rfl ?_
  refine px_aload_n dX11_digest_171 rfl rfl ?_
  refine px_getR dX11_digest_172 fX11_13 (xol rfl) hm rfl (wr_11_3 hw (xol rfl)) (Nat.succ_pos _) ?_
  refine px_iload_n dX11_digest_175 rfl rfl ?_
  refine px_iald dX11_digest_176 (xal (n := 6) rfl) hm (vp_in_nI (by omega) (by decide)) ?_
  refine px_top (y := M.1 76 r) (by rw [nI_clamp (by omega), hk.2.2.1 76 (by decide) (by decide) (by decide)]) ?_
  refine px_icmp_ge 197 dX11_digest_177 rfl (fun h177 => ?_) (fun h177 => ?_)
  · have hi2 : i = (M.1 76 r).toNatClampNeg := by rw [sz_ge (by decide) (by omega) (hz r hr)] at h177; omega
    refine px_inc_1 dX11_digest_197 rfl ic_1 ?_
    refine px_goto 151 dX11_digest_200 rfl ?_
    rw [hi2] at hv
    exact px_eq (by rw [nI_1]) rfl (kk m hk hv _)
  · have hlt : i < (M.1 76 r).toNatClampNeg := by rw [sz_ge (by decide) (by omega) (hz r hr)] at h177; omega
    refine px_aload_n dX11_digest_180 rfl rfl ?_
    refine px_aload_n dX11_digest_181 rfl rfl ?_
    refine px_iload_n dX11_digest_182 rfl rfl ?_
    refine px_iload_n dX11_digest_183 rfl rfl ?_
    refine px_fV2i dX11_digest_184 kX11_digest_87 (xol rfl) hm (Nat.le_of_ble_eq_true rfl) (c_X11_rowAt hm hw (nI_le (a := 0) (by omega) (by omega)) (nI_le (a := 0) (by omega) (by omega)) (by rw [nI_clamp (by omega), nI_clamp (by omega)]; omega)) ?_
    refine px_top (y := M.1 77 (40 * r + i)) (by rw [nI_clamp (by omega), nI_clamp (by omega), hk.2.2.1 77 (by decide) (by decide) (by decide)]) ?_
    refine px_i2l dX11_digest_187 ?_
    refine px_fV1v dX11_digest_188 kX11_digest_363 (xol rfl) hm (Nat.le_of_ble_eq_true rfl) (c_X11_adds hm) ?_
    refine px_inc_2 dX11_digest_191 rfl ic_1 ?_
    refine px_goto 170 dX11_digest_194 rfl ?_
    exact px_eq (by rw [nI_1]) rfl (nx hlt _ (rSwL hk _) (by show 31 * m.2.2.1 74 44 + _ = _; rw [hv]; rfl))

set_option maxRecDepth 100000 in
theorem l_md151 {E : xE} {M : xMem} (hM : xNT ≤ xN M) (hW : xWire M.2.1) (hz : ∀ r, r < 6 → M.1 76 r = -1 ∨ ∃ n, n ≤ 40 ∧ M.1 76 r = nI n) (hzt : ∀ r, r < 4 → M.1 79 r = -1 ∨ ∃ n, n ≤ 120 ∧ M.1 79 r = nI n) {h0 : Int64} : ∀ m, rS M m → m.2.2.1 74 44 = dgN (fun r => M.1 76 r) (fun r i => M.1 77 (40 * r + i)) h0 0 → ∀ l2, PR E mX11_digest (xN M) 151 [some (.ref 74), some (.int (nI 0)), l2] [] (m) (fun r m => r = some (.long (dgN (fun r => M.1 79 r) (fun r i => M.1 80 (120 * r + i)) (dgN (fun r => M.1 76 r) (fun r i => M.1 77 (40 * r + i)) h0 6) 4)) ∧ rS M m) := by
  refine px_for (P := fun i => ∀ m, rS M m → m.2.2.1 74 44 = dgN (fun r => M.1 76 r) (fun r i => M.1 77 (40 * r + i)) h0 i → ∀ l2, PR E mX11_digest (xN M) 151 [some (.ref 74), some (.int (nI i)), l2] [] (m) (fun r m => r = some (.long (dgN (fun r => M.1 79 r) (fun r i => M.1 80 (120 * r + i)) (dgN (fun r => M.1 76 r) (fun r i => M.1 77 (40 * r + i)) h0 6) 4)) ∧ rS M m)) (6) (fun i hi nx => ?_) (0) (Nat.zero_le _)
  intro m hk hv l2
  have hm : xNT ≤ xN m := by rw [hk.m]; exact hM
  have hw : xWire m.2.1 := by rw [hk.1]; exact hW
  refine px_iload_n dX11_digest_151 rfl rfl ?_
  refine px_bipush dX11_digest_152 bp_6 ?_
  refine px_icmp_ge 203 dX11_digest_154 rfl (fun h154 => ?_) (fun h154 => ?_)
  · have hi2 : i = 6 := by rw [show (6 : Int32) = nI 6 from rfl, nI_leI (by omega) (by omega)] at h154; omega
    subst hi2
    refine px_iconst dX11_digest_203 ic_0 ?_
    refine px_si_1 dX11_digest_204 rfl ?_
    exact l_md205 hM hW hzt m hk hv _
  · have hlt : i < 6 := by rw [show (6 : Int32) = nI 6 from rfl, nI_leI (by omega) (by omega)] at h154; omega
    refine px_aload_n dX11_digest_157 rfl rfl ?_
    refine px_aload_n dX11_digest_158 rfl rfl ?_
    refine px_getR dX11_digest_159 fX11_13 (xol rfl) hm rfl (wr_11_3 hw (xol rfl)) (Nat.succ_pos _) ?_
    refine px_iload_n dX11_digest_162 rfl rfl ?_
    refine px_iald dX11_digest_163 (xal (n := 6) rfl) hm (vp_in_nI (by omega) (by decide)) ?_
    refine px_top (y := M.1 76 i) (by rw [nI_clamp (by omega), hk.2.2.1 76 (by decide) (by decide) (by decide)]) ?_
    refine px_i2l dX11_digest_164 ?_
    refine px_fV1v dX11_digest_165 kX11_digest_363 (xol rfl) hm (Nat.le_of_ble_eq_true rfl) (c_X11_adds hm) ?_
    refine px_iconst dX11_digest_168 ic_0 ?_
    refine px_si_2 dX11_digest_169 rfl ?_
    exact l_md170 hM hW hz hlt (hh := 31 * dgN (fun r => M.1 76 r) (fun r i => M.1 77 (40 * r + i)) h0 i + (M.1 76 i).toInt64) (nx hlt) _ (rSwL hk _) (by show 31 * m.2.2.1 74 44 + _ = _; rw [hv]; rfl)

set_option maxRecDepth 100000 in
theorem l_md127 {E : xE} {M : xMem} (hM : xNT ≤ xN M) (hW : xWire M.2.1) (hz : mszOK M) {K : Nat → aKep} (hK : kpM M K) {h0 : Int64} : ∀ m, rS M m → m.2.2.1 74 44 = dgF (fun k => kV (K k)) h0 0 → ∀ l2, PR E mX11_digest (xN M) 127 [some (.ref 74), some (.int (nI 0)), l2] [] (m) (fun r m => r = some (.long (dgN (fun r => M.1 79 r) (fun r i => M.1 80 (120 * r + i)) (dgN (fun r => M.1 76 r) (fun r i => M.1 77 (40 * r + i)) (dgF (fun k => kV (K k)) h0 3) 6) 4)) ∧ rS M m) := by
  refine px_for (P := fun i => ∀ m, rS M m → m.2.2.1 74 44 = dgF (fun k => kV (K k)) h0 i → ∀ l2, PR E mX11_digest (xN M) 127 [some (.ref 74), some (.int (nI i)), l2] [] (m) (fun r m => r = some (.long (dgN (fun r => M.1 79 r) (fun r i => M.1 80 (120 * r + i)) (dgN (fun r => M.1 76 r) (fun r i => M.1 77 (40 * r + i)) (dgF (fun k => kV (K k)) h0 3) 6) 4)) ∧ rS M m)) (3) (fun i hi nx => ?_) (0) (Nat.zero_le _)
  intro m hk hv l2
  have hm : xNT ≤ xN m := by rw [hk.m]; exact hM
  have hw : xWire m.2.1 := by rw [hk.1]; exact hW
  refine px_iload_n dX11_digest_127 rfl rfl ?_
  refine px_iconst dX11_digest_128 ic_3 ?_
  refine px_icmp_ge 149 dX11_digest_129 rfl (fun h129 => ?_) (fun h129 => ?_)
  · have hi2 : i = 3 := by rw [show (3 : Int32) = nI 3 from rfl, nI_leI (by omega) (by omega)] at h129; omega
    subst hi2
    refine px_iconst dX11_digest_149 ic_0 ?_
    refine px_si_1 dX11_digest_150 rfl ?_
    exact l_md151 hM hW hz.1 hz.2 m hk hv _
  · have hlt : i < 3 := by rw [show (3 : Int32) = nI 3 from rfl, nI_leI (by omega) (by omega)] at h129; omega
    refine px_aload_n dX11_digest_132 rfl rfl ?_
    refine px_aload_n dX11_digest_133 rfl rfl ?_
    refine px_getR dX11_digest_134 fX11_59 (xol rfl) hm rfl (wr_11_38 hw (xol rfl)) (Nat.succ_pos _) ?_
    refine px_iload_n dX11_digest_137 rfl rfl ?_
    refine px_iald dX11_digest_138 (xal (n := 3) rfl) hm (vp_in_nI (by omega) (by decide)) ?_
    refine px_top (y := kV (K i)) (by rw [nI_clamp (by omega), hk.2.2.1 91 (by decide) (by decide) (by decide)]; exact mp_V hK (by omega)) ?_
    refine px_i2l dX11_digest_139 ?_
    refine px_fV1v dX11_digest_140 kX11_digest_363 (xol rfl) hm (Nat.le_of_ble_eq_true rfl) (c_X11_adds hm) ?_
    refine px_inc_1 dX11_digest_143 rfl ic_1 ?_
    refine px_goto 127 dX11_digest_146 rfl ?_
    exact px_eq (by rw [nI_1]) rfl (nx hlt _ (rSwL hk _) (by show 31 * m.2.2.1 74 44 + _ = _; rw [hv]; rfl) _)

set_option maxRecDepth 100000 in
theorem l_md67n {E : xE} {M : xMem} {n W H B dd : Nat} {g : Nat → Nat → Nat} {S : gLay × Nat} {P : Nat → gLay × Nat} (hc : rHy M n W H B g dd S P) {QQ : Option Value → xMem → Prop} {f : Nat} (hf : f < n) {hh : Int64} (kk : ∀ m, rS M m → m.2.2.1 74 44 = dgW B g f hh (S.1 f) → ∀ l2, PR E mX11_digest (xN M) 33 [some (.ref 74), some (.int (nI (f + 1))), l2] [] m QQ) (e : S.1 f = none) : ∀ m, rS M m → m.2.2.1 74 44 = dgF (fun _ => -1) (dgF (fun w => pF B g f (nI w)) hh 5) 0 → PR E mX11_digest (xN M) 67 [some (.ref 74), some (.int (nI f)), some (.int (nI 0))] [] (m) (QQ) := by
  have hc0 := hc
  obtain ⟨hM, hW, hsh, hok, hst, hly, hru⟩ := hc
  have h8 : n ≤ 8 := hok.1
  have hb : lyB S.1 := (hsh.s hok).b hly
  have hl : lyM (M.1 83) S.1 := lyM_c hst.2.2.1.1 (fun k _ => by rw [Nat.zero_add])
  have hpg := pgL_le hb 8
  refine px_for (P := fun i => ∀ m, rS M m → m.2.2.1 74 44 = dgF (fun _ => -1) (dgF (fun w => pF B g f (nI w)) hh 5) i → PR E mX11_digest (xN M) 67 [some (.ref 74), some (.int (nI f)), some (.int (nI i))] [] (m) (QQ)) (1) (fun i hi nx => ?_) (0) (Nat.zero_le _)
  intro m hk hv
  have hm : xNT ≤ xN m := by rw [hk.m]; exact hM
  have hw : xWire m.2.1 := by rw [hk.1]; exact hW
  have hlm : lyM (m.1 83) S.1 := by rw [hk.2.2.1 83 (by decide) (by decide) (by decide)]; exact hl
  have hshm := (rShy hk hc0).2.2.1
  refine px_iload_n dX11_digest_67 rfl rfl ?_
  refine px_aload_n dX11_digest_68 rfl rfl ?_
  refine px_iload_n dX11_digest_69 rfl rfl ?_
  refine px_fV1i dX11_digest_70 kX11_digest_232 (xol rfl) hm (Nat.le_of_ble_eq_true rfl) (c_X11_isSet (f := f) (by omega) hm hw) ?_
  refine px_top (y := zb (¬ S.1 f = none)) (lyM_is hlm hb (by omega)) ?_
  refine px_zif_eq 80 dX11_digest_73 rfl (fun h73 => ?_) (fun h73 => ?_)
  · refine px_iconst dX11_digest_80 ic_1 ?_
    refine px_icmp_ge 119 dX11_digest_81 rfl (fun h81 => ?_) (fun h81 => ?_)
    · have hi2 : i = 1 := by rw [show (1 : Int32) = nI 1 from rfl, nI_leI (by omega) (by omega)] at h81; omega
      subst hi2
      refine px_inc_1 dX11_digest_119 rfl ic_1 ?_
      refine px_goto 33 dX11_digest_122 rfl ?_
      exact px_eq (by rw [nI_1]) rfl (kk m hk (by rw [hv, e]; show 31 * _ + (-1 : Int32).toInt64 = 31 * _ - 1; rw [Int64.sub_eq_add_neg]; rfl) _)
    · have hlt : i < 1 := by rw [show (1 : Int32) = nI 1 from rfl, nI_leI (by omega) (by omega)] at h81; omega
      refine px_aload_n dX11_digest_84 rfl rfl ?_
      refine px_aload_n dX11_digest_85 rfl rfl ?_
      refine px_iload_n dX11_digest_86 rfl rfl ?_
      refine px_fV1i dX11_digest_87 kX11_digest_232 (xol rfl) hm (Nat.le_of_ble_eq_true rfl) (c_X11_isSet (f := f) (by omega) hm hw) ?_
      refine px_top (y := zb (¬ S.1 f = none)) (lyM_is hlm hb (by omega)) ?_
      refine px_zif_eq 107 dX11_digest_90 rfl (fun h90 => ?_) (fun h90 => ?_)
      · refine px_ldc2 dX11_digest_107 xw1554 ?_
        refine px_fV1v dX11_digest_110 kX11_digest_363 (xol rfl) hm (Nat.le_of_ble_eq_true rfl) (c_X11_adds hm) ?_
        refine px_inc_2 dX11_digest_113 rfl ic_1 ?_
        refine px_goto 67 dX11_digest_116 rfl ?_
        exact px_eq (by rw [nI_1]) rfl (nx hlt _ (rSwL hk _) (by show 31 * m.2.2.1 74 44 + _ = _; rw [hv]; rfl))
      · exact absurd e h90
  · exact absurd e h73

set_option maxRecDepth 100000 in
theorem l_md67s {E : xE} {M : xMem} {n W H B dd : Nat} {g : Nat → Nat → Nat} {S : gLay × Nat} {P : Nat → gLay × Nat} (hc : rHy M n W H B g dd S P) {QQ : Option Value → xMem → Prop} {f : Nat} (hf : f < n) {hh : Int64} (kk : ∀ m, rS M m → m.2.2.1 74 44 = dgW B g f hh (S.1 f) → ∀ l2, PR E mX11_digest (xN M) 33 [some (.ref 74), some (.int (nI (f + 1))), l2] [] m QQ) {p x y t : Nat} (e : S.1 f = some (p, x, y, t)) : ∀ m, rS M m → m.2.2.1 74 44 = dgF (fun w => pL (p, x, y, t) (nI w)) (dgF (fun w => pF B g f (nI w)) hh 5) 0 → PR E mX11_digest (xN M) 67 [some (.ref 74), some (.int (nI f)), some (.int (nI 0))] [] (m) (QQ) := by
  have hc0 := hc
  obtain ⟨hM, hW, hsh, hok, hst, hly, hru⟩ := hc
  have h8 : n ≤ 8 := hok.1
  have hb : lyB S.1 := (hsh.s hok).b hly
  have hl : lyM (M.1 83) S.1 := lyM_c hst.2.2.1.1 (fun k _ => by rw [Nat.zero_add])
  have hpg := pgL_le hb 8
  refine px_for (P := fun i => ∀ m, rS M m → m.2.2.1 74 44 = dgF (fun w => pL (p, x, y, t) (nI w)) (dgF (fun w => pF B g f (nI w)) hh 5) i → PR E mX11_digest (xN M) 67 [some (.ref 74), some (.int (nI f)), some (.int (nI i))] [] (m) (QQ)) (4) (fun i hi nx => ?_) (0) (Nat.zero_le _)
  intro m hk hv
  have hm : xNT ≤ xN m := by rw [hk.m]; exact hM
  have hw : xWire m.2.1 := by rw [hk.1]; exact hW
  have hlm : lyM (m.1 83) S.1 := by rw [hk.2.2.1 83 (by decide) (by decide) (by decide)]; exact hl
  have hshm := (rShy hk hc0).2.2.1
  refine px_iload_n dX11_digest_67 rfl rfl ?_
  refine px_aload_n dX11_digest_68 rfl rfl ?_
  refine px_iload_n dX11_digest_69 rfl rfl ?_
  refine px_fV1i dX11_digest_70 kX11_digest_232 (xol rfl) hm (Nat.le_of_ble_eq_true rfl) (c_X11_isSet (f := f) (by omega) hm hw) ?_
  refine px_top (y := zb (¬ S.1 f = none)) (lyM_is hlm hb (by omega)) ?_
  refine px_zif_eq 80 dX11_digest_73 rfl (fun h73 => ?_) (fun h73 => ?_)
  · exact absurd (fun z => by rw [e] at z; cases z) h73
  · refine px_iconst dX11_digest_76 ic_4 ?_
    refine px_goto 81 dX11_digest_77 rfl ?_
    refine px_icmp_ge 119 dX11_digest_81 rfl (fun h81 => ?_) (fun h81 => ?_)
    · have hi2 : i = 4 := by rw [show (4 : Int32) = nI 4 from rfl, nI_leI (by omega) (by omega)] at h81; omega
      subst hi2
      refine px_inc_1 dX11_digest_119 rfl ic_1 ?_
      refine px_goto 33 dX11_digest_122 rfl ?_
      exact px_eq (by rw [nI_1]) rfl (kk m hk (by rw [hv, e]; rfl) _)
    · have hlt : i < 4 := by rw [show (4 : Int32) = nI 4 from rfl, nI_leI (by omega) (by omega)] at h81; omega
      refine px_aload_n dX11_digest_84 rfl rfl ?_
      refine px_aload_n dX11_digest_85 rfl rfl ?_
      refine px_iload_n dX11_digest_86 rfl rfl ?_
      refine px_fV1i dX11_digest_87 kX11_digest_232 (xol rfl) hm (Nat.le_of_ble_eq_true rfl) (c_X11_isSet (f := f) (by omega) hm hw) ?_
      refine px_top (y := zb (¬ S.1 f = none)) (lyM_is hlm hb (by omega)) ?_
      refine px_zif_eq 107 dX11_digest_90 rfl (fun h90 => ?_) (fun h90 => ?_)
      · exact absurd (fun z => by rw [e] at z; cases z) h90
      · refine px_aload_n dX11_digest_93 rfl rfl ?_
        refine px_getR dX11_digest_94 fX11_35 (xol rfl) hm rfl (wr_11_23 hw (xol rfl)) (Nat.succ_pos _) ?_
        refine px_iconst dX11_digest_97 ic_4 ?_
        refine px_iload_n dX11_digest_98 rfl rfl ?_
        refine px_imul dX11_digest_99 ?_
        refine px_iload_n dX11_digest_100 rfl rfl ?_
        refine px_iadd dX11_digest_101 ?_
        refine px_top (y := nI (4 * f + i)) (by rw [show (4 : Int32) = nI 4 from rfl, pk_mul, nI_add]) ?_
        refine px_iald dX11_digest_102 (xal (n := 33) rfl) hm (vp_in_nI (by omega) (by decide)) ?_
        refine px_top (y := pL (p, x, y, t) (nI i)) (by rw [nI_clamp (by omega)]; exact lyM_p hlm (by omega) e hlt) ?_
        refine px_i2l dX11_digest_103 ?_
        refine px_goto 110 dX11_digest_104 rfl ?_
        refine px_fV1v dX11_digest_110 kX11_digest_363 (xol rfl) hm (Nat.le_of_ble_eq_true rfl) (c_X11_adds hm) ?_
        refine px_inc_2 dX11_digest_113 rfl ic_1 ?_
        refine px_goto 67 dX11_digest_116 rfl ?_
        exact px_eq (by rw [nI_1]) rfl (nx hlt _ (rSwL hk _) (by show 31 * m.2.2.1 74 44 + _ = _; rw [hv]; rfl))

set_option maxRecDepth 100000 in
theorem l_md43 {E : xE} {M : xMem} {n W H B dd : Nat} {g : Nat → Nat → Nat} {S : gLay × Nat} {P : Nat → gLay × Nat} (hc : rHy M n W H B g dd S P) {QQ : Option Value → xMem → Prop} {f : Nat} (hf : f < n) {hh : Int64} (kk : ∀ m, rS M m → m.2.2.1 74 44 = dgW B g f hh (S.1 f) → ∀ l2, PR E mX11_digest (xN M) 33 [some (.ref 74), some (.int (nI (f + 1))), l2] [] m QQ) : ∀ m, rS M m → m.2.2.1 74 44 = dgF (fun w => pF B g f (nI w)) hh 0 → PR E mX11_digest (xN M) 43 [some (.ref 74), some (.int (nI f)), some (.int (nI 0))] [] (m) (QQ) := by
  have hc0 := hc
  obtain ⟨hM, hW, hsh, hok, hst, hly, hru⟩ := hc
  have h8 : n ≤ 8 := hok.1
  have hb : lyB S.1 := (hsh.s hok).b hly
  have hl : lyM (M.1 83) S.1 := lyM_c hst.2.2.1.1 (fun k _ => by rw [Nat.zero_add])
  have hpg := pgL_le hb 8
  refine px_for (P := fun i => ∀ m, rS M m → m.2.2.1 74 44 = dgF (fun w => pF B g f (nI w)) hh i → PR E mX11_digest (xN M) 43 [some (.ref 74), some (.int (nI f)), some (.int (nI i))] [] (m) (QQ)) (5) (fun i hi nx => ?_) (0) (Nat.zero_le _)
  intro m hk hv
  have hm : xNT ≤ xN m := by rw [hk.m]; exact hM
  have hw : xWire m.2.1 := by rw [hk.1]; exact hW
  have hlm : lyM (m.1 83) S.1 := by rw [hk.2.2.1 83 (by decide) (by decide) (by decide)]; exact hl
  have hshm := (rShy hk hc0).2.2.1
  refine px_iload_n dX11_digest_43 rfl rfl ?_
  refine px_iconst dX11_digest_44 ic_5 ?_
  refine px_icmp_ge 65 dX11_digest_45 rfl (fun h45 => ?_) (fun h45 => ?_)
  · have hi2 : i = 5 := by rw [show (5 : Int32) = nI 5 from rfl, nI_leI (by omega) (by omega)] at h45; omega
    subst hi2
    refine px_iconst dX11_digest_65 ic_0 ?_
    refine px_si_2 dX11_digest_66 rfl ?_
    cases e : S.1 f with
    | none => exact l_md67n hc0 hf kk e m hk hv
    | some q =>
      obtain ⟨p, x, y, t⟩ := q
      exact l_md67s hc0 hf kk e m hk hv
  · have hlt : i < 5 := by rw [show (5 : Int32) = nI 5 from rfl, nI_leI (by omega) (by omega)] at h45; omega
    refine px_aload_n dX11_digest_48 rfl rfl ?_
    refine px_aload_n dX11_digest_49 rfl rfl ?_
    refine px_iload_n dX11_digest_50 rfl rfl ?_
    refine px_iload_n dX11_digest_51 rfl rfl ?_
    refine px_fV2i dX11_digest_52 kX11_digest_226 (xol rfl) hm (Nat.le_of_ble_eq_true rfl) (c_X11_frameTells (by omega) hm hw) ?_
    refine px_top (y := pF B g f (nI i)) (mSh_p hshm hok hf (nI i)) ?_
    refine px_i2l dX11_digest_55 ?_
    refine px_fV1v dX11_digest_56 kX11_digest_363 (xol rfl) hm (Nat.le_of_ble_eq_true rfl) (c_X11_adds hm) ?_
    refine px_inc_2 dX11_digest_59 rfl ic_1 ?_
    refine px_goto 43 dX11_digest_62 rfl ?_
    exact px_eq (by rw [nI_1]) rfl (nx hlt _ (rSwL hk _) (by show 31 * m.2.2.1 74 44 + _ = _; rw [hv]; rfl))

set_option maxRecDepth 100000 in
theorem l_md33 {E : xE} {M : xMem} {n W H B dd : Nat} {g : Nat → Nat → Nat} {S : gLay × Nat} {P : Nat → gLay × Nat} (hc : rHy M n W H B g dd S P) (hz : mszOK M) {K : Nat → aKep} (hK : kpM M K) {h0 : Int64} : ∀ m, rS M m → m.2.2.1 74 44 = dgG B g S.1 h0 0 → ∀ l2, PR E mX11_digest (xN M) 33 [some (.ref 74), some (.int (nI 0)), l2] [] (m) (fun r m => r = some (.long (dgN (fun r => M.1 79 r) (fun r i => M.1 80 (120 * r + i)) (dgN (fun r => M.1 76 r) (fun r i => M.1 77 (40 * r + i)) (dgF (fun k => kV (K k)) (dgG B g S.1 h0 n) 3) 6) 4)) ∧ rS M m) := by
  have hc0 := hc
  obtain ⟨hM, hW, hsh, hok, hst, hly, hru⟩ := hc
  have h8 : n ≤ 8 := hok.1
  have hb : lyB S.1 := (hsh.s hok).b hly
  have hl : lyM (M.1 83) S.1 := lyM_c hst.2.2.1.1 (fun k _ => by rw [Nat.zero_add])
  have hpg := pgL_le hb 8
  refine px_for (P := fun i => ∀ m, rS M m → m.2.2.1 74 44 = dgG B g S.1 h0 i → ∀ l2, PR E mX11_digest (xN M) 33 [some (.ref 74), some (.int (nI i)), l2] [] (m) (fun r m => r = some (.long (dgN (fun r => M.1 79 r) (fun r i => M.1 80 (120 * r + i)) (dgN (fun r => M.1 76 r) (fun r i => M.1 77 (40 * r + i)) (dgF (fun k => kV (K k)) (dgG B g S.1 h0 n) 3) 6) 4)) ∧ rS M m)) (n) (fun i hi nx => ?_) (0) (Nat.zero_le _)
  intro m hk hv l2
  have hm : xNT ≤ xN m := by rw [hk.m]; exact hM
  have hw : xWire m.2.1 := by rw [hk.1]; exact hW
  have hlm : lyM (m.1 83) S.1 := by rw [hk.2.2.1 83 (by decide) (by decide) (by decide)]; exact hl
  have hshm := (rShy hk hc0).2.2.1
  refine px_iload_n dX11_digest_33 rfl rfl ?_
  refine px_aload_n dX11_digest_34 rfl rfl ?_
  refine px_getI dX11_digest_35 fX11_179 (xol rfl) hm rfl ?_
  refine px_top (y := nI n) hshm.1 ?_
  refine px_icmp_ge 125 dX11_digest_38 rfl (fun h38 => ?_) (fun h38 => ?_)
  · have hi2 : i = n := by rw [nI_leI (by omega) (by omega)] at h38; omega
    subst hi2
    refine px_iconst dX11_digest_125 ic_0 ?_
    refine px_si_1 dX11_digest_126 rfl ?_
    exact l_md127 hM hW hz hK m hk hv _
  · have hlt : i < n := by rw [nI_leI (by omega) (by omega)] at h38; omega
    refine px_iconst dX11_digest_41 ic_0 ?_
    refine px_si_2 dX11_digest_42 rfl ?_
    exact l_md43 hc0 hlt (hh := dgG B g S.1 h0 i) (nx hlt) m hk hv

theorem mrc_m {M m : xMem} (hk : rS M m) : rcN (fun r => m.1 76 r) 6 = rcN (fun r => M.1 76 r) 6 ∧ rcN (fun r => m.1 79 r) 4 = rcN (fun r => M.1 79 r) 4 := ⟨rcN_c 6 (fun i _ => by rw [hk.2.2.1 76 (by decide) (by decide) (by decide)]), rcN_c 4 (fun i _ => by rw [hk.2.2.1 79 (by decide) (by decide) (by decide)])⟩

set_option maxRecDepth 100000 in
theorem l_md9 {E : xE} {M : xMem} {n W H B dd : Nat} {g : Nat → Nat → Nat} {S : gLay × Nat} {P : Nat → gLay × Nat} (hc : rHy M n W H B g dd S P) (hz : mszOK M) {K : Nat → aKep} (hK : kpM M K) : ∀ m, rS M m → m.2.2.1 74 44 = dgF (fun w => aCnt n W H B (aA B g) (aD B g) S dd (rcN (fun r => M.1 76 r) 6) (rcN (fun r => M.1 79 r) 4) (kcN K 3) (nI w)) 17 0 → ∀ l2, PR E mX11_digest (xN M) 9 [some (.ref 74), some (.int (nI 0)), l2] [] (m) (fun r m => r = some (.long (dgN (fun r => M.1 79 r) (fun r i => M.1 80 (120 * r + i)) (dgN (fun r => M.1 76 r) (fun r i => M.1 77 (40 * r + i)) (dgF (fun k => kV (K k)) (dgG B g S.1 (dgF (fun w => aCnt n W H B (aA B g) (aD B g) S dd (rcN (fun r => M.1 76 r) 6) (rcN (fun r => M.1 79 r) 4) (kcN K 3) (nI w)) 17 14) n) 3) 6) 4)) ∧ rS M m) := by
  have hc0 := hc
  obtain ⟨hM, hW, hsh, hok, hst, hly, hru⟩ := hc
  have h8 : n ≤ 8 := hok.1
  have hb : lyB S.1 := (hsh.s hok).b hly
  have hl : lyM (M.1 83) S.1 := lyM_c hst.2.2.1.1 (fun k _ => by rw [Nat.zero_add])
  have hpg := pgL_le hb 8
  refine px_for (P := fun i => ∀ m, rS M m → m.2.2.1 74 44 = dgF (fun w => aCnt n W H B (aA B g) (aD B g) S dd (rcN (fun r => M.1 76 r) 6) (rcN (fun r => M.1 79 r) 4) (kcN K 3) (nI w)) 17 i → ∀ l2, PR E mX11_digest (xN M) 9 [some (.ref 74), some (.int (nI i)), l2] [] (m) (fun r m => r = some (.long (dgN (fun r => M.1 79 r) (fun r i => M.1 80 (120 * r + i)) (dgN (fun r => M.1 76 r) (fun r i => M.1 77 (40 * r + i)) (dgF (fun k => kV (K k)) (dgG B g S.1 (dgF (fun w => aCnt n W H B (aA B g) (aD B g) S dd (rcN (fun r => M.1 76 r) 6) (rcN (fun r => M.1 79 r) 4) (kcN K 3) (nI w)) 17 14) n) 3) 6) 4)) ∧ rS M m)) (14) (fun i hi nx => ?_) (0) (Nat.zero_le _)
  intro m hk hv l2
  have hm : xNT ≤ xN m := by rw [hk.m]; exact hM
  have hw : xWire m.2.1 := by rw [hk.1]; exact hW
  refine px_iload_n dX11_digest_9 rfl rfl ?_
  refine px_bipush dX11_digest_10 bp_14 ?_
  refine px_icmp_ge 31 dX11_digest_12 rfl (fun h12 => ?_) (fun h12 => ?_)
  · have hi2 : i = 14 := by rw [show (14 : Int32) = nI 14 from rfl, nI_leI (by omega) (by omega)] at h12; omega
    subst hi2
    refine px_iconst dX11_digest_31 ic_0 ?_
    refine px_si_1 dX11_digest_32 rfl ?_
    exact l_md33 hc0 hz hK m hk hv _
  · have hlt : i < 14 := by rw [show (14 : Int32) = nI 14 from rfl, nI_leI (by omega) (by omega)] at h12; omega
    refine px_aload_n dX11_digest_15 rfl rfl ?_
    refine px_aload_n dX11_digest_16 rfl rfl ?_
    refine px_iload_n dX11_digest_17 rfl rfl ?_
    refine px_gV1 dX11_digest_18 kX11_digest_352 (xol rfl) hm (Nat.le_of_ble_eq_true rfl) (c_X11_counted (rShy hk hc0) (rSkp hk hK) (rSsz hk hz) (v := nI i) ⟨nI_le (a := 0) (by omega) (by omega), nI_le (b := 13) (by omega) (by decide)⟩) (fun r18 M18 hq18 hn18 => ?_)
    obtain ⟨rfl, q1⟩ := hq18
    rw [(mrc_m hk).1, (mrc_m hk).2]
    have hm5 : xNT ≤ xN M18 := by rw [hn18]; exact hm
    refine px_i2l dX11_digest_21 ?_
    refine px_fV1v dX11_digest_22 kX11_digest_363 (xol rfl) hm5 (Nat.le_of_ble_eq_true rfl) (c_X11_adds hm5) ?_
    refine px_inc_1 dX11_digest_25 rfl ic_1 ?_
    refine px_goto 9 dX11_digest_28 rfl ?_
    exact px_eq (by rw [nI_1]) rfl (nx hlt _ (rSwL (hk.tr q1.r) _) (by show 31 * M18.2.2.1 74 44 + _ = _; rw [q1.1, hv]; rfl) _)

set_option maxRecDepth 100000 in
theorem c_X11_digest {E : xE} {M : xMem} {n W H B dd : Nat} {g : Nat → Nat → Nat} {S : gLay × Nat} {P : Nat → gLay × Nat} (hc : rHy M n W H B g dd S P) (hz : mszOK M) {K : Nat → aKep} (hK : kpM M K) : Ct E mX11_digest [.ref 74] M (xN M) (fun r m => r = some (.long (dgN (fun r => M.1 79 r) (fun r i => M.1 80 (120 * r + i)) (dgN (fun r => M.1 76 r) (fun r i => M.1 77 (40 * r + i)) (dgF (fun k => kV (K k)) (dgG B g S.1 (dgF (fun w => aCnt n W H B (aA B g) (aD B g) S dd (rcN (fun r => M.1 76 r) 6) (rcN (fun r => M.1 79 r) 4) (kcN K 3) (nI w)) 17 14) n) 3) 6) 4)) ∧ rS M m) := by
  refine Ct.of (lo := [some (.ref 74), none, none]) pln_X11 (Nat.le_of_ble_eq_true rfl) rfl (Nat.le_refl _) ?_
  refine px_aload_n dX11_digest_0 rfl rfl ?_
  refine px_ldc2 dX11_digest_1 xw1548 ?_
  refine px_putL dX11_digest_4 fX11_357 p11_44 (xol rfl) hc.1 rfl ?_
  refine px_iconst dX11_digest_7 ic_0 ?_
  refine px_si_1 dX11_digest_8 rfl ?_
  exact l_md9 hc hz hK _ (rSwL (rS.rf M) _) rfl _
