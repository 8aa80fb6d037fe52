/-! ===== the law ===== -/
theorem lw_in {k j L : Nat} {c : Int32} (hc : c = nI j) (hL : L ≤ 3072) (h : 6 * k + j < L) : vp_in (nI (6 * k) + c) L := by
  rw [hc, nI_add]
  exact vp_in_nI h (by omega)
theorem lg_self (x : Int64) : lg_cmp x x = 0 := by
  unfold lg_cmp
  rw [if_neg (by simp only [gt_iff_lt, Int64.lt_iff_toInt_lt]; omega), if_pos rfl]
set_option maxRecDepth 100000 in
theorem lw_c0 {E : xE} {M : xMem} {k : Nat} (h : InvJ M) (hn : xN M = 93) (hL : E.L ≤ 3072) (hk : 6 * k + 6 ≤ E.L) (K : ∀ M2, InvJ M2 → xN M2 = 93 → PR E mL_law 93 1147 [some (.ref 0), some (.ref 1), some (.ref 74), some (.int (nI (6 * k)))] [] M2 (fun r _ => r = some (.int 1))) : PR E mL_law 93 184 [some (.ref 0), some (.ref 1), some (.ref 74), some (.int (nI (6 * k)))] [] M (fun r _ => r = some (.int 1)) := by
  have hM : xNT ≤ xN M := by rw [hn]; decide
  have hi1 : vp_in (nI (6 * k) + 1) E.L := lw_in (j := 1) rfl hL (by omega)
  have hi2 : vp_in (nI (6 * k) + 2) E.L := lw_in (j := 2) rfl hL (by omega)
  have hi3 : vp_in (nI (6 * k) + 3) E.L := lw_in (j := 3) rfl hL (by omega)
  have hi4 : vp_in (nI (6 * k) + 4) E.L := lw_in (j := 4) rfl hL (by omega)
  have hi5 : vp_in (nI (6 * k) + 5) E.L := lw_in (j := 5) rfl hL (by omega)
  refine px_aload_n dL_law_184 rfl rfl ?_
  refine px_aload_n dL_law_185 rfl rfl ?_
  refine px_iload_n dL_law_186 rfl rfl ?_
  refine px_iconst dL_law_187 ic_1 ?_
  refine px_iadd dL_law_188 ?_
  refine px_sld dL_law_189 hi1 ?_
  refine px_aload_n dL_law_190 rfl rfl ?_
  refine px_iload_n dL_law_191 rfl rfl ?_
  refine px_iconst dL_law_192 ic_2 ?_
  refine px_iadd dL_law_193 ?_
  refine px_sld dL_law_194 hi2 ?_
  refine px_gV2 dL_law_195 kL_law_13 (xol rfl) hM (Nat.le_of_ble_eq_true rfl) (st_row h _ _) (fun r1 M1 hq1 hn1 => ?_)
  obtain ⟨w, rfl, h2⟩ := hq1
  have hM1 : xNT ≤ xN M1 := by rw [hn1]; exact hM
  refine px_aload_n dL_law_198 rfl rfl ?_
  refine px_aload_n dL_law_199 rfl rfl ?_
  refine px_iload_n dL_law_200 rfl rfl ?_
  refine px_iconst dL_law_201 ic_1 ?_
  refine px_iadd dL_law_202 ?_
  refine px_sld dL_law_203 hi1 ?_
  refine px_aload_n dL_law_204 rfl rfl ?_
  refine px_iload_n dL_law_205 rfl rfl ?_
  refine px_iconst dL_law_206 ic_2 ?_
  refine px_iadd dL_law_207 ?_
  refine px_sld dL_law_208 hi2 ?_
  refine px_gV2 dL_law_209 kL_law_17 (xol rfl) hM1 (Nat.le_of_ble_eq_true rfl) h2 (fun r2 M2 hq2 hn2 => ?_)
  obtain ⟨rfl, hI⟩ := hq2
  exact px_icmp_eq 1147 dL_law_212 rfl (fun _ => K M2 hI (by rw [hn2, hn1]; exact hn)) (fun z => absurd rfl z)
set_option maxRecDepth 100000 in
theorem lw_c1 {E : xE} {M : xMem} {k : Nat} (h : InvJ M) (hn : xN M = 93) (hL : E.L ≤ 3072) (hk : 6 * k + 6 ≤ E.L) (K : ∀ M2, InvJ M2 → xN M2 = 93 → PR E mL_law 93 1147 [some (.ref 0), some (.ref 1), some (.ref 74), some (.int (nI (6 * k)))] [] M2 (fun r _ => r = some (.int 1))) : PR E mL_law 93 217 [some (.ref 0), some (.ref 1), some (.ref 74), some (.int (nI (6 * k)))] [] M (fun r _ => r = some (.int 1)) := by
  have hM : xNT ≤ xN M := by rw [hn]; decide
  have hi1 : vp_in (nI (6 * k) + 1) E.L := lw_in (j := 1) rfl hL (by omega)
  have hi2 : vp_in (nI (6 * k) + 2) E.L := lw_in (j := 2) rfl hL (by omega)
  have hi3 : vp_in (nI (6 * k) + 3) E.L := lw_in (j := 3) rfl hL (by omega)
  have hi4 : vp_in (nI (6 * k) + 4) E.L := lw_in (j := 4) rfl hL (by omega)
  have hi5 : vp_in (nI (6 * k) + 5) E.L := lw_in (j := 5) rfl hL (by omega)
  refine px_aload_n dL_law_217 rfl rfl ?_
  refine px_aload_n dL_law_218 rfl rfl ?_
  refine px_iload_n dL_law_219 rfl rfl ?_
  refine px_iconst dL_law_220 ic_1 ?_
  refine px_iadd dL_law_221 ?_
  refine px_sld dL_law_222 hi1 ?_
  refine px_aload_n dL_law_223 rfl rfl ?_
  refine px_iload_n dL_law_224 rfl rfl ?_
  refine px_iconst dL_law_225 ic_2 ?_
  refine px_iadd dL_law_226 ?_
  refine px_sld dL_law_227 hi2 ?_
  refine px_aload_n dL_law_228 rfl rfl ?_
  refine px_iload_n dL_law_229 rfl rfl ?_
  refine px_iconst dL_law_230 ic_3 ?_
  refine px_iadd dL_law_231 ?_
  refine px_sld dL_law_232 hi3 ?_
  refine px_gV3 dL_law_233 kL_law_18 (xol rfl) hM (Nat.le_of_ble_eq_true rfl) (st_lay h _ _ _) (fun r1 M1 hq1 hn1 => ?_)
  obtain ⟨w, rfl, h2⟩ := hq1
  have hM1 : xNT ≤ xN M1 := by rw [hn1]; exact hM
  refine px_aload_n dL_law_236 rfl rfl ?_
  refine px_aload_n dL_law_237 rfl rfl ?_
  refine px_iload_n dL_law_238 rfl rfl ?_
  refine px_iconst dL_law_239 ic_1 ?_
  refine px_iadd dL_law_240 ?_
  refine px_sld dL_law_241 hi1 ?_
  refine px_aload_n dL_law_242 rfl rfl ?_
  refine px_iload_n dL_law_243 rfl rfl ?_
  refine px_iconst dL_law_244 ic_2 ?_
  refine px_iadd dL_law_245 ?_
  refine px_sld dL_law_246 hi2 ?_
  refine px_aload_n dL_law_247 rfl rfl ?_
  refine px_iload_n dL_law_248 rfl rfl ?_
  refine px_iconst dL_law_249 ic_3 ?_
  refine px_iadd dL_law_250 ?_
  refine px_sld dL_law_251 hi3 ?_
  refine px_gV3 dL_law_252 kL_law_22 (xol rfl) hM1 (Nat.le_of_ble_eq_true rfl) h2 (fun r2 M2 hq2 hn2 => ?_)
  obtain ⟨rfl, hI⟩ := hq2
  exact px_icmp_eq 1147 dL_law_255 rfl (fun _ => K M2 hI (by rw [hn2, hn1]; exact hn)) (fun z => absurd rfl z)
set_option maxRecDepth 100000 in
theorem lw_c2 {E : xE} {M : xMem} {k : Nat} (h : InvJ M) (hn : xN M = 93) (hL : E.L ≤ 3072) (hk : 6 * k + 6 ≤ E.L) (K : ∀ M2, InvJ M2 → xN M2 = 93 → PR E mL_law 93 1147 [some (.ref 0), some (.ref 1), some (.ref 74), some (.int (nI (6 * k)))] [] M2 (fun r _ => r = some (.int 1))) : PR E mL_law 93 260 [some (.ref 0), some (.ref 1), some (.ref 74), some (.int (nI (6 * k)))] [] M (fun r _ => r = some (.int 1)) := by
  have hM : xNT ≤ xN M := by rw [hn]; decide
  have hi1 : vp_in (nI (6 * k) + 1) E.L := lw_in (j := 1) rfl hL (by omega)
  have hi2 : vp_in (nI (6 * k) + 2) E.L := lw_in (j := 2) rfl hL (by omega)
  have hi3 : vp_in (nI (6 * k) + 3) E.L := lw_in (j := 3) rfl hL (by omega)
  have hi4 : vp_in (nI (6 * k) + 4) E.L := lw_in (j := 4) rfl hL (by omega)
  have hi5 : vp_in (nI (6 * k) + 5) E.L := lw_in (j := 5) rfl hL (by omega)
  refine px_aload_n dL_law_260 rfl rfl ?_
  refine px_aload_n dL_law_261 rfl rfl ?_
  refine px_iload_n dL_law_262 rfl rfl ?_
  refine px_iconst dL_law_263 ic_1 ?_
  refine px_iadd dL_law_264 ?_
  refine px_sld dL_law_265 hi1 ?_
  refine px_aload_n dL_law_266 rfl rfl ?_
  refine px_iload_n dL_law_267 rfl rfl ?_
  refine px_iconst dL_law_268 ic_2 ?_
  refine px_iadd dL_law_269 ?_
  refine px_sld dL_law_270 hi2 ?_
  refine px_gV2 dL_law_271 kL_law_23 (xol rfl) hM (Nat.le_of_ble_eq_true rfl) (st_at h _ _) (fun r1 M1 hq1 hn1 => ?_)
  obtain ⟨w, rfl, h2⟩ := hq1
  have hM1 : xNT ≤ xN M1 := by rw [hn1]; exact hM
  refine px_aload_n dL_law_274 rfl rfl ?_
  refine px_aload_n dL_law_275 rfl rfl ?_
  refine px_iload_n dL_law_276 rfl rfl ?_
  refine px_iconst dL_law_277 ic_1 ?_
  refine px_iadd dL_law_278 ?_
  refine px_sld dL_law_279 hi1 ?_
  refine px_aload_n dL_law_280 rfl rfl ?_
  refine px_iload_n dL_law_281 rfl rfl ?_
  refine px_iconst dL_law_282 ic_2 ?_
  refine px_iadd dL_law_283 ?_
  refine px_sld dL_law_284 hi2 ?_
  refine px_gV2 dL_law_285 kL_law_26 (xol rfl) hM1 (Nat.le_of_ble_eq_true rfl) h2 (fun r2 M2 hq2 hn2 => ?_)
  obtain ⟨rfl, hI⟩ := hq2
  exact px_icmp_eq 1147 dL_law_288 rfl (fun _ => K M2 hI (by rw [hn2, hn1]; exact hn)) (fun z => absurd rfl z)
set_option maxRecDepth 100000 in
theorem lw_c3 {E : xE} {M : xMem} {k : Nat} (h : InvJ M) (hn : xN M = 93) (hL : E.L ≤ 3072) (hk : 6 * k + 6 ≤ E.L) (K : ∀ M2, InvJ M2 → xN M2 = 93 → PR E mL_law 93 1147 [some (.ref 0), some (.ref 1), some (.ref 74), some (.int (nI (6 * k)))] [] M2 (fun r _ => r = some (.int 1))) : PR E mL_law 93 293 [some (.ref 0), some (.ref 1), some (.ref 74), some (.int (nI (6 * k)))] [] M (fun r _ => r = some (.int 1)) := by
  have hM : xNT ≤ xN M := by rw [hn]; decide
  have hi1 : vp_in (nI (6 * k) + 1) E.L := lw_in (j := 1) rfl hL (by omega)
  have hi2 : vp_in (nI (6 * k) + 2) E.L := lw_in (j := 2) rfl hL (by omega)
  have hi3 : vp_in (nI (6 * k) + 3) E.L := lw_in (j := 3) rfl hL (by omega)
  have hi4 : vp_in (nI (6 * k) + 4) E.L := lw_in (j := 4) rfl hL (by omega)
  have hi5 : vp_in (nI (6 * k) + 5) E.L := lw_in (j := 5) rfl hL (by omega)
  refine px_aload_n dL_law_293 rfl rfl ?_
  refine px_aload_n dL_law_294 rfl rfl ?_
  refine px_iload_n dL_law_295 rfl rfl ?_
  refine px_iconst dL_law_296 ic_1 ?_
  refine px_iadd dL_law_297 ?_
  refine px_sld dL_law_298 hi1 ?_
  refine px_gV1 dL_law_299 kL_law_27 (xol rfl) hM (Nat.le_of_ble_eq_true rfl) (st_tear h _) (fun r1 M1 hq1 hn1 => ?_)
  obtain ⟨w, rfl, h2⟩ := hq1
  have hM1 : xNT ≤ xN M1 := by rw [hn1]; exact hM
  refine px_aload_n dL_law_302 rfl rfl ?_
  refine px_aload_n dL_law_303 rfl rfl ?_
  refine px_iload_n dL_law_304 rfl rfl ?_
  refine px_iconst dL_law_305 ic_1 ?_
  refine px_iadd dL_law_306 ?_
  refine px_sld dL_law_307 hi1 ?_
  refine px_gV1 dL_law_308 kL_law_31 (xol rfl) hM1 (Nat.le_of_ble_eq_true rfl) h2 (fun r2 M2 hq2 hn2 => ?_)
  obtain ⟨rfl, hI⟩ := hq2
  exact px_icmp_eq 1147 dL_law_311 rfl (fun _ => K M2 hI (by rw [hn2, hn1]; exact hn)) (fun z => absurd rfl z)
set_option maxRecDepth 100000 in
theorem lw_c4 {E : xE} {M : xMem} {k : Nat} (h : InvJ M) (hn : xN M = 93) (hL : E.L ≤ 3072) (hk : 6 * k + 6 ≤ E.L) (K : ∀ M2, InvJ M2 → xN M2 = 93 → PR E mL_law 93 1147 [some (.ref 0), some (.ref 1), some (.ref 74), some (.int (nI (6 * k)))] [] M2 (fun r _ => r = some (.int 1))) : PR E mL_law 93 316 [some (.ref 0), some (.ref 1), some (.ref 74), some (.int (nI (6 * k)))] [] M (fun r _ => r = some (.int 1)) := by
  have hM : xNT ≤ xN M := by rw [hn]; decide
  have hi1 : vp_in (nI (6 * k) + 1) E.L := lw_in (j := 1) rfl hL (by omega)
  have hi2 : vp_in (nI (6 * k) + 2) E.L := lw_in (j := 2) rfl hL (by omega)
  have hi3 : vp_in (nI (6 * k) + 3) E.L := lw_in (j := 3) rfl hL (by omega)
  have hi4 : vp_in (nI (6 * k) + 4) E.L := lw_in (j := 4) rfl hL (by omega)
  have hi5 : vp_in (nI (6 * k) + 5) E.L := lw_in (j := 5) rfl hL (by omega)
  refine px_aload_n dL_law_316 rfl rfl ?_
  refine px_aload_n dL_law_317 rfl rfl ?_
  refine px_iload_n dL_law_318 rfl rfl ?_
  refine px_iconst dL_law_319 ic_1 ?_
  refine px_iadd dL_law_320 ?_
  refine px_sld dL_law_321 hi1 ?_
  refine px_aload_n dL_law_322 rfl rfl ?_
  refine px_iload_n dL_law_323 rfl rfl ?_
  refine px_iconst dL_law_324 ic_2 ?_
  refine px_iadd dL_law_325 ?_
  refine px_sld dL_law_326 hi2 ?_
  refine px_aload_n dL_law_327 rfl rfl ?_
  refine px_iload_n dL_law_328 rfl rfl ?_
  refine px_iconst dL_law_329 ic_3 ?_
  refine px_iadd dL_law_330 ?_
  refine px_sld dL_law_331 hi3 ?_
  refine px_aload_n dL_law_332 rfl rfl ?_
  refine px_iload_n dL_law_333 rfl rfl ?_
  refine px_iconst dL_law_334 ic_4 ?_
  refine px_iadd dL_law_335 ?_
  refine px_sld dL_law_336 hi4 ?_
  refine px_aload_n dL_law_337 rfl rfl ?_
  refine px_iload_n dL_law_338 rfl rfl ?_
  refine px_iconst dL_law_339 ic_5 ?_
  refine px_iadd dL_law_340 ?_
  refine px_sld dL_law_341 hi5 ?_
  refine px_gV5 dL_law_342 kL_law_32 (xol rfl) hM (Nat.le_of_ble_eq_true rfl) (st_copy h _ _ _ _ _) (fun r1 M1 hq1 hn1 => ?_)
  obtain ⟨w, rfl, h2⟩ := hq1
  have hM1 : xNT ≤ xN M1 := by rw [hn1]; exact hM
  refine px_aload_n dL_law_345 rfl rfl ?_
  refine px_aload_n dL_law_346 rfl rfl ?_
  refine px_iload_n dL_law_347 rfl rfl ?_
  refine px_iconst dL_law_348 ic_1 ?_
  refine px_iadd dL_law_349 ?_
  refine px_sld dL_law_350 hi1 ?_
  refine px_aload_n dL_law_351 rfl rfl ?_
  refine px_iload_n dL_law_352 rfl rfl ?_
  refine px_iconst dL_law_353 ic_2 ?_
  refine px_iadd dL_law_354 ?_
  refine px_sld dL_law_355 hi2 ?_
  refine px_aload_n dL_law_356 rfl rfl ?_
  refine px_iload_n dL_law_357 rfl rfl ?_
  refine px_iconst dL_law_358 ic_3 ?_
  refine px_iadd dL_law_359 ?_
  refine px_sld dL_law_360 hi3 ?_
  refine px_aload_n dL_law_361 rfl rfl ?_
  refine px_iload_n dL_law_362 rfl rfl ?_
  refine px_iconst dL_law_363 ic_4 ?_
  refine px_iadd dL_law_364 ?_
  refine px_sld dL_law_365 hi4 ?_
  refine px_aload_n dL_law_366 rfl rfl ?_
  refine px_iload_n dL_law_367 rfl rfl ?_
  refine px_iconst dL_law_368 ic_5 ?_
  refine px_iadd dL_law_369 ?_
  refine px_sld dL_law_370 hi5 ?_
  refine px_gV5 dL_law_371 kL_law_36 (xol rfl) hM1 (Nat.le_of_ble_eq_true rfl) h2 (fun r2 M2 hq2 hn2 => ?_)
  obtain ⟨rfl, hI⟩ := hq2
  exact px_icmp_eq 1147 dL_law_374 rfl (fun _ => K M2 hI (by rw [hn2, hn1]; exact hn)) (fun z => absurd rfl z)
set_option maxRecDepth 100000 in
theorem lw_c5 {E : xE} {M : xMem} {k : Nat} (h : InvJ M) (hn : xN M = 93) (hL : E.L ≤ 3072) (hk : 6 * k + 6 ≤ E.L) (K : ∀ M2, InvJ M2 → xN M2 = 93 → PR E mL_law 93 1147 [some (.ref 0), some (.ref 1), some (.ref 74), some (.int (nI (6 * k)))] [] M2 (fun r _ => r = some (.int 1))) : PR E mL_law 93 379 [some (.ref 0), some (.ref 1), some (.ref 74), some (.int (nI (6 * k)))] [] M (fun r _ => r = some (.int 1)) := by
  have hM : xNT ≤ xN M := by rw [hn]; decide
  have hi1 : vp_in (nI (6 * k) + 1) E.L := lw_in (j := 1) rfl hL (by omega)
  have hi2 : vp_in (nI (6 * k) + 2) E.L := lw_in (j := 2) rfl hL (by omega)
  have hi3 : vp_in (nI (6 * k) + 3) E.L := lw_in (j := 3) rfl hL (by omega)
  have hi4 : vp_in (nI (6 * k) + 4) E.L := lw_in (j := 4) rfl hL (by omega)
  have hi5 : vp_in (nI (6 * k) + 5) E.L := lw_in (j := 5) rfl hL (by omega)
  refine px_aload_n dL_law_379 rfl rfl ?_
  refine px_aload_n dL_law_380 rfl rfl ?_
  refine px_iload_n dL_law_381 rfl rfl ?_
  refine px_iconst dL_law_382 ic_1 ?_
  refine px_iadd dL_law_383 ?_
  refine px_sld dL_law_384 hi1 ?_
  refine px_gV1 dL_law_385 kL_law_37 (xol rfl) hM (Nat.le_of_ble_eq_true rfl) (st_mean h _) (fun r1 M1 hq1 hn1 => ?_)
  obtain ⟨w, rfl, h2⟩ := hq1
  have hM1 : xNT ≤ xN M1 := by rw [hn1]; exact hM
  refine px_aload_n dL_law_388 rfl rfl ?_
  refine px_aload_n dL_law_389 rfl rfl ?_
  refine px_iload_n dL_law_390 rfl rfl ?_
  refine px_iconst dL_law_391 ic_1 ?_
  refine px_iadd dL_law_392 ?_
  refine px_sld dL_law_393 hi1 ?_
  refine px_gV1 dL_law_394 kL_law_40 (xol rfl) hM1 (Nat.le_of_ble_eq_true rfl) h2 (fun r2 M2 hq2 hn2 => ?_)
  obtain ⟨rfl, hI⟩ := hq2
  exact px_icmp_eq 1147 dL_law_397 rfl (fun _ => K M2 hI (by rw [hn2, hn1]; exact hn)) (fun z => absurd rfl z)
set_option maxRecDepth 100000 in
theorem lw_c6 {E : xE} {M : xMem} {k : Nat} (h : InvJ M) (hn : xN M = 93) (hL : E.L ≤ 3072) (hk : 6 * k + 6 ≤ E.L) (K : ∀ M2, InvJ M2 → xN M2 = 93 → PR E mL_law 93 1147 [some (.ref 0), some (.ref 1), some (.ref 74), some (.int (nI (6 * k)))] [] M2 (fun r _ => r = some (.int 1))) : PR E mL_law 93 402 [some (.ref 0), some (.ref 1), some (.ref 74), some (.int (nI (6 * k)))] [] M (fun r _ => r = some (.int 1)) := by
  have hM : xNT ≤ xN M := by rw [hn]; decide
  have hi1 : vp_in (nI (6 * k) + 1) E.L := lw_in (j := 1) rfl hL (by omega)
  have hi2 : vp_in (nI (6 * k) + 2) E.L := lw_in (j := 2) rfl hL (by omega)
  have hi3 : vp_in (nI (6 * k) + 3) E.L := lw_in (j := 3) rfl hL (by omega)
  have hi4 : vp_in (nI (6 * k) + 4) E.L := lw_in (j := 4) rfl hL (by omega)
  have hi5 : vp_in (nI (6 * k) + 5) E.L := lw_in (j := 5) rfl hL (by omega)
  refine px_aload_n dL_law_402 rfl rfl ?_
  refine px_aload_n dL_law_403 rfl rfl ?_
  refine px_iload_n dL_law_404 rfl rfl ?_
  refine px_iconst dL_law_405 ic_1 ?_
  refine px_iadd dL_law_406 ?_
  refine px_sld dL_law_407 hi1 ?_
  refine px_aload_n dL_law_408 rfl rfl ?_
  refine px_iload_n dL_law_409 rfl rfl ?_
  refine px_iconst dL_law_410 ic_2 ?_
  refine px_iadd dL_law_411 ?_
  refine px_sld dL_law_412 hi2 ?_
  refine px_gV2 dL_law_413 kL_law_41 (xol rfl) hM (Nat.le_of_ble_eq_true rfl) (st_text h _ _) (fun r1 M1 hq1 hn1 => ?_)
  obtain ⟨w, rfl, h2⟩ := hq1
  have hM1 : xNT ≤ xN M1 := by rw [hn1]; exact hM
  refine px_aload_n dL_law_416 rfl rfl ?_
  refine px_aload_n dL_law_417 rfl rfl ?_
  refine px_iload_n dL_law_418 rfl rfl ?_
  refine px_iconst dL_law_419 ic_1 ?_
  refine px_iadd dL_law_420 ?_
  refine px_sld dL_law_421 hi1 ?_
  refine px_aload_n dL_law_422 rfl rfl ?_
  refine px_iload_n dL_law_423 rfl rfl ?_
  refine px_iconst dL_law_424 ic_2 ?_
  refine px_iadd dL_law_425 ?_
  refine px_sld dL_law_426 hi2 ?_
  refine px_gV2 dL_law_427 kL_law_44 (xol rfl) hM1 (Nat.le_of_ble_eq_true rfl) h2 (fun r2 M2 hq2 hn2 => ?_)
  obtain ⟨rfl, hI⟩ := hq2
  exact px_icmp_eq 1147 dL_law_430 rfl (fun _ => K M2 hI (by rw [hn2, hn1]; exact hn)) (fun z => absurd rfl z)
set_option maxRecDepth 100000 in
theorem lw_c7 {E : xE} {M : xMem} {k : Nat} (h : InvJ M) (hn : xN M = 93) (hL : E.L ≤ 3072) (hk : 6 * k + 6 ≤ E.L) (K : ∀ M2, InvJ M2 → xN M2 = 93 → PR E mL_law 93 1147 [some (.ref 0), some (.ref 1), some (.ref 74), some (.int (nI (6 * k)))] [] M2 (fun r _ => r = some (.int 1))) : PR E mL_law 93 435 [some (.ref 0), some (.ref 1), some (.ref 74), some (.int (nI (6 * k)))] [] M (fun r _ => r = some (.int 1)) := by
  have hM : xNT ≤ xN M := by rw [hn]; decide
  have hi1 : vp_in (nI (6 * k) + 1) E.L := lw_in (j := 1) rfl hL (by omega)
  have hi2 : vp_in (nI (6 * k) + 2) E.L := lw_in (j := 2) rfl hL (by omega)
  have hi3 : vp_in (nI (6 * k) + 3) E.L := lw_in (j := 3) rfl hL (by omega)
  have hi4 : vp_in (nI (6 * k) + 4) E.L := lw_in (j := 4) rfl hL (by omega)
  have hi5 : vp_in (nI (6 * k) + 5) E.L := lw_in (j := 5) rfl hL (by omega)
  refine px_aload_n dL_law_435 rfl rfl ?_
  refine px_aload_n dL_law_436 rfl rfl ?_
  refine px_iload_n dL_law_437 rfl rfl ?_
  refine px_iconst dL_law_438 ic_1 ?_
  refine px_iadd dL_law_439 ?_
  refine px_sld dL_law_440 hi1 ?_
  refine px_aload_n dL_law_441 rfl rfl ?_
  refine px_iload_n dL_law_442 rfl rfl ?_
  refine px_iconst dL_law_443 ic_2 ?_
  refine px_iadd dL_law_444 ?_
  refine px_sld dL_law_445 hi2 ?_
  refine px_aload_n dL_law_446 rfl rfl ?_
  refine px_iload_n dL_law_447 rfl rfl ?_
  refine px_iconst dL_law_448 ic_3 ?_
  refine px_iadd dL_law_449 ?_
  refine px_sld dL_law_450 hi3 ?_
  refine px_gV3 dL_law_451 kL_law_45 (xol rfl) hM (Nat.le_of_ble_eq_true rfl) (st_put h _ _ _) (fun r1 M1 hq1 hn1 => ?_)
  obtain ⟨w, rfl, h2⟩ := hq1
  have hM1 : xNT ≤ xN M1 := by rw [hn1]; exact hM
  refine px_aload_n dL_law_454 rfl rfl ?_
  refine px_aload_n dL_law_455 rfl rfl ?_
  refine px_iload_n dL_law_456 rfl rfl ?_
  refine px_iconst dL_law_457 ic_1 ?_
  refine px_iadd dL_law_458 ?_
  refine px_sld dL_law_459 hi1 ?_
  refine px_aload_n dL_law_460 rfl rfl ?_
  refine px_iload_n dL_law_461 rfl rfl ?_
  refine px_iconst dL_law_462 ic_2 ?_
  refine px_iadd dL_law_463 ?_
  refine px_sld dL_law_464 hi2 ?_
  refine px_aload_n dL_law_465 rfl rfl ?_
  refine px_iload_n dL_law_466 rfl rfl ?_
  refine px_iconst dL_law_467 ic_3 ?_
  refine px_iadd dL_law_468 ?_
  refine px_sld dL_law_469 hi3 ?_
  refine px_gV3 dL_law_470 kL_law_48 (xol rfl) hM1 (Nat.le_of_ble_eq_true rfl) h2 (fun r2 M2 hq2 hn2 => ?_)
  obtain ⟨rfl, hI⟩ := hq2
  exact px_icmp_eq 1147 dL_law_473 rfl (fun _ => K M2 hI (by rw [hn2, hn1]; exact hn)) (fun z => absurd rfl z)
set_option maxRecDepth 100000 in
theorem lw_c8 {E : xE} {M : xMem} {k : Nat} (h : InvJ M) (hn : xN M = 93) (hL : E.L ≤ 3072) (hk : 6 * k + 6 ≤ E.L) (K : ∀ M2, InvJ M2 → xN M2 = 93 → PR E mL_law 93 1147 [some (.ref 0), some (.ref 1), some (.ref 74), some (.int (nI (6 * k)))] [] M2 (fun r _ => r = some (.int 1))) : PR E mL_law 93 478 [some (.ref 0), some (.ref 1), some (.ref 74), some (.int (nI (6 * k)))] [] M (fun r _ => r = some (.int 1)) := by
  have hM : xNT ≤ xN M := by rw [hn]; decide
  have hi1 : vp_in (nI (6 * k) + 1) E.L := lw_in (j := 1) rfl hL (by omega)
  have hi2 : vp_in (nI (6 * k) + 2) E.L := lw_in (j := 2) rfl hL (by omega)
  have hi3 : vp_in (nI (6 * k) + 3) E.L := lw_in (j := 3) rfl hL (by omega)
  have hi4 : vp_in (nI (6 * k) + 4) E.L := lw_in (j := 4) rfl hL (by omega)
  have hi5 : vp_in (nI (6 * k) + 5) E.L := lw_in (j := 5) rfl hL (by omega)
  refine px_aload_n dL_law_478 rfl rfl ?_
  refine px_aload_n dL_law_479 rfl rfl ?_
  refine px_iload_n dL_law_480 rfl rfl ?_
  refine px_iconst dL_law_481 ic_1 ?_
  refine px_iadd dL_law_482 ?_
  refine px_sld dL_law_483 hi1 ?_
  refine px_gV1 dL_law_484 kL_law_49 (xol rfl) hM (Nat.le_of_ble_eq_true rfl) (st_fault h _) (fun r1 M1 hq1 hn1 => ?_)
  obtain ⟨w, rfl, h2⟩ := hq1
  have hM1 : xNT ≤ xN M1 := by rw [hn1]; exact hM
  refine px_aload_n dL_law_487 rfl rfl ?_
  refine px_aload_n dL_law_488 rfl rfl ?_
  refine px_iload_n dL_law_489 rfl rfl ?_
  refine px_iconst dL_law_490 ic_1 ?_
  refine px_iadd dL_law_491 ?_
  refine px_sld dL_law_492 hi1 ?_
  refine px_gV1 dL_law_493 kL_law_52 (xol rfl) hM1 (Nat.le_of_ble_eq_true rfl) h2 (fun r2 M2 hq2 hn2 => ?_)
  obtain ⟨rfl, hI⟩ := hq2
  exact px_icmp_eq 1147 dL_law_496 rfl (fun _ => K M2 hI (by rw [hn2, hn1]; exact hn)) (fun z => absurd rfl z)
set_option maxRecDepth 100000 in
theorem lw_c9 {E : xE} {M : xMem} {k : Nat} (h : InvJ M) (hn : xN M = 93) (hL : E.L ≤ 3072) (hk : 6 * k + 6 ≤ E.L) (K : ∀ M2, InvJ M2 → xN M2 = 93 → PR E mL_law 93 1147 [some (.ref 0), some (.ref 1), some (.ref 74), some (.int (nI (6 * k)))] [] M2 (fun r _ => r = some (.int 1))) : PR E mL_law 93 501 [some (.ref 0), some (.ref 1), some (.ref 74), some (.int (nI (6 * k)))] [] M (fun r _ => r = some (.int 1)) := by
  have hM : xNT ≤ xN M := by rw [hn]; decide
  have hi1 : vp_in (nI (6 * k) + 1) E.L := lw_in (j := 1) rfl hL (by omega)
  have hi2 : vp_in (nI (6 * k) + 2) E.L := lw_in (j := 2) rfl hL (by omega)
  have hi3 : vp_in (nI (6 * k) + 3) E.L := lw_in (j := 3) rfl hL (by omega)
  have hi4 : vp_in (nI (6 * k) + 4) E.L := lw_in (j := 4) rfl hL (by omega)
  have hi5 : vp_in (nI (6 * k) + 5) E.L := lw_in (j := 5) rfl hL (by omega)
  refine px_aload_n dL_law_501 rfl rfl ?_
  refine px_aload_n dL_law_502 rfl rfl ?_
  refine px_iload_n dL_law_503 rfl rfl ?_
  refine px_iconst dL_law_504 ic_1 ?_
  refine px_iadd dL_law_505 ?_
  refine px_sld dL_law_506 hi1 ?_
  refine px_gV1 dL_law_507 kL_law_53 (xol rfl) hM (Nat.le_of_ble_eq_true rfl) (st_sheet h _) (fun r1 M1 hq1 hn1 => ?_)
  obtain ⟨w, rfl, h2⟩ := hq1
  have hM1 : xNT ≤ xN M1 := by rw [hn1]; exact hM
  refine px_aload_n dL_law_510 rfl rfl ?_
  refine px_aload_n dL_law_511 rfl rfl ?_
  refine px_iload_n dL_law_512 rfl rfl ?_
  refine px_iconst dL_law_513 ic_1 ?_
  refine px_iadd dL_law_514 ?_
  refine px_sld dL_law_515 hi1 ?_
  refine px_gV1 dL_law_516 kL_law_56 (xol rfl) hM1 (Nat.le_of_ble_eq_true rfl) h2 (fun r2 M2 hq2 hn2 => ?_)
  obtain ⟨rfl, hI⟩ := hq2
  exact px_icmp_eq 1147 dL_law_519 rfl (fun _ => K M2 hI (by rw [hn2, hn1]; exact hn)) (fun z => absurd rfl z)
set_option maxRecDepth 100000 in
theorem lw_c10 {E : xE} {M : xMem} {k : Nat} (h : InvJ M) (hn : xN M = 93) (hL : E.L ≤ 3072) (hk : 6 * k + 6 ≤ E.L) (K : ∀ M2, InvJ M2 → xN M2 = 93 → PR E mL_law 93 1147 [some (.ref 0), some (.ref 1), some (.ref 74), some (.int (nI (6 * k)))] [] M2 (fun r _ => r = some (.int 1))) : PR E mL_law 93 524 [some (.ref 0), some (.ref 1), some (.ref 74), some (.int (nI (6 * k)))] [] M (fun r _ => r = some (.int 1)) := by
  have hM : xNT ≤ xN M := by rw [hn]; decide
  have hi1 : vp_in (nI (6 * k) + 1) E.L := lw_in (j := 1) rfl hL (by omega)
  have hi2 : vp_in (nI (6 * k) + 2) E.L := lw_in (j := 2) rfl hL (by omega)
  have hi3 : vp_in (nI (6 * k) + 3) E.L := lw_in (j := 3) rfl hL (by omega)
  have hi4 : vp_in (nI (6 * k) + 4) E.L := lw_in (j := 4) rfl hL (by omega)
  have hi5 : vp_in (nI (6 * k) + 5) E.L := lw_in (j := 5) rfl hL (by omega)
  refine px_aload_n dL_law_524 rfl rfl ?_
  refine px_aload_n dL_law_525 rfl rfl ?_
  refine px_iload_n dL_law_526 rfl rfl ?_
  refine px_iconst dL_law_527 ic_1 ?_
  refine px_iadd dL_law_528 ?_
  refine px_sld dL_law_529 hi1 ?_
  refine px_gV1 dL_law_530 kL_law_57 (xol rfl) hM (Nat.le_of_ble_eq_true rfl) (st_write h _) (fun r1 M1 hq1 hn1 => ?_)
  obtain ⟨w, rfl, h2⟩ := hq1
  have hM1 : xNT ≤ xN M1 := by rw [hn1]; exact hM
  refine px_aload_n dL_law_533 rfl rfl ?_
  refine px_aload_n dL_law_534 rfl rfl ?_
  refine px_iload_n dL_law_535 rfl rfl ?_
  refine px_iconst dL_law_536 ic_1 ?_
  refine px_iadd dL_law_537 ?_
  refine px_sld dL_law_538 hi1 ?_
  refine px_gV1 dL_law_539 kL_law_60 (xol rfl) hM1 (Nat.le_of_ble_eq_true rfl) h2 (fun r2 M2 hq2 hn2 => ?_)
  obtain ⟨rfl, hI⟩ := hq2
  exact px_icmp_eq 1147 dL_law_542 rfl (fun _ => K M2 hI (by rw [hn2, hn1]; exact hn)) (fun z => absurd rfl z)
set_option maxRecDepth 100000 in
theorem lw_c11 {E : xE} {M : xMem} {k : Nat} (h : InvJ M) (hn : xN M = 93) (hL : E.L ≤ 3072) (hk : 6 * k + 6 ≤ E.L) (K : ∀ M2, InvJ M2 → xN M2 = 93 → PR E mL_law 93 1147 [some (.ref 0), some (.ref 1), some (.ref 74), some (.int (nI (6 * k)))] [] M2 (fun r _ => r = some (.int 1))) : PR E mL_law 93 547 [some (.ref 0), some (.ref 1), some (.ref 74), some (.int (nI (6 * k)))] [] M (fun r _ => r = some (.int 1)) := by
  have hM : xNT ≤ xN M := by rw [hn]; decide
  have hi1 : vp_in (nI (6 * k) + 1) E.L := lw_in (j := 1) rfl hL (by omega)
  have hi2 : vp_in (nI (6 * k) + 2) E.L := lw_in (j := 2) rfl hL (by omega)
  have hi3 : vp_in (nI (6 * k) + 3) E.L := lw_in (j := 3) rfl hL (by omega)
  have hi4 : vp_in (nI (6 * k) + 4) E.L := lw_in (j := 4) rfl hL (by omega)
  have hi5 : vp_in (nI (6 * k) + 5) E.L := lw_in (j := 5) rfl hL (by omega)
  refine px_aload_n dL_law_547 rfl rfl ?_
  refine px_aload_n dL_law_548 rfl rfl ?_
  refine px_iload_n dL_law_549 rfl rfl ?_
  refine px_iconst dL_law_550 ic_1 ?_
  refine px_iadd dL_law_551 ?_
  refine px_sld dL_law_552 hi1 ?_
  refine px_aload_n dL_law_553 rfl rfl ?_
  refine px_iload_n dL_law_554 rfl rfl ?_
  refine px_iconst dL_law_555 ic_2 ?_
  refine px_iadd dL_law_556 ?_
  refine px_sld dL_law_557 hi2 ?_
  refine px_gV2 dL_law_558 kL_law_61 (xol rfl) hM (Nat.le_of_ble_eq_true rfl) (st_frame h _ _) (fun r1 M1 hq1 hn1 => ?_)
  obtain ⟨w, rfl, h2⟩ := hq1
  have hM1 : xNT ≤ xN M1 := by rw [hn1]; exact hM
  refine px_aload_n dL_law_561 rfl rfl ?_
  refine px_aload_n dL_law_562 rfl rfl ?_
  refine px_iload_n dL_law_563 rfl rfl ?_
  refine px_iconst dL_law_564 ic_1 ?_
  refine px_iadd dL_law_565 ?_
  refine px_sld dL_law_566 hi1 ?_
  refine px_aload_n dL_law_567 rfl rfl ?_
  refine px_iload_n dL_law_568 rfl rfl ?_
  refine px_iconst dL_law_569 ic_2 ?_
  refine px_iadd dL_law_570 ?_
  refine px_sld dL_law_571 hi2 ?_
  refine px_gV2 dL_law_572 kL_law_64 (xol rfl) hM1 (Nat.le_of_ble_eq_true rfl) h2 (fun r2 M2 hq2 hn2 => ?_)
  obtain ⟨rfl, hI⟩ := hq2
  exact px_icmp_eq 1147 dL_law_575 rfl (fun _ => K M2 hI (by rw [hn2, hn1]; exact hn)) (fun z => absurd rfl z)
set_option maxRecDepth 100000 in
theorem lw_c12 {E : xE} {M : xMem} {k : Nat} (h : InvJ M) (hn : xN M = 93) (hL : E.L ≤ 3072) (hk : 6 * k + 6 ≤ E.L) (K : ∀ M2, InvJ M2 → xN M2 = 93 → PR E mL_law 93 1147 [some (.ref 0), some (.ref 1), some (.ref 74), some (.int (nI (6 * k)))] [] M2 (fun r _ => r = some (.int 1))) : PR E mL_law 93 580 [some (.ref 0), some (.ref 1), some (.ref 74), some (.int (nI (6 * k)))] [] M (fun r _ => r = some (.int 1)) := by
  have hM : xNT ≤ xN M := by rw [hn]; decide
  have hi1 : vp_in (nI (6 * k) + 1) E.L := lw_in (j := 1) rfl hL (by omega)
  have hi2 : vp_in (nI (6 * k) + 2) E.L := lw_in (j := 2) rfl hL (by omega)
  have hi3 : vp_in (nI (6 * k) + 3) E.L := lw_in (j := 3) rfl hL (by omega)
  have hi4 : vp_in (nI (6 * k) + 4) E.L := lw_in (j := 4) rfl hL (by omega)
  have hi5 : vp_in (nI (6 * k) + 5) E.L := lw_in (j := 5) rfl hL (by omega)
  refine px_aload_n dL_law_580 rfl rfl ?_
  refine px_aload_n dL_law_581 rfl rfl ?_
  refine px_iload_n dL_law_582 rfl rfl ?_
  refine px_iconst dL_law_583 ic_1 ?_
  refine px_iadd dL_law_584 ?_
  refine px_sld dL_law_585 hi1 ?_
  refine px_aload_n dL_law_586 rfl rfl ?_
  refine px_iload_n dL_law_587 rfl rfl ?_
  refine px_iconst dL_law_588 ic_2 ?_
  refine px_iadd dL_law_589 ?_
  refine px_sld dL_law_590 hi2 ?_
  refine px_gV2 dL_law_591 kL_law_65 (xol rfl) hM (Nat.le_of_ble_eq_true rfl) (st_place h _ _) (fun r1 M1 hq1 hn1 => ?_)
  obtain ⟨w, rfl, h2⟩ := hq1
  have hM1 : xNT ≤ xN M1 := by rw [hn1]; exact hM
  refine px_aload_n dL_law_594 rfl rfl ?_
  refine px_aload_n dL_law_595 rfl rfl ?_
  refine px_iload_n dL_law_596 rfl rfl ?_
  refine px_iconst dL_law_597 ic_1 ?_
  refine px_iadd dL_law_598 ?_
  refine px_sld dL_law_599 hi1 ?_
  refine px_aload_n dL_law_600 rfl rfl ?_
  refine px_iload_n dL_law_601 rfl rfl ?_
  refine px_iconst dL_law_602 ic_2 ?_
  refine px_iadd dL_law_603 ?_
  refine px_sld dL_law_604 hi2 ?_
  refine px_gV2 dL_law_605 kL_law_68 (xol rfl) hM1 (Nat.le_of_ble_eq_true rfl) h2 (fun r2 M2 hq2 hn2 => ?_)
  obtain ⟨rfl, hI⟩ := hq2
  exact px_icmp_eq 1147 dL_law_608 rfl (fun _ => K M2 hI (by rw [hn2, hn1]; exact hn)) (fun z => absurd rfl z)
set_option maxRecDepth 100000 in
theorem lw_c13 {E : xE} {M : xMem} {k : Nat} (h : InvJ M) (hn : xN M = 93) (hL : E.L ≤ 3072) (hk : 6 * k + 6 ≤ E.L) (K : ∀ M2, InvJ M2 → xN M2 = 93 → PR E mL_law 93 1147 [some (.ref 0), some (.ref 1), some (.ref 74), some (.int (nI (6 * k)))] [] M2 (fun r _ => r = some (.int 1))) : PR E mL_law 93 613 [some (.ref 0), some (.ref 1), some (.ref 74), some (.int (nI (6 * k)))] [] M (fun r _ => r = some (.int 1)) := by
  have hM : xNT ≤ xN M := by rw [hn]; decide
  have hi1 : vp_in (nI (6 * k) + 1) E.L := lw_in (j := 1) rfl hL (by omega)
  have hi2 : vp_in (nI (6 * k) + 2) E.L := lw_in (j := 2) rfl hL (by omega)
  have hi3 : vp_in (nI (6 * k) + 3) E.L := lw_in (j := 3) rfl hL (by omega)
  have hi4 : vp_in (nI (6 * k) + 4) E.L := lw_in (j := 4) rfl hL (by omega)
  have hi5 : vp_in (nI (6 * k) + 5) E.L := lw_in (j := 5) rfl hL (by omega)
  refine px_aload_n dL_law_613 rfl rfl ?_
  refine px_aload_n dL_law_614 rfl rfl ?_
  refine px_iload_n dL_law_615 rfl rfl ?_
  refine px_iconst dL_law_616 ic_1 ?_
  refine px_iadd dL_law_617 ?_
  refine px_sld dL_law_618 hi1 ?_
  refine px_aload_n dL_law_619 rfl rfl ?_
  refine px_iload_n dL_law_620 rfl rfl ?_
  refine px_iconst dL_law_621 ic_2 ?_
  refine px_iadd dL_law_622 ?_
  refine px_sld dL_law_623 hi2 ?_
  refine px_gV2 dL_law_624 kL_law_69 (xol rfl) hM (Nat.le_of_ble_eq_true rfl) (st_mark h _ _) (fun r1 M1 hq1 hn1 => ?_)
  obtain ⟨w, rfl, h2⟩ := hq1
  have hM1 : xNT ≤ xN M1 := by rw [hn1]; exact hM
  refine px_aload_n dL_law_627 rfl rfl ?_
  refine px_aload_n dL_law_628 rfl rfl ?_
  refine px_iload_n dL_law_629 rfl rfl ?_
  refine px_iconst dL_law_630 ic_1 ?_
  refine px_iadd dL_law_631 ?_
  refine px_sld dL_law_632 hi1 ?_
  refine px_aload_n dL_law_633 rfl rfl ?_
  refine px_iload_n dL_law_634 rfl rfl ?_
  refine px_iconst dL_law_635 ic_2 ?_
  refine px_iadd dL_law_636 ?_
  refine px_sld dL_law_637 hi2 ?_
  refine px_gV2 dL_law_638 kL_law_72 (xol rfl) hM1 (Nat.le_of_ble_eq_true rfl) h2 (fun r2 M2 hq2 hn2 => ?_)
  obtain ⟨rfl, hI⟩ := hq2
  exact px_icmp_eq 1147 dL_law_641 rfl (fun _ => K M2 hI (by rw [hn2, hn1]; exact hn)) (fun z => absurd rfl z)
set_option maxRecDepth 100000 in
theorem lw_c14 {E : xE} {M : xMem} {k : Nat} (h : InvJ M) (hn : xN M = 93) (hL : E.L ≤ 3072) (hk : 6 * k + 6 ≤ E.L) (K : ∀ M2, InvJ M2 → xN M2 = 93 → PR E mL_law 93 1147 [some (.ref 0), some (.ref 1), some (.ref 74), some (.int (nI (6 * k)))] [] M2 (fun r _ => r = some (.int 1))) : PR E mL_law 93 646 [some (.ref 0), some (.ref 1), some (.ref 74), some (.int (nI (6 * k)))] [] M (fun r _ => r = some (.int 1)) := by
  have hM : xNT ≤ xN M := by rw [hn]; decide
  have hi1 : vp_in (nI (6 * k) + 1) E.L := lw_in (j := 1) rfl hL (by omega)
  have hi2 : vp_in (nI (6 * k) + 2) E.L := lw_in (j := 2) rfl hL (by omega)
  have hi3 : vp_in (nI (6 * k) + 3) E.L := lw_in (j := 3) rfl hL (by omega)
  have hi4 : vp_in (nI (6 * k) + 4) E.L := lw_in (j := 4) rfl hL (by omega)
  have hi5 : vp_in (nI (6 * k) + 5) E.L := lw_in (j := 5) rfl hL (by omega)
  refine px_aload_n dL_law_646 rfl rfl ?_
  refine px_aload_n dL_law_647 rfl rfl ?_
  refine px_iload_n dL_law_648 rfl rfl ?_
  refine px_iconst dL_law_649 ic_1 ?_
  refine px_iadd dL_law_650 ?_
  refine px_sld dL_law_651 hi1 ?_
  refine px_gV1 dL_law_652 kL_law_73 (xol rfl) hM (Nat.le_of_ble_eq_true rfl) (st_set h _) (fun r1 M1 hq1 hn1 => ?_)
  obtain ⟨w, rfl, h2⟩ := hq1
  have hM1 : xNT ≤ xN M1 := by rw [hn1]; exact hM
  refine px_aload_n dL_law_655 rfl rfl ?_
  refine px_aload_n dL_law_656 rfl rfl ?_
  refine px_iload_n dL_law_657 rfl rfl ?_
  refine px_iconst dL_law_658 ic_1 ?_
  refine px_iadd dL_law_659 ?_
  refine px_sld dL_law_660 hi1 ?_
  refine px_gV1 dL_law_661 kL_law_76 (xol rfl) hM1 (Nat.le_of_ble_eq_true rfl) h2 (fun r2 M2 hq2 hn2 => ?_)
  obtain ⟨rfl, hI⟩ := hq2
  exact px_icmp_eq 1147 dL_law_664 rfl (fun _ => K M2 hI (by rw [hn2, hn1]; exact hn)) (fun z => absurd rfl z)
set_option maxRecDepth 100000 in
theorem lw_c15 {E : xE} {M : xMem} {k : Nat} (h : InvJ M) (hn : xN M = 93) (hL : E.L ≤ 3072) (hk : 6 * k + 6 ≤ E.L) (K : ∀ M2, InvJ M2 → xN M2 = 93 → PR E mL_law 93 1147 [some (.ref 0), some (.ref 1), some (.ref 74), some (.int (nI (6 * k)))] [] M2 (fun r _ => r = some (.int 1))) : PR E mL_law 93 669 [some (.ref 0), some (.ref 1), some (.ref 74), some (.int (nI (6 * k)))] [] M (fun r _ => r = some (.int 1)) := by
  have hM : xNT ≤ xN M := by rw [hn]; decide
  have hi1 : vp_in (nI (6 * k) + 1) E.L := lw_in (j := 1) rfl hL (by omega)
  have hi2 : vp_in (nI (6 * k) + 2) E.L := lw_in (j := 2) rfl hL (by omega)
  have hi3 : vp_in (nI (6 * k) + 3) E.L := lw_in (j := 3) rfl hL (by omega)
  have hi4 : vp_in (nI (6 * k) + 4) E.L := lw_in (j := 4) rfl hL (by omega)
  have hi5 : vp_in (nI (6 * k) + 5) E.L := lw_in (j := 5) rfl hL (by omega)
  refine px_aload_n dL_law_669 rfl rfl ?_
  refine px_aload_n dL_law_670 rfl rfl ?_
  refine px_iload_n dL_law_671 rfl rfl ?_
  refine px_iconst dL_law_672 ic_1 ?_
  refine px_iadd dL_law_673 ?_
  refine px_sld dL_law_674 hi1 ?_
  refine px_gV1 dL_law_675 kL_law_77 (xol rfl) hM (Nat.le_of_ble_eq_true rfl) (st_lift h _) (fun r1 M1 hq1 hn1 => ?_)
  obtain ⟨w, rfl, h2⟩ := hq1
  have hM1 : xNT ≤ xN M1 := by rw [hn1]; exact hM
  refine px_aload_n dL_law_678 rfl rfl ?_
  refine px_aload_n dL_law_679 rfl rfl ?_
  refine px_iload_n dL_law_680 rfl rfl ?_
  refine px_iconst dL_law_681 ic_1 ?_
  refine px_iadd dL_law_682 ?_
  refine px_sld dL_law_683 hi1 ?_
  refine px_gV1 dL_law_684 kL_law_80 (xol rfl) hM1 (Nat.le_of_ble_eq_true rfl) h2 (fun r2 M2 hq2 hn2 => ?_)
  obtain ⟨rfl, hI⟩ := hq2
  exact px_icmp_eq 1147 dL_law_687 rfl (fun _ => K M2 hI (by rw [hn2, hn1]; exact hn)) (fun z => absurd rfl z)
set_option maxRecDepth 100000 in
theorem lw_c16 {E : xE} {M : xMem} {k : Nat} (h : InvJ M) (hn : xN M = 93) (hL : E.L ≤ 3072) (hk : 6 * k + 6 ≤ E.L) (K : ∀ M2, InvJ M2 → xN M2 = 93 → PR E mL_law 93 1147 [some (.ref 0), some (.ref 1), some (.ref 74), some (.int (nI (6 * k)))] [] M2 (fun r _ => r = some (.int 1))) : PR E mL_law 93 692 [some (.ref 0), some (.ref 1), some (.ref 74), some (.int (nI (6 * k)))] [] M (fun r _ => r = some (.int 1)) := by
  have hM : xNT ≤ xN M := by rw [hn]; decide
  have hi1 : vp_in (nI (6 * k) + 1) E.L := lw_in (j := 1) rfl hL (by omega)
  have hi2 : vp_in (nI (6 * k) + 2) E.L := lw_in (j := 2) rfl hL (by omega)
  have hi3 : vp_in (nI (6 * k) + 3) E.L := lw_in (j := 3) rfl hL (by omega)
  have hi4 : vp_in (nI (6 * k) + 4) E.L := lw_in (j := 4) rfl hL (by omega)
  have hi5 : vp_in (nI (6 * k) + 5) E.L := lw_in (j := 5) rfl hL (by omega)
  refine px_aload_n dL_law_692 rfl rfl ?_
  refine px_aload_n dL_law_693 rfl rfl ?_
  refine px_iload_n dL_law_694 rfl rfl ?_
  refine px_iconst dL_law_695 ic_1 ?_
  refine px_iadd dL_law_696 ?_
  refine px_sld dL_law_697 hi1 ?_
  refine px_gV1 dL_law_698 kL_law_81 (xol rfl) hM (Nat.le_of_ble_eq_true rfl) (st_all h _) (fun r1 M1 hq1 hn1 => ?_)
  obtain ⟨w, rfl, h2⟩ := hq1
  have hM1 : xNT ≤ xN M1 := by rw [hn1]; exact hM
  refine px_aload_n dL_law_701 rfl rfl ?_
  refine px_aload_n dL_law_702 rfl rfl ?_
  refine px_iload_n dL_law_703 rfl rfl ?_
  refine px_iconst dL_law_704 ic_1 ?_
  refine px_iadd dL_law_705 ?_
  refine px_sld dL_law_706 hi1 ?_
  refine px_gV1 dL_law_707 kL_law_84 (xol rfl) hM1 (Nat.le_of_ble_eq_true rfl) h2 (fun r2 M2 hq2 hn2 => ?_)
  obtain ⟨rfl, hI⟩ := hq2
  exact px_icmp_eq 1147 dL_law_710 rfl (fun _ => K M2 hI (by rw [hn2, hn1]; exact hn)) (fun z => absurd rfl z)
set_option maxRecDepth 100000 in
theorem lw_c17 {E : xE} {M : xMem} {k : Nat} (h : InvJ M) (hn : xN M = 93) (hL : E.L ≤ 3072) (hk : 6 * k + 6 ≤ E.L) (K : ∀ M2, InvJ M2 → xN M2 = 93 → PR E mL_law 93 1147 [some (.ref 0), some (.ref 1), some (.ref 74), some (.int (nI (6 * k)))] [] M2 (fun r _ => r = some (.int 1))) : PR E mL_law 93 715 [some (.ref 0), some (.ref 1), some (.ref 74), some (.int (nI (6 * k)))] [] M (fun r _ => r = some (.int 1)) := by
  have hM : xNT ≤ xN M := by rw [hn]; decide
  have hi1 : vp_in (nI (6 * k) + 1) E.L := lw_in (j := 1) rfl hL (by omega)
  have hi2 : vp_in (nI (6 * k) + 2) E.L := lw_in (j := 2) rfl hL (by omega)
  have hi3 : vp_in (nI (6 * k) + 3) E.L := lw_in (j := 3) rfl hL (by omega)
  have hi4 : vp_in (nI (6 * k) + 4) E.L := lw_in (j := 4) rfl hL (by omega)
  have hi5 : vp_in (nI (6 * k) + 5) E.L := lw_in (j := 5) rfl hL (by omega)
  refine px_aload_n dL_law_715 rfl rfl ?_
  refine px_aload_n dL_law_716 rfl rfl ?_
  refine px_iload_n dL_law_717 rfl rfl ?_
  refine px_iconst dL_law_718 ic_1 ?_
  refine px_iadd dL_law_719 ?_
  refine px_sld dL_law_720 hi1 ?_
  refine px_gV1 dL_law_721 kL_law_85 (xol rfl) hM (Nat.le_of_ble_eq_true rfl) (st_rule h _) (fun r1 M1 hq1 hn1 => ?_)
  obtain ⟨w, rfl, h2⟩ := hq1
  have hM1 : xNT ≤ xN M1 := by rw [hn1]; exact hM
  refine px_aload_n dL_law_724 rfl rfl ?_
  refine px_aload_n dL_law_725 rfl rfl ?_
  refine px_iload_n dL_law_726 rfl rfl ?_
  refine px_iconst dL_law_727 ic_1 ?_
  refine px_iadd dL_law_728 ?_
  refine px_sld dL_law_729 hi1 ?_
  refine px_gV1 dL_law_730 kL_law_88 (xol rfl) hM1 (Nat.le_of_ble_eq_true rfl) h2 (fun r2 M2 hq2 hn2 => ?_)
  obtain ⟨rfl, hI⟩ := hq2
  exact px_icmp_eq 1147 dL_law_733 rfl (fun _ => K M2 hI (by rw [hn2, hn1]; exact hn)) (fun z => absurd rfl z)
set_option maxRecDepth 100000 in
theorem lw_c18 {E : xE} {M : xMem} {k : Nat} (h : InvJ M) (hn : xN M = 93) (hL : E.L ≤ 3072) (hk : 6 * k + 6 ≤ E.L) (K : ∀ M2, InvJ M2 → xN M2 = 93 → PR E mL_law 93 1147 [some (.ref 0), some (.ref 1), some (.ref 74), some (.int (nI (6 * k)))] [] M2 (fun r _ => r = some (.int 1))) : PR E mL_law 93 738 [some (.ref 0), some (.ref 1), some (.ref 74), some (.int (nI (6 * k)))] [] M (fun r _ => r = some (.int 1)) := by
  have hM : xNT ≤ xN M := by rw [hn]; decide
  have hi1 : vp_in (nI (6 * k) + 1) E.L := lw_in (j := 1) rfl hL (by omega)
  have hi2 : vp_in (nI (6 * k) + 2) E.L := lw_in (j := 2) rfl hL (by omega)
  have hi3 : vp_in (nI (6 * k) + 3) E.L := lw_in (j := 3) rfl hL (by omega)
  have hi4 : vp_in (nI (6 * k) + 4) E.L := lw_in (j := 4) rfl hL (by omega)
  have hi5 : vp_in (nI (6 * k) + 5) E.L := lw_in (j := 5) rfl hL (by omega)
  refine px_aload_n dL_law_738 rfl rfl ?_
  refine px_aload_n dL_law_739 rfl rfl ?_
  refine px_iload_n dL_law_740 rfl rfl ?_
  refine px_iconst dL_law_741 ic_1 ?_
  refine px_iadd dL_law_742 ?_
  refine px_sld dL_law_743 hi1 ?_
  refine px_gV1 dL_law_744 kL_law_89 (xol rfl) hM (Nat.le_of_ble_eq_true rfl) (st_undo h _) (fun r1 M1 hq1 hn1 => ?_)
  obtain ⟨w, rfl, h2⟩ := hq1
  have hM1 : xNT ≤ xN M1 := by rw [hn1]; exact hM
  refine px_aload_n dL_law_747 rfl rfl ?_
  refine px_aload_n dL_law_748 rfl rfl ?_
  refine px_iload_n dL_law_749 rfl rfl ?_
  refine px_iconst dL_law_750 ic_1 ?_
  refine px_iadd dL_law_751 ?_
  refine px_sld dL_law_752 hi1 ?_
  refine px_gV1 dL_law_753 kL_law_92 (xol rfl) hM1 (Nat.le_of_ble_eq_true rfl) h2 (fun r2 M2 hq2 hn2 => ?_)
  obtain ⟨rfl, hI⟩ := hq2
  exact px_icmp_eq 1147 dL_law_756 rfl (fun _ => K M2 hI (by rw [hn2, hn1]; exact hn)) (fun z => absurd rfl z)
set_option maxRecDepth 100000 in
theorem lw_c19 {E : xE} {M : xMem} {k : Nat} (h : InvJ M) (hn : xN M = 93) (hL : E.L ≤ 3072) (hk : 6 * k + 6 ≤ E.L) (K : ∀ M2, InvJ M2 → xN M2 = 93 → PR E mL_law 93 1147 [some (.ref 0), some (.ref 1), some (.ref 74), some (.int (nI (6 * k)))] [] M2 (fun r _ => r = some (.int 1))) : PR E mL_law 93 761 [some (.ref 0), some (.ref 1), some (.ref 74), some (.int (nI (6 * k)))] [] M (fun r _ => r = some (.int 1)) := by
  have hM : xNT ≤ xN M := by rw [hn]; decide
  have hi1 : vp_in (nI (6 * k) + 1) E.L := lw_in (j := 1) rfl hL (by omega)
  have hi2 : vp_in (nI (6 * k) + 2) E.L := lw_in (j := 2) rfl hL (by omega)
  have hi3 : vp_in (nI (6 * k) + 3) E.L := lw_in (j := 3) rfl hL (by omega)
  have hi4 : vp_in (nI (6 * k) + 4) E.L := lw_in (j := 4) rfl hL (by omega)
  have hi5 : vp_in (nI (6 * k) + 5) E.L := lw_in (j := 5) rfl hL (by omega)
  refine px_aload_n dL_law_761 rfl rfl ?_
  refine px_aload_n dL_law_762 rfl rfl ?_
  refine px_iload_n dL_law_763 rfl rfl ?_
  refine px_iconst dL_law_764 ic_1 ?_
  refine px_iadd dL_law_765 ?_
  refine px_sld dL_law_766 hi1 ?_
  refine px_gV1 dL_law_767 kL_law_93 (xol rfl) hM (Nat.le_of_ble_eq_true rfl) (st_keep h _) (fun r1 M1 hq1 hn1 => ?_)
  obtain ⟨w, rfl, h2⟩ := hq1
  have hM1 : xNT ≤ xN M1 := by rw [hn1]; exact hM
  refine px_aload_n dL_law_770 rfl rfl ?_
  refine px_aload_n dL_law_771 rfl rfl ?_
  refine px_iload_n dL_law_772 rfl rfl ?_
  refine px_iconst dL_law_773 ic_1 ?_
  refine px_iadd dL_law_774 ?_
  refine px_sld dL_law_775 hi1 ?_
  refine px_gV1 dL_law_776 kL_law_96 (xol rfl) hM1 (Nat.le_of_ble_eq_true rfl) h2 (fun r2 M2 hq2 hn2 => ?_)
  obtain ⟨rfl, hI⟩ := hq2
  exact px_icmp_eq 1147 dL_law_779 rfl (fun _ => K M2 hI (by rw [hn2, hn1]; exact hn)) (fun z => absurd rfl z)
set_option maxRecDepth 100000 in
theorem lw_c20 {E : xE} {M : xMem} {k : Nat} (h : InvJ M) (hn : xN M = 93) (hL : E.L ≤ 3072) (hk : 6 * k + 6 ≤ E.L) (K : ∀ M2, InvJ M2 → xN M2 = 93 → PR E mL_law 93 1147 [some (.ref 0), some (.ref 1), some (.ref 74), some (.int (nI (6 * k)))] [] M2 (fun r _ => r = some (.int 1))) : PR E mL_law 93 784 [some (.ref 0), some (.ref 1), some (.ref 74), some (.int (nI (6 * k)))] [] M (fun r _ => r = some (.int 1)) := by
  have hM : xNT ≤ xN M := by rw [hn]; decide
  have hi1 : vp_in (nI (6 * k) + 1) E.L := lw_in (j := 1) rfl hL (by omega)
  have hi2 : vp_in (nI (6 * k) + 2) E.L := lw_in (j := 2) rfl hL (by omega)
  have hi3 : vp_in (nI (6 * k) + 3) E.L := lw_in (j := 3) rfl hL (by omega)
  have hi4 : vp_in (nI (6 * k) + 4) E.L := lw_in (j := 4) rfl hL (by omega)
  have hi5 : vp_in (nI (6 * k) + 5) E.L := lw_in (j := 5) rfl hL (by omega)
  refine px_aload_n dL_law_784 rfl rfl ?_
  refine px_aload_n dL_law_785 rfl rfl ?_
  refine px_iload_n dL_law_786 rfl rfl ?_
  refine px_iconst dL_law_787 ic_1 ?_
  refine px_iadd dL_law_788 ?_
  refine px_sld dL_law_789 hi1 ?_
  refine px_gV1 dL_law_790 kL_law_97 (xol rfl) hM (Nat.le_of_ble_eq_true rfl) (st_on h _) (fun r1 M1 hq1 hn1 => ?_)
  obtain ⟨w, rfl, h2⟩ := hq1
  have hM1 : xNT ≤ xN M1 := by rw [hn1]; exact hM
  refine px_aload_n dL_law_793 rfl rfl ?_
  refine px_aload_n dL_law_794 rfl rfl ?_
  refine px_iload_n dL_law_795 rfl rfl ?_
  refine px_iconst dL_law_796 ic_1 ?_
  refine px_iadd dL_law_797 ?_
  refine px_sld dL_law_798 hi1 ?_
  refine px_gV1 dL_law_799 kL_law_100 (xol rfl) hM1 (Nat.le_of_ble_eq_true rfl) h2 (fun r2 M2 hq2 hn2 => ?_)
  obtain ⟨rfl, hI⟩ := hq2
  exact px_icmp_eq 1147 dL_law_802 rfl (fun _ => K M2 hI (by rw [hn2, hn1]; exact hn)) (fun z => absurd rfl z)
set_option maxRecDepth 100000 in
theorem lw_c21 {E : xE} {M : xMem} {k : Nat} (h : InvJ M) (hn : xN M = 93) (hL : E.L ≤ 3072) (hk : 6 * k + 6 ≤ E.L) (K : ∀ M2, InvJ M2 → xN M2 = 93 → PR E mL_law 93 1147 [some (.ref 0), some (.ref 1), some (.ref 74), some (.int (nI (6 * k)))] [] M2 (fun r _ => r = some (.int 1))) : PR E mL_law 93 807 [some (.ref 0), some (.ref 1), some (.ref 74), some (.int (nI (6 * k)))] [] M (fun r _ => r = some (.int 1)) := by
  have hM : xNT ≤ xN M := by rw [hn]; decide
  have hi1 : vp_in (nI (6 * k) + 1) E.L := lw_in (j := 1) rfl hL (by omega)
  have hi2 : vp_in (nI (6 * k) + 2) E.L := lw_in (j := 2) rfl hL (by omega)
  have hi3 : vp_in (nI (6 * k) + 3) E.L := lw_in (j := 3) rfl hL (by omega)
  have hi4 : vp_in (nI (6 * k) + 4) E.L := lw_in (j := 4) rfl hL (by omega)
  have hi5 : vp_in (nI (6 * k) + 5) E.L := lw_in (j := 5) rfl hL (by omega)
  refine px_aload_n dL_law_807 rfl rfl ?_
  refine px_aload_n dL_law_808 rfl rfl ?_
  refine px_iload_n dL_law_809 rfl rfl ?_
  refine px_iconst dL_law_810 ic_1 ?_
  refine px_iadd dL_law_811 ?_
  refine px_sld dL_law_812 hi1 ?_
  refine px_aload_n dL_law_813 rfl rfl ?_
  refine px_iload_n dL_law_814 rfl rfl ?_
  refine px_iconst dL_law_815 ic_2 ?_
  refine px_iadd dL_law_816 ?_
  refine px_sld dL_law_817 hi2 ?_
  refine px_aload_n dL_law_818 rfl rfl ?_
  refine px_iload_n dL_law_819 rfl rfl ?_
  refine px_iconst dL_law_820 ic_3 ?_
  refine px_iadd dL_law_821 ?_
  refine px_sld dL_law_822 hi3 ?_
  refine px_gV3 dL_law_823 kL_law_101 (xol rfl) hM (Nat.le_of_ble_eq_true rfl) (st_free h _ _ _) (fun r1 M1 hq1 hn1 => ?_)
  obtain ⟨w, rfl, h2⟩ := hq1
  have hM1 : xNT ≤ xN M1 := by rw [hn1]; exact hM
  refine px_aload_n dL_law_826 rfl rfl ?_
  refine px_aload_n dL_law_827 rfl rfl ?_
  refine px_iload_n dL_law_828 rfl rfl ?_
  refine px_iconst dL_law_829 ic_1 ?_
  refine px_iadd dL_law_830 ?_
  refine px_sld dL_law_831 hi1 ?_
  refine px_aload_n dL_law_832 rfl rfl ?_
  refine px_iload_n dL_law_833 rfl rfl ?_
  refine px_iconst dL_law_834 ic_2 ?_
  refine px_iadd dL_law_835 ?_
  refine px_sld dL_law_836 hi2 ?_
  refine px_aload_n dL_law_837 rfl rfl ?_
  refine px_iload_n dL_law_838 rfl rfl ?_
  refine px_iconst dL_law_839 ic_3 ?_
  refine px_iadd dL_law_840 ?_
  refine px_sld dL_law_841 hi3 ?_
  refine px_gV3 dL_law_842 kL_law_104 (xol rfl) hM1 (Nat.le_of_ble_eq_true rfl) h2 (fun r2 M2 hq2 hn2 => ?_)
  obtain ⟨rfl, hI⟩ := hq2
  exact px_icmp_eq 1147 dL_law_845 rfl (fun _ => K M2 hI (by rw [hn2, hn1]; exact hn)) (fun z => absurd rfl z)
set_option maxRecDepth 100000 in
theorem lw_c22 {E : xE} {M : xMem} {k : Nat} (h : InvJ M) (hn : xN M = 93) (hL : E.L ≤ 3072) (hk : 6 * k + 6 ≤ E.L) (K : ∀ M2, InvJ M2 → xN M2 = 93 → PR E mL_law 93 1147 [some (.ref 0), some (.ref 1), some (.ref 74), some (.int (nI (6 * k)))] [] M2 (fun r _ => r = some (.int 1))) : PR E mL_law 93 850 [some (.ref 0), some (.ref 1), some (.ref 74), some (.int (nI (6 * k)))] [] M (fun r _ => r = some (.int 1)) := by
  have hM : xNT ≤ xN M := by rw [hn]; decide
  have hi1 : vp_in (nI (6 * k) + 1) E.L := lw_in (j := 1) rfl hL (by omega)
  have hi2 : vp_in (nI (6 * k) + 2) E.L := lw_in (j := 2) rfl hL (by omega)
  have hi3 : vp_in (nI (6 * k) + 3) E.L := lw_in (j := 3) rfl hL (by omega)
  have hi4 : vp_in (nI (6 * k) + 4) E.L := lw_in (j := 4) rfl hL (by omega)
  have hi5 : vp_in (nI (6 * k) + 5) E.L := lw_in (j := 5) rfl hL (by omega)
  refine px_aload_n dL_law_850 rfl rfl ?_
  refine px_aload_n dL_law_851 rfl rfl ?_
  refine px_iload_n dL_law_852 rfl rfl ?_
  refine px_iconst dL_law_853 ic_1 ?_
  refine px_iadd dL_law_854 ?_
  refine px_sld dL_law_855 hi1 ?_
  refine px_aload_n dL_law_856 rfl rfl ?_
  refine px_iload_n dL_law_857 rfl rfl ?_
  refine px_iconst dL_law_858 ic_2 ?_
  refine px_iadd dL_law_859 ?_
  refine px_sld dL_law_860 hi2 ?_
  refine px_aload_n dL_law_861 rfl rfl ?_
  refine px_iload_n dL_law_862 rfl rfl ?_
  refine px_iconst dL_law_863 ic_3 ?_
  refine px_iadd dL_law_864 ?_
  refine px_sld dL_law_865 hi3 ?_
  refine px_gV3 dL_law_866 kL_law_105 (xol rfl) hM (Nat.le_of_ble_eq_true rfl) (st_seen h _ _ _) (fun r1 M1 hq1 hn1 => ?_)
  obtain ⟨w, rfl, h2⟩ := hq1
  have hM1 : xNT ≤ xN M1 := by rw [hn1]; exact hM
  refine px_aload_n dL_law_869 rfl rfl ?_
  refine px_aload_n dL_law_870 rfl rfl ?_
  refine px_iload_n dL_law_871 rfl rfl ?_
  refine px_iconst dL_law_872 ic_1 ?_
  refine px_iadd dL_law_873 ?_
  refine px_sld dL_law_874 hi1 ?_
  refine px_aload_n dL_law_875 rfl rfl ?_
  refine px_iload_n dL_law_876 rfl rfl ?_
  refine px_iconst dL_law_877 ic_2 ?_
  refine px_iadd dL_law_878 ?_
  refine px_sld dL_law_879 hi2 ?_
  refine px_aload_n dL_law_880 rfl rfl ?_
  refine px_iload_n dL_law_881 rfl rfl ?_
  refine px_iconst dL_law_882 ic_3 ?_
  refine px_iadd dL_law_883 ?_
  refine px_sld dL_law_884 hi3 ?_
  refine px_gV3 dL_law_885 kL_law_108 (xol rfl) hM1 (Nat.le_of_ble_eq_true rfl) h2 (fun r2 M2 hq2 hn2 => ?_)
  obtain ⟨rfl, hI⟩ := hq2
  exact px_icmp_eq 1147 dL_law_888 rfl (fun _ => K M2 hI (by rw [hn2, hn1]; exact hn)) (fun z => absurd rfl z)
set_option maxRecDepth 100000 in
theorem lw_c23 {E : xE} {M : xMem} {k : Nat} (h : InvJ M) (hn : xN M = 93) (hL : E.L ≤ 3072) (hk : 6 * k + 6 ≤ E.L) (K : ∀ M2, InvJ M2 → xN M2 = 93 → PR E mL_law 93 1147 [some (.ref 0), some (.ref 1), some (.ref 74), some (.int (nI (6 * k)))] [] M2 (fun r _ => r = some (.int 1))) : PR E mL_law 93 893 [some (.ref 0), some (.ref 1), some (.ref 74), some (.int (nI (6 * k)))] [] M (fun r _ => r = some (.int 1)) := by
  have hM : xNT ≤ xN M := by rw [hn]; decide
  have hi1 : vp_in (nI (6 * k) + 1) E.L := lw_in (j := 1) rfl hL (by omega)
  have hi2 : vp_in (nI (6 * k) + 2) E.L := lw_in (j := 2) rfl hL (by omega)
  have hi3 : vp_in (nI (6 * k) + 3) E.L := lw_in (j := 3) rfl hL (by omega)
  have hi4 : vp_in (nI (6 * k) + 4) E.L := lw_in (j := 4) rfl hL (by omega)
  have hi5 : vp_in (nI (6 * k) + 5) E.L := lw_in (j := 5) rfl hL (by omega)
  refine px_aload_n dL_law_893 rfl rfl ?_
  refine px_aload_n dL_law_894 rfl rfl ?_
  refine px_iload_n dL_law_895 rfl rfl ?_
  refine px_iconst dL_law_896 ic_1 ?_
  refine px_iadd dL_law_897 ?_
  refine px_sld dL_law_898 hi1 ?_
  refine px_aload_n dL_law_899 rfl rfl ?_
  refine px_iload_n dL_law_900 rfl rfl ?_
  refine px_iconst dL_law_901 ic_2 ?_
  refine px_iadd dL_law_902 ?_
  refine px_sld dL_law_903 hi2 ?_
  refine px_aload_n dL_law_904 rfl rfl ?_
  refine px_iload_n dL_law_905 rfl rfl ?_
  refine px_iconst dL_law_906 ic_3 ?_
  refine px_iadd dL_law_907 ?_
  refine px_sld dL_law_908 hi3 ?_
  refine px_gV3 dL_law_909 kL_law_109 (xol rfl) hM (Nat.le_of_ble_eq_true rfl) (st_point h _ _ _) (fun r1 M1 hq1 hn1 => ?_)
  obtain ⟨w, rfl, h2⟩ := hq1
  have hM1 : xNT ≤ xN M1 := by rw [hn1]; exact hM
  refine px_aload_n dL_law_912 rfl rfl ?_
  refine px_aload_n dL_law_913 rfl rfl ?_
  refine px_iload_n dL_law_914 rfl rfl ?_
  refine px_iconst dL_law_915 ic_1 ?_
  refine px_iadd dL_law_916 ?_
  refine px_sld dL_law_917 hi1 ?_
  refine px_aload_n dL_law_918 rfl rfl ?_
  refine px_iload_n dL_law_919 rfl rfl ?_
  refine px_iconst dL_law_920 ic_2 ?_
  refine px_iadd dL_law_921 ?_
  refine px_sld dL_law_922 hi2 ?_
  refine px_aload_n dL_law_923 rfl rfl ?_
  refine px_iload_n dL_law_924 rfl rfl ?_
  refine px_iconst dL_law_925 ic_3 ?_
  refine px_iadd dL_law_926 ?_
  refine px_sld dL_law_927 hi3 ?_
  refine px_gV3 dL_law_928 kL_law_112 (xol rfl) hM1 (Nat.le_of_ble_eq_true rfl) h2 (fun r2 M2 hq2 hn2 => ?_)
  obtain ⟨rfl, hI⟩ := hq2
  exact px_icmp_eq 1147 dL_law_931 rfl (fun _ => K M2 hI (by rw [hn2, hn1]; exact hn)) (fun z => absurd rfl z)
set_option maxRecDepth 100000 in
theorem lw_c24 {E : xE} {M : xMem} {k : Nat} (h : InvJ M) (hn : xN M = 93) (hL : E.L ≤ 3072) (hk : 6 * k + 6 ≤ E.L) (K : ∀ M2, InvJ M2 → xN M2 = 93 → PR E mL_law 93 1147 [some (.ref 0), some (.ref 1), some (.ref 74), some (.int (nI (6 * k)))] [] M2 (fun r _ => r = some (.int 1))) : PR E mL_law 93 936 [some (.ref 0), some (.ref 1), some (.ref 74), some (.int (nI (6 * k)))] [] M (fun r _ => r = some (.int 1)) := by
  have hM : xNT ≤ xN M := by rw [hn]; decide
  have hi1 : vp_in (nI (6 * k) + 1) E.L := lw_in (j := 1) rfl hL (by omega)
  have hi2 : vp_in (nI (6 * k) + 2) E.L := lw_in (j := 2) rfl hL (by omega)
  have hi3 : vp_in (nI (6 * k) + 3) E.L := lw_in (j := 3) rfl hL (by omega)
  have hi4 : vp_in (nI (6 * k) + 4) E.L := lw_in (j := 4) rfl hL (by omega)
  have hi5 : vp_in (nI (6 * k) + 5) E.L := lw_in (j := 5) rfl hL (by omega)
  refine px_aload_n dL_law_936 rfl rfl ?_
  refine px_aload_n dL_law_937 rfl rfl ?_
  refine px_iload_n dL_law_938 rfl rfl ?_
  refine px_iconst dL_law_939 ic_1 ?_
  refine px_iadd dL_law_940 ?_
  refine px_sld dL_law_941 hi1 ?_
  refine px_gV1 dL_law_942 kL_law_113 (xol rfl) hM (Nat.le_of_ble_eq_true rfl) (st_used h _) (fun r1 M1 hq1 hn1 => ?_)
  obtain ⟨w, rfl, h2⟩ := hq1
  have hM1 : xNT ≤ xN M1 := by rw [hn1]; exact hM
  refine px_aload_n dL_law_945 rfl rfl ?_
  refine px_aload_n dL_law_946 rfl rfl ?_
  refine px_iload_n dL_law_947 rfl rfl ?_
  refine px_iconst dL_law_948 ic_1 ?_
  refine px_iadd dL_law_949 ?_
  refine px_sld dL_law_950 hi1 ?_
  refine px_gV1 dL_law_951 kL_law_116 (xol rfl) hM1 (Nat.le_of_ble_eq_true rfl) h2 (fun r2 M2 hq2 hn2 => ?_)
  obtain ⟨rfl, hI⟩ := hq2
  exact px_icmp_eq 1147 dL_law_954 rfl (fun _ => K M2 hI (by rw [hn2, hn1]; exact hn)) (fun z => absurd rfl z)
set_option maxRecDepth 100000 in
theorem lw_c25 {E : xE} {M : xMem} {k : Nat} (h : InvJ M) (hn : xN M = 93) (hL : E.L ≤ 3072) (hk : 6 * k + 6 ≤ E.L) (K : ∀ M2, InvJ M2 → xN M2 = 93 → PR E mL_law 93 1147 [some (.ref 0), some (.ref 1), some (.ref 74), some (.int (nI (6 * k)))] [] M2 (fun r _ => r = some (.int 1))) : PR E mL_law 93 959 [some (.ref 0), some (.ref 1), some (.ref 74), some (.int (nI (6 * k)))] [] M (fun r _ => r = some (.int 1)) := by
  have hM : xNT ≤ xN M := by rw [hn]; decide
  have hi1 : vp_in (nI (6 * k) + 1) E.L := lw_in (j := 1) rfl hL (by omega)
  have hi2 : vp_in (nI (6 * k) + 2) E.L := lw_in (j := 2) rfl hL (by omega)
  have hi3 : vp_in (nI (6 * k) + 3) E.L := lw_in (j := 3) rfl hL (by omega)
  have hi4 : vp_in (nI (6 * k) + 4) E.L := lw_in (j := 4) rfl hL (by omega)
  have hi5 : vp_in (nI (6 * k) + 5) E.L := lw_in (j := 5) rfl hL (by omega)
  refine px_aload_n dL_law_959 rfl rfl ?_
  refine px_aload_n dL_law_960 rfl rfl ?_
  refine px_iload_n dL_law_961 rfl rfl ?_
  refine px_iconst dL_law_962 ic_1 ?_
  refine px_iadd dL_law_963 ?_
  refine px_sld dL_law_964 hi1 ?_
  refine px_gV1 dL_law_965 kL_law_117 (xol rfl) hM (Nat.le_of_ble_eq_true rfl) (st_takes h _) (fun r1 M1 hq1 hn1 => ?_)
  obtain ⟨w, rfl, h2⟩ := hq1
  have hM1 : xNT ≤ xN M1 := by rw [hn1]; exact hM
  refine px_aload_n dL_law_968 rfl rfl ?_
  refine px_aload_n dL_law_969 rfl rfl ?_
  refine px_iload_n dL_law_970 rfl rfl ?_
  refine px_iconst dL_law_971 ic_1 ?_
  refine px_iadd dL_law_972 ?_
  refine px_sld dL_law_973 hi1 ?_
  refine px_gV1 dL_law_974 kL_law_120 (xol rfl) hM1 (Nat.le_of_ble_eq_true rfl) h2 (fun r2 M2 hq2 hn2 => ?_)
  obtain ⟨rfl, hI⟩ := hq2
  exact px_icmp_eq 1147 dL_law_977 rfl (fun _ => K M2 hI (by rw [hn2, hn1]; exact hn)) (fun z => absurd rfl z)
set_option maxRecDepth 100000 in
theorem lw_c26 {E : xE} {M : xMem} {k : Nat} (h : InvJ M) (hn : xN M = 93) (hL : E.L ≤ 3072) (hk : 6 * k + 6 ≤ E.L) (K : ∀ M2, InvJ M2 → xN M2 = 93 → PR E mL_law 93 1147 [some (.ref 0), some (.ref 1), some (.ref 74), some (.int (nI (6 * k)))] [] M2 (fun r _ => r = some (.int 1))) : PR E mL_law 93 982 [some (.ref 0), some (.ref 1), some (.ref 74), some (.int (nI (6 * k)))] [] M (fun r _ => r = some (.int 1)) := by
  have hM : xNT ≤ xN M := by rw [hn]; decide
  have hi1 : vp_in (nI (6 * k) + 1) E.L := lw_in (j := 1) rfl hL (by omega)
  have hi2 : vp_in (nI (6 * k) + 2) E.L := lw_in (j := 2) rfl hL (by omega)
  have hi3 : vp_in (nI (6 * k) + 3) E.L := lw_in (j := 3) rfl hL (by omega)
  have hi4 : vp_in (nI (6 * k) + 4) E.L := lw_in (j := 4) rfl hL (by omega)
  have hi5 : vp_in (nI (6 * k) + 5) E.L := lw_in (j := 5) rfl hL (by omega)
  refine px_aload_n dL_law_982 rfl rfl ?_
  refine px_aload_n dL_law_983 rfl rfl ?_
  refine px_iload_n dL_law_984 rfl rfl ?_
  refine px_iconst dL_law_985 ic_1 ?_
  refine px_iadd dL_law_986 ?_
  refine px_sld dL_law_987 hi1 ?_
  refine px_aload_n dL_law_988 rfl rfl ?_
  refine px_iload_n dL_law_989 rfl rfl ?_
  refine px_iconst dL_law_990 ic_2 ?_
  refine px_iadd dL_law_991 ?_
  refine px_sld dL_law_992 hi2 ?_
  refine px_gV2 dL_law_993 kL_law_121 (xol rfl) hM (Nat.le_of_ble_eq_true rfl) (st_would h _ _) (fun r1 M1 hq1 hn1 => ?_)
  obtain ⟨w, rfl, h2⟩ := hq1
  have hM1 : xNT ≤ xN M1 := by rw [hn1]; exact hM
  refine px_aload_n dL_law_996 rfl rfl ?_
  refine px_aload_n dL_law_997 rfl rfl ?_
  refine px_iload_n dL_law_998 rfl rfl ?_
  refine px_iconst dL_law_999 ic_1 ?_
  refine px_iadd dL_law_1000 ?_
  refine px_sld dL_law_1001 hi1 ?_
  refine px_aload_n dL_law_1002 rfl rfl ?_
  refine px_iload_n dL_law_1003 rfl rfl ?_
  refine px_iconst dL_law_1004 ic_2 ?_
  refine px_iadd dL_law_1005 ?_
  refine px_sld dL_law_1006 hi2 ?_
  refine px_gV2 dL_law_1007 kL_law_124 (xol rfl) hM1 (Nat.le_of_ble_eq_true rfl) h2 (fun r2 M2 hq2 hn2 => ?_)
  obtain ⟨rfl, hI⟩ := hq2
  exact px_icmp_eq 1147 dL_law_1010 rfl (fun _ => K M2 hI (by rw [hn2, hn1]; exact hn)) (fun z => absurd rfl z)
set_option maxRecDepth 100000 in
theorem lw_c27 {E : xE} {M : xMem} {k : Nat} (h : InvJ M) (hn : xN M = 93) (hL : E.L ≤ 3072) (hk : 6 * k + 6 ≤ E.L) (K : ∀ M2, InvJ M2 → xN M2 = 93 → PR E mL_law 93 1147 [some (.ref 0), some (.ref 1), some (.ref 74), some (.int (nI (6 * k)))] [] M2 (fun r _ => r = some (.int 1))) : PR E mL_law 93 1015 [some (.ref 0), some (.ref 1), some (.ref 74), some (.int (nI (6 * k)))] [] M (fun r _ => r = some (.int 1)) := by
  have hM : xNT ≤ xN M := by rw [hn]; decide
  have hi1 : vp_in (nI (6 * k) + 1) E.L := lw_in (j := 1) rfl hL (by omega)
  have hi2 : vp_in (nI (6 * k) + 2) E.L := lw_in (j := 2) rfl hL (by omega)
  have hi3 : vp_in (nI (6 * k) + 3) E.L := lw_in (j := 3) rfl hL (by omega)
  have hi4 : vp_in (nI (6 * k) + 4) E.L := lw_in (j := 4) rfl hL (by omega)
  have hi5 : vp_in (nI (6 * k) + 5) E.L := lw_in (j := 5) rfl hL (by omega)
  refine px_aload_n dL_law_1015 rfl rfl ?_
  refine px_gV0 dL_law_1016 kL_law_125 (xol rfl) hM (Nat.le_of_ble_eq_true rfl) (st_best h) (fun r1 M1 hq1 hn1 => ?_)
  obtain ⟨w, rfl, h2⟩ := hq1
  have hM1 : xNT ≤ xN M1 := by rw [hn1]; exact hM
  refine px_aload_n dL_law_1019 rfl rfl ?_
  refine px_gV0 dL_law_1020 kL_law_129 (xol rfl) hM1 (Nat.le_of_ble_eq_true rfl) h2 (fun r2 M2 hq2 hn2 => ?_)
  obtain ⟨rfl, hI⟩ := hq2
  exact px_icmp_eq 1147 dL_law_1023 rfl (fun _ => K M2 hI (by rw [hn2, hn1]; exact hn)) (fun z => absurd rfl z)
set_option maxRecDepth 100000 in
theorem lw_c28 {E : xE} {M : xMem} {k : Nat} (h : InvJ M) (hn : xN M = 93) (hL : E.L ≤ 3072) (hk : 6 * k + 6 ≤ E.L) (K : ∀ M2, InvJ M2 → xN M2 = 93 → PR E mL_law 93 1147 [some (.ref 0), some (.ref 1), some (.ref 74), some (.int (nI (6 * k)))] [] M2 (fun r _ => r = some (.int 1))) : PR E mL_law 93 1028 [some (.ref 0), some (.ref 1), some (.ref 74), some (.int (nI (6 * k)))] [] M (fun r _ => r = some (.int 1)) := by
  have hM : xNT ≤ xN M := by rw [hn]; decide
  have hi1 : vp_in (nI (6 * k) + 1) E.L := lw_in (j := 1) rfl hL (by omega)
  have hi2 : vp_in (nI (6 * k) + 2) E.L := lw_in (j := 2) rfl hL (by omega)
  have hi3 : vp_in (nI (6 * k) + 3) E.L := lw_in (j := 3) rfl hL (by omega)
  have hi4 : vp_in (nI (6 * k) + 4) E.L := lw_in (j := 4) rfl hL (by omega)
  have hi5 : vp_in (nI (6 * k) + 5) E.L := lw_in (j := 5) rfl hL (by omega)
  refine px_aload_n dL_law_1028 rfl rfl ?_
  refine px_aload_n dL_law_1029 rfl rfl ?_
  refine px_iload_n dL_law_1030 rfl rfl ?_
  refine px_iconst dL_law_1031 ic_1 ?_
  refine px_iadd dL_law_1032 ?_
  refine px_sld dL_law_1033 hi1 ?_
  refine px_aload_n dL_law_1034 rfl rfl ?_
  refine px_iload_n dL_law_1035 rfl rfl ?_
  refine px_iconst dL_law_1036 ic_2 ?_
  refine px_iadd dL_law_1037 ?_
  refine px_sld dL_law_1038 hi2 ?_
  refine px_gV2 dL_law_1039 kL_law_130 (xol rfl) hM (Nat.le_of_ble_eq_true rfl) (st_lots h _ _) (fun r1 M1 hq1 hn1 => ?_)
  obtain ⟨w, rfl, h2⟩ := hq1
  have hM1 : xNT ≤ xN M1 := by rw [hn1]; exact hM
  refine px_aload_n dL_law_1042 rfl rfl ?_
  refine px_aload_n dL_law_1043 rfl rfl ?_
  refine px_iload_n dL_law_1044 rfl rfl ?_
  refine px_iconst dL_law_1045 ic_1 ?_
  refine px_iadd dL_law_1046 ?_
  refine px_sld dL_law_1047 hi1 ?_
  refine px_aload_n dL_law_1048 rfl rfl ?_
  refine px_iload_n dL_law_1049 rfl rfl ?_
  refine px_iconst dL_law_1050 ic_2 ?_
  refine px_iadd dL_law_1051 ?_
  refine px_sld dL_law_1052 hi2 ?_
  refine px_gV2 dL_law_1053 kL_law_133 (xol rfl) hM1 (Nat.le_of_ble_eq_true rfl) h2 (fun r2 M2 hq2 hn2 => ?_)
  obtain ⟨rfl, hI⟩ := hq2
  exact px_icmp_eq 1147 dL_law_1056 rfl (fun _ => K M2 hI (by rw [hn2, hn1]; exact hn)) (fun z => absurd rfl z)
set_option maxRecDepth 100000 in
theorem lw_c29 {E : xE} {M : xMem} {k : Nat} (h : InvJ M) (hn : xN M = 93) (hL : E.L ≤ 3072) (hk : 6 * k + 6 ≤ E.L) (K : ∀ M2, InvJ M2 → xN M2 = 93 → PR E mL_law 93 1147 [some (.ref 0), some (.ref 1), some (.ref 74), some (.int (nI (6 * k)))] [] M2 (fun r _ => r = some (.int 1))) : PR E mL_law 93 1061 [some (.ref 0), some (.ref 1), some (.ref 74), some (.int (nI (6 * k)))] [] M (fun r _ => r = some (.int 1)) := by
  have hM : xNT ≤ xN M := by rw [hn]; decide
  have hi1 : vp_in (nI (6 * k) + 1) E.L := lw_in (j := 1) rfl hL (by omega)
  have hi2 : vp_in (nI (6 * k) + 2) E.L := lw_in (j := 2) rfl hL (by omega)
  have hi3 : vp_in (nI (6 * k) + 3) E.L := lw_in (j := 3) rfl hL (by omega)
  have hi4 : vp_in (nI (6 * k) + 4) E.L := lw_in (j := 4) rfl hL (by omega)
  have hi5 : vp_in (nI (6 * k) + 5) E.L := lw_in (j := 5) rfl hL (by omega)
  refine px_aload_n dL_law_1061 rfl rfl ?_
  refine px_gV0 dL_law_1062 kL_law_134 (xol rfl) hM (Nat.le_of_ble_eq_true rfl) (st_asked h) (fun r1 M1 hq1 hn1 => ?_)
  obtain ⟨w, rfl, h2⟩ := hq1
  have hM1 : xNT ≤ xN M1 := by rw [hn1]; exact hM
  refine px_aload_n dL_law_1065 rfl rfl ?_
  refine px_gV0 dL_law_1066 kL_law_137 (xol rfl) hM1 (Nat.le_of_ble_eq_true rfl) h2 (fun r2 M2 hq2 hn2 => ?_)
  obtain ⟨rfl, hI⟩ := hq2
  exact px_icmp_eq 1147 dL_law_1069 rfl (fun _ => K M2 hI (by rw [hn2, hn1]; exact hn)) (fun z => absurd rfl z)
set_option maxRecDepth 100000 in
theorem lw_c30 {E : xE} {M : xMem} {k : Nat} (h : InvJ M) (hn : xN M = 93) (hL : E.L ≤ 3072) (hk : 6 * k + 6 ≤ E.L) (K : ∀ M2, InvJ M2 → xN M2 = 93 → PR E mL_law 93 1147 [some (.ref 0), some (.ref 1), some (.ref 74), some (.int (nI (6 * k)))] [] M2 (fun r _ => r = some (.int 1))) : PR E mL_law 93 1074 [some (.ref 0), some (.ref 1), some (.ref 74), some (.int (nI (6 * k)))] [] M (fun r _ => r = some (.int 1)) := by
  have hM : xNT ≤ xN M := by rw [hn]; decide
  have hi1 : vp_in (nI (6 * k) + 1) E.L := lw_in (j := 1) rfl hL (by omega)
  have hi2 : vp_in (nI (6 * k) + 2) E.L := lw_in (j := 2) rfl hL (by omega)
  have hi3 : vp_in (nI (6 * k) + 3) E.L := lw_in (j := 3) rfl hL (by omega)
  have hi4 : vp_in (nI (6 * k) + 4) E.L := lw_in (j := 4) rfl hL (by omega)
  have hi5 : vp_in (nI (6 * k) + 5) E.L := lw_in (j := 5) rfl hL (by omega)
  refine px_aload_n dL_law_1074 rfl rfl ?_
  refine px_aload_n dL_law_1075 rfl rfl ?_
  refine px_iload_n dL_law_1076 rfl rfl ?_
  refine px_iconst dL_law_1077 ic_1 ?_
  refine px_iadd dL_law_1078 ?_
  refine px_sld dL_law_1079 hi1 ?_
  refine px_gV1 dL_law_1080 kL_law_138 (xol rfl) hM (Nat.le_of_ble_eq_true rfl) (st_count h _) (fun r1 M1 hq1 hn1 => ?_)
  obtain ⟨w, rfl, h2⟩ := hq1
  have hM1 : xNT ≤ xN M1 := by rw [hn1]; exact hM
  refine px_aload_n dL_law_1083 rfl rfl ?_
  refine px_aload_n dL_law_1084 rfl rfl ?_
  refine px_iload_n dL_law_1085 rfl rfl ?_
  refine px_iconst dL_law_1086 ic_1 ?_
  refine px_iadd dL_law_1087 ?_
  refine px_sld dL_law_1088 hi1 ?_
  refine px_gV1 dL_law_1089 kL_law_141 (xol rfl) hM1 (Nat.le_of_ble_eq_true rfl) h2 (fun r2 M2 hq2 hn2 => ?_)
  obtain ⟨rfl, hI⟩ := hq2
  exact px_icmp_eq 1147 dL_law_1092 rfl (fun _ => K M2 hI (by rw [hn2, hn1]; exact hn)) (fun z => absurd rfl z)
set_option maxRecDepth 100000 in
theorem lw_c31 {E : xE} {M : xMem} {k : Nat} (h : InvJ M) (hn : xN M = 93) (hL : E.L ≤ 3072) (hk : 6 * k + 6 ≤ E.L) (K : ∀ M2, InvJ M2 → xN M2 = 93 → PR E mL_law 93 1147 [some (.ref 0), some (.ref 1), some (.ref 74), some (.int (nI (6 * k)))] [] M2 (fun r _ => r = some (.int 1))) : PR E mL_law 93 1097 [some (.ref 0), some (.ref 1), some (.ref 74), some (.int (nI (6 * k)))] [] M (fun r _ => r = some (.int 1)) := by
  have hM : xNT ≤ xN M := by rw [hn]; decide
  have hi1 : vp_in (nI (6 * k) + 1) E.L := lw_in (j := 1) rfl hL (by omega)
  have hi2 : vp_in (nI (6 * k) + 2) E.L := lw_in (j := 2) rfl hL (by omega)
  have hi3 : vp_in (nI (6 * k) + 3) E.L := lw_in (j := 3) rfl hL (by omega)
  have hi4 : vp_in (nI (6 * k) + 4) E.L := lw_in (j := 4) rfl hL (by omega)
  have hi5 : vp_in (nI (6 * k) + 5) E.L := lw_in (j := 5) rfl hL (by omega)
  refine px_aload_n dL_law_1097 rfl rfl ?_
  refine px_gV0 dL_law_1098 kL_law_142 (xol rfl) hM (Nat.le_of_ble_eq_true rfl) (st_finding h) (fun r1 M1 hq1 hn1 => ?_)
  obtain ⟨w, rfl, h2⟩ := hq1
  have hM1 : xNT ≤ xN M1 := by rw [hn1]; exact hM
  refine px_aload_n dL_law_1101 rfl rfl ?_
  refine px_gV0 dL_law_1102 kL_law_145 (xol rfl) hM1 (Nat.le_of_ble_eq_true rfl) h2 (fun r2 M2 hq2 hn2 => ?_)
  obtain ⟨rfl, hI⟩ := hq2
  exact px_icmp_eq 1147 dL_law_1105 rfl (fun _ => K M2 hI (by rw [hn2, hn1]; exact hn)) (fun z => absurd rfl z)
set_option maxRecDepth 100000 in
theorem lw_c32 {E : xE} {M : xMem} {k : Nat} (h : InvJ M) (hn : xN M = 93) (hL : E.L ≤ 3072) (hk : 6 * k + 6 ≤ E.L) (K : ∀ M2, InvJ M2 → xN M2 = 93 → PR E mL_law 93 1147 [some (.ref 0), some (.ref 1), some (.ref 74), some (.int (nI (6 * k)))] [] M2 (fun r _ => r = some (.int 1))) : PR E mL_law 93 1110 [some (.ref 0), some (.ref 1), some (.ref 74), some (.int (nI (6 * k)))] [] M (fun r _ => r = some (.int 1)) := by
  have hM : xNT ≤ xN M := by rw [hn]; decide
  have hi1 : vp_in (nI (6 * k) + 1) E.L := lw_in (j := 1) rfl hL (by omega)
  have hi2 : vp_in (nI (6 * k) + 2) E.L := lw_in (j := 2) rfl hL (by omega)
  have hi3 : vp_in (nI (6 * k) + 3) E.L := lw_in (j := 3) rfl hL (by omega)
  have hi4 : vp_in (nI (6 * k) + 4) E.L := lw_in (j := 4) rfl hL (by omega)
  have hi5 : vp_in (nI (6 * k) + 5) E.L := lw_in (j := 5) rfl hL (by omega)
  refine px_aload_n dL_law_1110 rfl rfl ?_
  refine px_aload_n dL_law_1111 rfl rfl ?_
  refine px_iload_n dL_law_1112 rfl rfl ?_
  refine px_iconst dL_law_1113 ic_1 ?_
  refine px_iadd dL_law_1114 ?_
  refine px_sld dL_law_1115 hi1 ?_
  refine px_gV1 dL_law_1116 kL_law_146 (xol rfl) hM (Nat.le_of_ble_eq_true rfl) (st_findings h _) (fun r1 M1 hq1 hn1 => ?_)
  obtain ⟨w, rfl, h2⟩ := hq1
  have hM1 : xNT ≤ xN M1 := by rw [hn1]; exact hM
  refine px_aload_n dL_law_1119 rfl rfl ?_
  refine px_aload_n dL_law_1120 rfl rfl ?_
  refine px_iload_n dL_law_1121 rfl rfl ?_
  refine px_iconst dL_law_1122 ic_1 ?_
  refine px_iadd dL_law_1123 ?_
  refine px_sld dL_law_1124 hi1 ?_
  refine px_gV1 dL_law_1125 kL_law_149 (xol rfl) hM1 (Nat.le_of_ble_eq_true rfl) h2 (fun r2 M2 hq2 hn2 => ?_)
  obtain ⟨rfl, hI⟩ := hq2
  exact px_icmp_eq 1147 dL_law_1128 rfl (fun _ => K M2 hI (by rw [hn2, hn1]; exact hn)) (fun z => absurd rfl z)
set_option maxRecDepth 100000 in
theorem lw_c33 {E : xE} {M : xMem} {k : Nat} (h : InvJ M) (hn : xN M = 93) (hL : E.L ≤ 3072) (hk : 6 * k + 6 ≤ E.L) (K : ∀ M2, InvJ M2 → xN M2 = 93 → PR E mL_law 93 1147 [some (.ref 0), some (.ref 1), some (.ref 74), some (.int (nI (6 * k)))] [] M2 (fun r _ => r = some (.int 1))) : PR E mL_law 93 1133 [some (.ref 0), some (.ref 1), some (.ref 74), some (.int (nI (6 * k)))] [] M (fun r _ => r = some (.int 1)) := by
  have hM : xNT ≤ xN M := by rw [hn]; decide
  have hi1 : vp_in (nI (6 * k) + 1) E.L := lw_in (j := 1) rfl hL (by omega)
  have hi2 : vp_in (nI (6 * k) + 2) E.L := lw_in (j := 2) rfl hL (by omega)
  have hi3 : vp_in (nI (6 * k) + 3) E.L := lw_in (j := 3) rfl hL (by omega)
  have hi4 : vp_in (nI (6 * k) + 4) E.L := lw_in (j := 4) rfl hL (by omega)
  have hi5 : vp_in (nI (6 * k) + 5) E.L := lw_in (j := 5) rfl hL (by omega)
  refine px_aload_n dL_law_1133 rfl rfl ?_
  refine px_gV0 dL_law_1134 kL_law_150 (xol rfl) hM (Nat.le_of_ble_eq_true rfl) (st_digest h) (fun r1 M1 hq1 hn1 => ?_)
  obtain ⟨w, rfl, h2⟩ := hq1
  have hM1 : xNT ≤ xN M1 := by rw [hn1]; exact hM
  refine px_aload_n dL_law_1137 rfl rfl ?_
  refine px_gV0 dL_law_1138 kL_law_154 (xol rfl) hM1 (Nat.le_of_ble_eq_true rfl) h2 (fun r2 M2 hq2 hn2 => ?_)
  obtain ⟨rfl, hI⟩ := hq2
  refine px_lcmp dL_law_1141 ?_
  exact px_if_eq 1147 dL_law_1142 rfl (fun _ => K M2 hI (by rw [hn2, hn1]; exact hn)) (fun z => absurd (lg_self w) z)
set_option maxRecDepth 100000 in
theorem lw_sw {E : xE} {M : xMem} {lo : List (Option Value)} {QQ : Option Value → xMem → Prop} {X : Int32} (c0 : PR E mL_law 93 184 lo [] M QQ) (c1 : PR E mL_law 93 217 lo [] M QQ) (c2 : PR E mL_law 93 260 lo [] M QQ) (c3 : PR E mL_law 93 293 lo [] M QQ) (c4 : PR E mL_law 93 316 lo [] M QQ) (c5 : PR E mL_law 93 379 lo [] M QQ) (c6 : PR E mL_law 93 402 lo [] M QQ) (c7 : PR E mL_law 93 435 lo [] M QQ) (c8 : PR E mL_law 93 478 lo [] M QQ) (c9 : PR E mL_law 93 501 lo [] M QQ) (c10 : PR E mL_law 93 524 lo [] M QQ) (c11 : PR E mL_law 93 547 lo [] M QQ) (c12 : PR E mL_law 93 580 lo [] M QQ) (c13 : PR E mL_law 93 613 lo [] M QQ) (c14 : PR E mL_law 93 646 lo [] M QQ) (c15 : PR E mL_law 93 669 lo [] M QQ) (c16 : PR E mL_law 93 692 lo [] M QQ) (c17 : PR E mL_law 93 715 lo [] M QQ) (c18 : PR E mL_law 93 738 lo [] M QQ) (c19 : PR E mL_law 93 761 lo [] M QQ) (c20 : PR E mL_law 93 784 lo [] M QQ) (c21 : PR E mL_law 93 807 lo [] M QQ) (c22 : PR E mL_law 93 850 lo [] M QQ) (c23 : PR E mL_law 93 893 lo [] M QQ) (c24 : PR E mL_law 93 936 lo [] M QQ) (c25 : PR E mL_law 93 959 lo [] M QQ) (c26 : PR E mL_law 93 982 lo [] M QQ) (c27 : PR E mL_law 93 1015 lo [] M QQ) (c28 : PR E mL_law 93 1028 lo [] M QQ) (c29 : PR E mL_law 93 1061 lo [] M QQ) (c30 : PR E mL_law 93 1074 lo [] M QQ) (c31 : PR E mL_law 93 1097 lo [] M QQ) (c32 : PR E mL_law 93 1110 lo [] M QQ) (c33 : PR E mL_law 93 1133 lo [] M QQ) (hd : PR E mL_law 93 1147 lo [] M QQ) : PR E mL_law 93 33 lo [.int X] M QQ := by
  by_cases s0 : X = 0
  · exact px_tableIn (off := 151) 184 dL_law_33 (by rw [s0]; decide) (by rw [s0]; decide) (by rw [s0]; rfl) rfl c0
  by_cases s1 : X = 1
  · exact px_tableIn (off := 184) 217 dL_law_33 (by rw [s1]; decide) (by rw [s1]; decide) (by rw [s1]; rfl) rfl c1
  by_cases s2 : X = 2
  · exact px_tableIn (off := 227) 260 dL_law_33 (by rw [s2]; decide) (by rw [s2]; decide) (by rw [s2]; rfl) rfl c2
  by_cases s3 : X = 3
  · exact px_tableIn (off := 260) 293 dL_law_33 (by rw [s3]; decide) (by rw [s3]; decide) (by rw [s3]; rfl) rfl c3
  by_cases s4 : X = 4
  · exact px_tableIn (off := 283) 316 dL_law_33 (by rw [s4]; decide) (by rw [s4]; decide) (by rw [s4]; rfl) rfl c4
  by_cases s5 : X = 5
  · exact px_tableIn (off := 346) 379 dL_law_33 (by rw [s5]; decide) (by rw [s5]; decide) (by rw [s5]; rfl) rfl c5
  by_cases s6 : X = 6
  · exact px_tableIn (off := 369) 402 dL_law_33 (by rw [s6]; decide) (by rw [s6]; decide) (by rw [s6]; rfl) rfl c6
  by_cases s7 : X = 7
  · exact px_tableIn (off := 402) 435 dL_law_33 (by rw [s7]; decide) (by rw [s7]; decide) (by rw [s7]; rfl) rfl c7
  by_cases s8 : X = 8
  · exact px_tableIn (off := 445) 478 dL_law_33 (by rw [s8]; decide) (by rw [s8]; decide) (by rw [s8]; rfl) rfl c8
  by_cases s9 : X = 9
  · exact px_tableIn (off := 468) 501 dL_law_33 (by rw [s9]; decide) (by rw [s9]; decide) (by rw [s9]; rfl) rfl c9
  by_cases s10 : X = 10
  · exact px_tableIn (off := 491) 524 dL_law_33 (by rw [s10]; decide) (by rw [s10]; decide) (by rw [s10]; rfl) rfl c10
  by_cases s11 : X = 11
  · exact px_tableIn (off := 514) 547 dL_law_33 (by rw [s11]; decide) (by rw [s11]; decide) (by rw [s11]; rfl) rfl c11
  by_cases s12 : X = 12
  · exact px_tableIn (off := 547) 580 dL_law_33 (by rw [s12]; decide) (by rw [s12]; decide) (by rw [s12]; rfl) rfl c12
  by_cases s13 : X = 13
  · exact px_tableIn (off := 580) 613 dL_law_33 (by rw [s13]; decide) (by rw [s13]; decide) (by rw [s13]; rfl) rfl c13
  by_cases s14 : X = 14
  · exact px_tableIn (off := 613) 646 dL_law_33 (by rw [s14]; decide) (by rw [s14]; decide) (by rw [s14]; rfl) rfl c14
  by_cases s15 : X = 15
  · exact px_tableIn (off := 636) 669 dL_law_33 (by rw [s15]; decide) (by rw [s15]; decide) (by rw [s15]; rfl) rfl c15
  by_cases s16 : X = 16
  · exact px_tableIn (off := 659) 692 dL_law_33 (by rw [s16]; decide) (by rw [s16]; decide) (by rw [s16]; rfl) rfl c16
  by_cases s17 : X = 17
  · exact px_tableIn (off := 682) 715 dL_law_33 (by rw [s17]; decide) (by rw [s17]; decide) (by rw [s17]; rfl) rfl c17
  by_cases s18 : X = 18
  · exact px_tableIn (off := 705) 738 dL_law_33 (by rw [s18]; decide) (by rw [s18]; decide) (by rw [s18]; rfl) rfl c18
  by_cases s19 : X = 19
  · exact px_tableIn (off := 728) 761 dL_law_33 (by rw [s19]; decide) (by rw [s19]; decide) (by rw [s19]; rfl) rfl c19
  by_cases s20 : X = 20
  · exact px_tableIn (off := 751) 784 dL_law_33 (by rw [s20]; decide) (by rw [s20]; decide) (by rw [s20]; rfl) rfl c20
  by_cases s21 : X = 21
  · exact px_tableIn (off := 774) 807 dL_law_33 (by rw [s21]; decide) (by rw [s21]; decide) (by rw [s21]; rfl) rfl c21
  by_cases s22 : X = 22
  · exact px_tableIn (off := 817) 850 dL_law_33 (by rw [s22]; decide) (by rw [s22]; decide) (by rw [s22]; rfl) rfl c22
  by_cases s23 : X = 23
  · exact px_tableIn (off := 860) 893 dL_law_33 (by rw [s23]; decide) (by rw [s23]; decide) (by rw [s23]; rfl) rfl c23
  by_cases s24 : X = 24
  · exact px_tableIn (off := 903) 936 dL_law_33 (by rw [s24]; decide) (by rw [s24]; decide) (by rw [s24]; rfl) rfl c24
  by_cases s25 : X = 25
  · exact px_tableIn (off := 926) 959 dL_law_33 (by rw [s25]; decide) (by rw [s25]; decide) (by rw [s25]; rfl) rfl c25
  by_cases s26 : X = 26
  · exact px_tableIn (off := 949) 982 dL_law_33 (by rw [s26]; decide) (by rw [s26]; decide) (by rw [s26]; rfl) rfl c26
  by_cases s27 : X = 27
  · exact px_tableIn (off := 982) 1015 dL_law_33 (by rw [s27]; decide) (by rw [s27]; decide) (by rw [s27]; rfl) rfl c27
  by_cases s28 : X = 28
  · exact px_tableIn (off := 995) 1028 dL_law_33 (by rw [s28]; decide) (by rw [s28]; decide) (by rw [s28]; rfl) rfl c28
  by_cases s29 : X = 29
  · exact px_tableIn (off := 1028) 1061 dL_law_33 (by rw [s29]; decide) (by rw [s29]; decide) (by rw [s29]; rfl) rfl c29
  by_cases s30 : X = 30
  · exact px_tableIn (off := 1041) 1074 dL_law_33 (by rw [s30]; decide) (by rw [s30]; decide) (by rw [s30]; rfl) rfl c30
  by_cases s31 : X = 31
  · exact px_tableIn (off := 1064) 1097 dL_law_33 (by rw [s31]; decide) (by rw [s31]; decide) (by rw [s31]; rfl) rfl c31
  by_cases s32 : X = 32
  · exact px_tableIn (off := 1077) 1110 dL_law_33 (by rw [s32]; decide) (by rw [s32]; decide) (by rw [s32]; rfl) rfl c32
  by_cases s33 : X = 33
  · exact px_tableIn (off := 1100) 1133 dL_law_33 (by rw [s33]; decide) (by rw [s33]; decide) (by rw [s33]; rfl) rfl c33
  exact px_tableOut 1147 dL_law_33 (by simp only [← Int32.toInt_inj, Int32.reduceToInt] at s0 s1 s2 s3 s4 s5 s6 s7 s8 s9 s10 s11 s12 s13 s14 s15 s16 s17 s18 s19 s20 s21 s22 s23 s24 s25 s26 s27 s28 s29 s30 s31 s32 s33; omega) rfl hd
theorem lw_le {L k : Nat} (hL : L ≤ 3072) (hk : k ≤ L / 6) : Int32.ofNat L - 6 < nI (6 * k) ↔ L < 6 * k + 6 := by
  have e1 : (Int32.ofNat L - 6).toInt = (L : Int) - 6 := by
    rw [Int32.toInt_sub, show Int32.ofNat L = nI L from rfl, nI_toInt (by omega)]
    simp only [Int32.reduceToInt]
    unfold Int.bmod
    dsimp only
    split <;> omega
  rw [Int32.lt_iff_toInt_lt, e1, nI_toInt (by omega)]
  omega
set_option maxRecDepth 100000 in
theorem lw_loop {E : xE} (hL : E.L ≤ 3072) : ∀ m, (InvJ m ∧ xN m = 93) → PR E mL_law 93 18 [some (.ref 0), some (.ref 1), some (.ref 74), some (.int (nI (6 * 0)))] [] m (fun r _ => r = some (.int 1)) := by
  refine px_for (P := fun k => ∀ m, (InvJ m ∧ xN m = 93) → PR E mL_law 93 18 [some (.ref 0), some (.ref 1), some (.ref 74), some (.int (nI (6 * k)))] [] m (fun r _ => r = some (.int 1))) (E.L / 6) (fun k hk nx => ?_) 0 (Nat.zero_le _)
  intro M hI
  obtain ⟨h, hn⟩ := hI
  refine px_iload_n dL_law_18 rfl rfl ?_
  refine px_aload_n dL_law_19 rfl rfl ?_
  refine px_slen dL_law_20 ?_
  refine px_bipush dL_law_21 bp_6 ?_
  refine px_isub dL_law_23 ?_
  refine px_icmp_gt 1153 dL_law_24 rfl (fun h24 => ?_) (fun h24 => ?_)
  · refine px_iconst dL_law_1153 ic_1 ?_
    exact px_zret dL_law_1154 rfl rfl rfl hn
  · rw [lw_le hL hk] at h24
    have hk6 : 6 * k + 6 ≤ E.L := by omega
    have hlt : k < E.L / 6 ∨ k = E.L / 6 := by omega
    have K : ∀ M2, InvJ M2 → xN M2 = 93 → PR E mL_law 93 1147 [some (.ref 0), some (.ref 1), some (.ref 74), some (.int (nI (6 * k)))] [] M2 (fun r _ => r = some (.int 1)) := fun M2 g1 g2 => by
      refine px_inc_3 (c := 6) dL_law_1147 rfl (by decide) ?_
      refine px_goto 18 dL_law_1150 rfl ?_
      exact px_eq (by rw [show (6 : Int32) = nI 6 from rfl, nI_add, show 6 * k + 6 = 6 * (k + 1) by omega]) rfl (nx (by omega) M2 ⟨g1, g2⟩)
    refine px_aload_n dL_law_27 rfl rfl ?_
    refine px_iload_n dL_law_28 rfl rfl ?_
    refine px_sld dL_law_29 (vp_in_nI (by omega) (by omega)) ?_
    refine px_bipush dL_law_30 bp_63 ?_
    refine px_iand dL_law_32 ?_
    exact lw_sw (lw_c0 h hn hL hk6 K) (lw_c1 h hn hL hk6 K) (lw_c2 h hn hL hk6 K) (lw_c3 h hn hL hk6 K) (lw_c4 h hn hL hk6 K) (lw_c5 h hn hL hk6 K) (lw_c6 h hn hL hk6 K) (lw_c7 h hn hL hk6 K) (lw_c8 h hn hL hk6 K) (lw_c9 h hn hL hk6 K) (lw_c10 h hn hL hk6 K) (lw_c11 h hn hL hk6 K) (lw_c12 h hn hL hk6 K) (lw_c13 h hn hL hk6 K) (lw_c14 h hn hL hk6 K) (lw_c15 h hn hL hk6 K) (lw_c16 h hn hL hk6 K) (lw_c17 h hn hL hk6 K) (lw_c18 h hn hL hk6 K) (lw_c19 h hn hL hk6 K) (lw_c20 h hn hL hk6 K) (lw_c21 h hn hL hk6 K) (lw_c22 h hn hL hk6 K) (lw_c23 h hn hL hk6 K) (lw_c24 h hn hL hk6 K) (lw_c25 h hn hL hk6 K) (lw_c26 h hn hL hk6 K) (lw_c27 h hn hL hk6 K) (lw_c28 h hn hL hk6 K) (lw_c29 h hn hL hk6 K) (lw_c30 h hn hL hk6 K) (lw_c31 h hn hL hk6 K) (lw_c32 h hn hL hk6 K) (lw_c33 h hn hL hk6 K) (K M h hn)
set_option maxRecDepth 100000 in
theorem lw_all {E : xE} {M : xMem} (hL : E.L ≤ 3072) (ha : xN M = 0) : PR E mL_law 93 0 [some (.ref 0), none, none, none] [] M (fun r _ => r = some (.int 1)) := by
  refine px_newA (b := 1) dL_law_0 nL_law_7 (by omega) rfl (by decide) (by decide) ?_
  refine px_dupa dL_law_3 ?_
  refine px_cI0 (ne' := 73) dL_law_4 kL_law_9 (by rw [xN_wN]; omega) (by decide) (Nat.le_of_ble_eq_true rfl) (n_X10 (by rw [xN_wN]; omega)) (fun r4 M4 hq4 hn4 => ?_)
  obtain ⟨rfl, hF, hR, hT, hK⟩ := hq4
  refine px_sa_1 dL_law_7 rfl ?_
  refine px_newA (b := 74) dL_law_8 nL_law_10 (by omega) rfl (by decide) (by decide) ?_
  refine px_dupa dL_law_11 ?_
  have e74 : xN M4 + 1 = 74 := by omega
  refine px_cI0 (ne' := 93) dL_law_12 kL_law_12 (by rw [xN_wN]; omega) (by decide) (Nat.le_of_ble_eq_true rfl) (n_X11 (by rw [xN_wN]; omega) (fun i => by rw [← e74]; exact (wN_cell M4 i).1) (fun i => by rw [← e74]; exact (wN_cell M4 i).2.1)) (fun r12 M12 hq12 hn12 => ?_)
  obtain ⟨rfl, hC, n1, n2, n3⟩ := hq12
  refine px_sa_2 dL_law_15 rfl ?_
  refine px_iconst dL_law_16 ic_0 ?_
  refine px_si_3 dL_law_17 rfl ?_
  have w : ∀ b, b < 74 → (wN M4).1 b = M4.1 b ∧ (wN M4).2.1 b = M4.2.1 b := fun b hb => ⟨wN_1 (by omega), wN_2 (by omega)⟩
  exact lw_loop hL M12 ⟨inv_start (fsF_k hF (fun b b1 _ => w b (by omega))) (fsR_k hR (fun b hb => w b (by omega))) (fsT_k hT (fun b hb => w b (by omega))) (fun r hr => ⟨stoN_k (hK r hr).1 (fun b b1 b2 => w b (by omega)), by rw [(w 4 (by decide)).2]; exact (hK r hr).2⟩) hC n1 n2 n3, hn12⟩
