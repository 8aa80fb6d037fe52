/-! ===== steps: rows and texts ===== -/
theorem le_nat {v : Int32} {N : Nat} (hN : N < 2 ^ 31) (h0 : 0 ≤ v) (h1 : v ≤ nI N) : ∃ k, k ≤ N ∧ v = nI k := by
  obtain ⟨j, hj, e⟩ := nI_of (n_le h0)
  subst e
  rw [nI_leI hj hN] at h1
  exact ⟨j, h1, rfl⟩
theorem sz_m {x : Int32} {N : Nat} (hN : N < 2 ^ 31) (h : x = -1 ∨ ∃ n, n ≤ N ∧ x = nI n) : (¬ 0 ≤ x) ↔ x = -1 := by
  rcases h with h | ⟨n, hn, h⟩
  · rw [h]; decide
  · rw [h, Int32.le_iff_toInt_le, ← Int32.toInt_inj, nI_toInt (by omega)]
    simp only [Int32.reduceToInt]
    omega
theorem sz_l {x : Int32} {N : Nat} (hN : N < 2 ^ 31) (h : x = -1 ∨ ∃ n, n ≤ N ∧ x = nI n) : x < 0 ↔ x = -1 := by
  rcases h with h | ⟨n, hn, h⟩
  · rw [h]; decide
  · rw [h, Int32.lt_iff_toInt_lt, ← Int32.toInt_inj, nI_toInt (by omega)]
    simp only [Int32.reduceToInt]
    omega
theorem sz_i {x i : Int32} {N : Nat} (hN : N < 2 ^ 31) (h : x = -1 ∨ ∃ n, n ≤ N ∧ x = nI n) (h0 : ¬ x = -1) : (0 ≤ i ∧ i ≤ x - 1) ↔ (0 ≤ i ∧ i < x) := by
  rcases h with h | ⟨n, hn, h⟩
  · exact absurd h h0
  · rw [h]; exact in_lt (by omega)
theorem cS_n {M m : xMem} {x y : Option Int32} (h : cS (oC M x y) m) {a : Nat} (ha : 76 ≤ a) : m.1 a = M.1 a := by rw [h.2 a (by omega), oC_1 M x y (by omega) (by omega)]
theorem stp_f {E : xE} {dC dR : xMD} {as : List Value} {M m1 m2 : xMem} {v : Int32} (h1 : Cf E dC (.ref 1 :: as) M (some (.int v)) m1) (h2 : Cf E dR (.ref 74 :: as) m1 (some (.int v)) m2) (hi : InvJ m2) : Stq E dC dR as M :=
  Ct.imp h1 (fun r m q _ => ⟨v, q.1, by rw [q.2]; exact Ct.imp h2 (fun r' m' q' _ => ⟨q'.1, by rw [q'.2]; exact hi⟩)⟩)
theorem sz_of {M : xMem} (hp : cpl M) (hz : mszOK M) : szOK M := ⟨fun r hr => by rw [(hp.2.2.2.1 r hr).1]; exact hz.1 r hr, fun t ht => by rw [(hp.2.2.2.2 t ht).1]; exact hz.2 t ht⟩
theorem inv_r {M m : xMem} (h : InvJ M) (w : m.2 = M.2) (ec : ∀ a, a ≠ 1 → a ≠ 22 → a ≠ 23 → (a < 42 ∨ 61 < a) → (a < 74 ∨ 80 < a) → a ≠ 84 → m.1 a = M.1 a) (e4 : ∀ j, j ≠ 0 → j ≠ 24 → m.1 74 j = M.1 74 j) (hz : mszOK m) (hp : cpl m) : InvJ m := by
  obtain ⟨s, d, n, W, H, B, g, dd, S, P, K, hc, hr, ho, hp0⟩ := h
  have h7 := xob_7 hc.1.2.2.1
  refine ⟨s, d, n, W, H, B, g, dd, S, P, K, cIn_u hc (fun a a1 a2 => ec a (by omega) (by omega) (by omega) (by omega) (by omega) (by omega)) (by rw [w]) (by rw [w]) (stC_k hc.1.2.2.2.2.2.2.1 (fun b b1 b2 => ec b (by omega) (by omega) (by omega) (by omega) (by omega) (by omega))) ⟨hc.1.2.2.2.2.2.2.2.1, hc.1.2.2.2.2.2.2.2.2⟩ (kpC_k hc.2.2.2.2.1 (fun a ha => ec a (by omega) (by omega) (by omega) (by omega) (by omega) (by omega))) (sz_of hp hz), rJ_m (fun a ha => ec a (by omega) (by omega) (by omega) (by omega) (by omega) (by omega)) (fun k hk => by rw [ec 83 (by decide) (by decide) (by decide) (by decide) (by decide) (by decide)]) (fun k hk => e4 k (by omega) (by omega)) (by rw [w]; exact (rJ_1 hr).2.1) (by rw [w]) hz hr, ho, hp⟩
theorem sz_cl {x : Int32} {N : Nat} (hN : N < 2 ^ 31) (h : x = -1 ∨ ∃ n, n ≤ N ∧ x = nI n) : x.toNatClampNeg ≤ N := by
  rcases h with h | ⟨n, hn, h⟩
  · rw [h]; exact Nat.zero_le _
  · rw [h, nI_clamp (by omega)]; exact hn
theorem inv_row {M m : xMem} (h : InvJ M) {k : Nat} (hk : k < 6) (w : m.2 = M.2) (ec : ∀ a, a ≠ 1 → a ≠ 42 + 2 * k → a ≠ 42 + 2 * k + 1 → a ≠ 74 → a ≠ 76 → a ≠ 77 → a ≠ 78 → m.1 a = M.1 a) (e1 : m.1 1 11 = m.1 74 0) (e12 : m.1 1 12 = M.1 1 12) (e4 : ∀ j, j ≠ 0 → m.1 74 j = M.1 74 j) (es : ∀ r, r ≠ k → m.1 76 r = M.1 76 r) (ed : ∀ j, (j < 40 * k ∨ 40 * k + 40 ≤ j) → m.1 77 j = M.1 77 j) (sz : m.1 76 k = -1 ∨ ∃ q, q ≤ 40 ∧ m.1 76 k = nI q) (n1 : m.1 (42 + 2 * k) 1 = m.1 76 k) (n2 : ∀ i, i < (m.1 76 k).toNatClampNeg → m.1 (42 + 2 * k + 1) i = m.1 77 (40 * k + i)) : InvJ m := by
  obtain ⟨s, d, n, W, H, B, g, dd, S, P, K, hc, hr, ho, hp0⟩ := id h
  have hz0 : mszOK M := (rJ_1 hr).2.2
  refine inv_r h w (fun a a1 a2 a3 a4 a5 a6 => ec a (by omega) (by omega) (by omega) (by omega) (by omega) (by omega) (by omega)) (fun j j1 j2 => e4 j j1) ⟨fun q hq => ?_, fun q hq => ?_⟩ ⟨e1, ?_, fun j j1 j2 => ?_, fun q hq => ?_, fun q hq => ?_⟩
  · by_cases e : q = k
    · rw [e]; exact sz
    · rw [es q e]; exact hz0.1 q hq
  · rw [ec 79 (by omega) (by omega) (by omega) (by omega) (by omega) (by omega) (by omega)]; exact hz0.2 q hq
  · rw [e12, e4 1 (by decide)]; exact hp0.2.1
  · rw [ec 31 (by omega) (by omega) (by omega) (by omega) (by omega) (by omega) (by omega), ec 75 (by omega) (by omega) (by omega) (by omega) (by omega) (by omega) (by omega)]; exact hp0.2.2.1 j j1 j2
  · by_cases e : q = k
    · rw [e]; exact ⟨n1, n2⟩
    · have hb := sz_cl (by decide) (hz0.1 q hq)
      rw [ec (42 + 2 * q) (by omega) (by omega) (by omega) (by omega) (by omega) (by omega) (by omega), ec (42 + 2 * q + 1) (by omega) (by omega) (by omega) (by omega) (by omega) (by omega) (by omega), es q e]
      refine ⟨(hp0.2.2.2.1 q hq).1, fun i hi => ?_⟩
      have hi40 : i < 40 := Nat.lt_of_lt_of_le hi hb
      rw [ed _ (by omega)]
      exact (hp0.2.2.2.1 q hq).2 i hi
  · rw [ec (54 + 2 * q) (by omega) (by omega) (by omega) (by omega) (by omega) (by omega) (by omega), ec (54 + 2 * q + 1) (by omega) (by omega) (by omega) (by omega) (by omega) (by omega) (by omega), ec 79 (by omega) (by omega) (by omega) (by omega) (by omega) (by omega) (by omega), ec 80 (by omega) (by omega) (by omega) (by omega) (by omega) (by omega) (by omega)]
    exact hp0.2.2.2.2 q hq
theorem inv_txt {M m : xMem} (h : InvJ M) {k : Nat} (hk : k < 4) (w : m.2 = M.2) (ec : ∀ a, a ≠ 1 → a ≠ 54 + 2 * k → a ≠ 54 + 2 * k + 1 → a ≠ 74 → a ≠ 79 → a ≠ 80 → a ≠ 22 → a ≠ 23 → a ≠ 84 → m.1 a = M.1 a) (e1 : m.1 1 11 = m.1 74 0) (e12 : m.1 1 12 = M.1 1 12) (e4 : ∀ j, j ≠ 0 → j ≠ 24 → m.1 74 j = M.1 74 j) (es : ∀ r, r ≠ k → m.1 79 r = M.1 79 r) (ed : ∀ j, (j < 120 * k ∨ 120 * k + 120 ≤ j) → m.1 80 j = M.1 80 j) (sz : m.1 79 k = -1 ∨ ∃ q, q ≤ 120 ∧ m.1 79 k = nI q) (n1 : m.1 (54 + 2 * k) 1 = m.1 79 k) (n2 : ∀ i, i < (m.1 79 k).toNatClampNeg → m.1 (54 + 2 * k + 1) i = m.1 80 (120 * k + i)) : InvJ m := by
  obtain ⟨s, d, n, W, H, B, g, dd, S, P, K, hc, hr, ho, hp0⟩ := id h
  have hz0 : mszOK M := (rJ_1 hr).2.2
  refine inv_r h w (fun a a1 a2 a3 a4 a5 a6 => ec a (by omega) (by omega) (by omega) (by omega) (by omega) (by omega) (by omega) (by omega) (by omega)) (fun j j1 j2 => e4 j j1 j2) ⟨fun q hq => ?_, fun q hq => ?_⟩ ⟨e1, ?_, fun j j1 j2 => ?_, fun q hq => ?_, fun q hq => ?_⟩
  · rw [ec 76 (by omega) (by omega) (by omega) (by omega) (by omega) (by omega) (by omega) (by omega) (by omega)]; exact hz0.1 q hq
  · by_cases e : q = k
    · rw [e]; exact sz
    · rw [es q e]; exact hz0.2 q hq
  · rw [e12, e4 1 (by decide) (by decide)]; exact hp0.2.1
  · rw [ec 31 (by omega) (by omega) (by omega) (by omega) (by omega) (by omega) (by omega) (by omega) (by omega), ec 75 (by omega) (by omega) (by omega) (by omega) (by omega) (by omega) (by omega) (by omega) (by omega)]; exact hp0.2.2.1 j j1 j2
  · rw [ec (42 + 2 * q) (by omega) (by omega) (by omega) (by omega) (by omega) (by omega) (by omega) (by omega) (by omega), ec (42 + 2 * q + 1) (by omega) (by omega) (by omega) (by omega) (by omega) (by omega) (by omega) (by omega) (by omega), ec 76 (by omega) (by omega) (by omega) (by omega) (by omega) (by omega) (by omega) (by omega) (by omega), ec 77 (by omega) (by omega) (by omega) (by omega) (by omega) (by omega) (by omega) (by omega) (by omega)]
    exact hp0.2.2.2.1 q hq
  · by_cases e : q = k
    · rw [e]; exact ⟨n1, n2⟩
    · have hb := sz_cl (by decide) (hz0.2 q hq)
      rw [ec (54 + 2 * q) (by omega) (by omega) (by omega) (by omega) (by omega) (by omega) (by omega) (by omega) (by omega), ec (54 + 2 * q + 1) (by omega) (by omega) (by omega) (by omega) (by omega) (by omega) (by omega) (by omega) (by omega), es q e]
      refine ⟨(hp0.2.2.2.2 q hq).1, fun i hi => ?_⟩
      have hi40 : i < 120 := Nat.lt_of_lt_of_le hi hb
      rw [ed _ (by omega)]
      exact (hp0.2.2.2.2 q hq).2 i hi
theorem inv_ren {M : xMem} (h : InvJ M) {k q : Nat} (hk : k < 6) (hq : q ≤ 40) : InvJ (mrenM (wI (renM M (42 + 2 * k) (nI q) 0) 76 k (nI q)) 77 (40 * k) 40 0) := by
  have hcl : (nI q).toNatClampNeg = q := nI_clamp (by omega)
  have R : ∀ a, a ≠ 42 + 2 * k → a ≠ 42 + 2 * k + 1 → a ≠ 76 → a ≠ 77 → (mrenM (wI (renM M (42 + 2 * k) (nI q) 0) 76 k (nI q)) 77 (40 * k) 40 0).1 a = M.1 a := fun a a1 a2 a3 a4 => by
    funext j
    (try simp only [mrenM, renM, mcpM, va_cpy]); (repeat (first | rw [if_neg (by omega)] | rw [if_pos (by omega)] | rw [xI_wI] | rw [xI_wF] | dsimp only))
  have R76 : ∀ j, (mrenM (wI (renM M (42 + 2 * k) (nI q) 0) 76 k (nI q)) 77 (40 * k) 40 0).1 76 j = if j = k then nI q else M.1 76 j := fun j => by
    by_cases e : j = k
    · rw [if_pos e]; (try simp only [mrenM, renM, mcpM, va_cpy]); (repeat (first | rw [if_neg (by omega)] | rw [if_pos (by omega)] | rw [xI_wI] | rw [xI_wF] | dsimp only))
    · rw [if_neg e]; (try simp only [mrenM, renM, mcpM, va_cpy]); (repeat (first | rw [if_neg (by omega)] | rw [if_pos (by omega)] | rw [xI_wI] | rw [xI_wF] | dsimp only))
  have h0 := id h
  obtain ⟨s, d, n, W, H, B, g, dd, S, P, K, hc, hr, ho, hp⟩ := h0
  refine inv_row h hk rfl (fun a a1 a2 a3 a4 a5 a6 a7 => R a a2 a3 a5 a6) ?_ ?_ (fun j _ => ?_) (fun r hr' => ?_) (fun j hj => ?_) ?_ ?_ (fun i hi => ?_)
  · rw [R 1 (by omega) (by omega) (by decide) (by decide), R 74 (by omega) (by omega) (by decide) (by decide)]; exact hp.1
  · rw [R 1 (by omega) (by omega) (by decide) (by decide)]
  · rw [R 74 (by omega) (by omega) (by decide) (by decide)]
  · rw [R76, if_neg hr']
  · (try simp only [mrenM, renM, mcpM, va_cpy]); (repeat (first | rw [if_neg (by omega)] | rw [if_pos (by omega)] | rw [xI_wI] | rw [xI_wF] | dsimp only))
  · rw [R76, if_pos rfl]; exact Or.inr ⟨q, hq, rfl⟩
  · rw [R76, if_pos rfl]; (try simp only [mrenM, renM, mcpM, va_cpy]); (repeat (first | rw [if_neg (by omega)] | rw [if_pos (by omega)] | rw [xI_wI] | rw [xI_wF] | dsimp only))
  · rw [R76, if_pos rfl, hcl] at hi
    simp only [mrenM, renM, hcl]; (repeat (first | rw [if_neg (by omega)] | rw [if_pos (by omega)] | rw [xI_wI] | rw [xI_wF] | dsimp only))
theorem inv_rent {M : xMem} (h : InvJ M) {k q : Nat} (hk : k < 4) (hq : q ≤ 120) : InvJ (mrenM (wI (renM M (54 + 2 * k) (nI q) 32) 79 k (nI q)) 80 (120 * k) 120 32) := by
  have hcl : (nI q).toNatClampNeg = q := nI_clamp (by omega)
  have R : ∀ a, a ≠ 54 + 2 * k → a ≠ 54 + 2 * k + 1 → a ≠ 79 → a ≠ 80 → (mrenM (wI (renM M (54 + 2 * k) (nI q) 32) 79 k (nI q)) 80 (120 * k) 120 32).1 a = M.1 a := fun a a1 a2 a3 a4 => by
    funext j
    (try simp only [mrenM, renM, mcpM, va_cpy]); (repeat (first | rw [if_neg (by omega)] | rw [if_pos (by omega)] | rw [xI_wI] | rw [xI_wF] | dsimp only))
  have R76 : ∀ j, (mrenM (wI (renM M (54 + 2 * k) (nI q) 32) 79 k (nI q)) 80 (120 * k) 120 32).1 79 j = if j = k then nI q else M.1 79 j := fun j => by
    by_cases e : j = k
    · rw [if_pos e]; (try simp only [mrenM, renM, mcpM, va_cpy]); (repeat (first | rw [if_neg (by omega)] | rw [if_pos (by omega)] | rw [xI_wI] | rw [xI_wF] | dsimp only))
    · rw [if_neg e]; (try simp only [mrenM, renM, mcpM, va_cpy]); (repeat (first | rw [if_neg (by omega)] | rw [if_pos (by omega)] | rw [xI_wI] | rw [xI_wF] | dsimp only))
  have h0 := id h
  obtain ⟨s, d, n, W, H, B, g, dd, S, P, K, hc, hr, ho, hp⟩ := h0
  refine inv_txt h hk rfl (fun a a1 a2 a3 a4 a5 a6 a7 a8 a9 => R a a2 a3 a5 a6) ?_ ?_ (fun j _ _ => ?_) (fun r hr' => ?_) (fun j hj => ?_) ?_ ?_ (fun i hi => ?_)
  · rw [R 1 (by omega) (by omega) (by decide) (by decide), R 74 (by omega) (by omega) (by decide) (by decide)]; exact hp.1
  · rw [R 1 (by omega) (by omega) (by decide) (by decide)]
  · rw [R 74 (by omega) (by omega) (by decide) (by decide)]
  · rw [R76, if_neg hr']
  · (try simp only [mrenM, renM, mcpM, va_cpy]); (repeat (first | rw [if_neg (by omega)] | rw [if_pos (by omega)] | rw [xI_wI] | rw [xI_wF] | dsimp only))
  · rw [R76, if_pos rfl]; exact Or.inr ⟨q, hq, rfl⟩
  · rw [R76, if_pos rfl]; (try simp only [mrenM, renM, mcpM, va_cpy]); (repeat (first | rw [if_neg (by omega)] | rw [if_pos (by omega)] | rw [xI_wI] | rw [xI_wF] | dsimp only))
  · rw [R76, if_pos rfl, hcl] at hi
    simp only [mrenM, renM, hcl]; (repeat (first | rw [if_neg (by omega)] | rw [if_pos (by omega)] | rw [xI_wI] | rw [xI_wF] | dsimp only))
theorem inv_lay {M : xMem} (h : InvJ M) {k ii : Nat} {v : Int32} (hk : k < 6) (hi : ii < (M.1 76 k).toNatClampNeg) : InvJ (mtel (wI (telM (wI M (42 + 2 * k + 1) ii v) (M.1 (42 + 2 * k + 1) ii)) 77 (40 * k + ii) v) ((telM (wI M (42 + 2 * k + 1) ii v) (M.1 (42 + 2 * k + 1) ii)).1 77 (40 * k + ii))) := by
  obtain ⟨s, d, n, W, H, B, g, dd, S, P, K, hc, hr, ho, hp⟩ := id h
  have hb := sz_cl (by decide) ((rJ_1 hr).2.2.1 k hk)
  have e77 : (telM (wI M (42 + 2 * k + 1) ii v) (M.1 (42 + 2 * k + 1) ii)).1 77 (40 * k + ii) = M.1 77 (40 * k + ii) := by (try simp only [mrenM, renM, mcpM, va_cpy]); (repeat (first | rw [if_neg (by omega)] | rw [if_pos (by omega)] | rw [xI_wI] | rw [xI_wF] | dsimp only))
  rw [e77]
  refine inv_row h hk rfl (fun a a1 a2 a3 a4 a5 a6 a7 => ?_) ?_ ?_ (fun j j1 => ?_) (fun r hr' => ?_) (fun j hj => ?_) ?_ ?_ (fun i hi' => ?_)
  · funext j
    (try simp only [mrenM, renM, mcpM, va_cpy]); (repeat (first | rw [if_neg (by omega)] | rw [if_pos (by omega)] | rw [xI_wI] | rw [xI_wF] | dsimp only))
  · (try simp only [mrenM, renM, mcpM, va_cpy]); (repeat (first | rw [if_neg (by omega)] | rw [if_pos (by omega)] | rw [xI_wI] | rw [xI_wF] | dsimp only))
    exact (hp.2.2.2.1 k hk).2 ii hi
  · (try simp only [mrenM, renM, mcpM, va_cpy]); (repeat (first | rw [if_neg (by omega)] | rw [if_pos (by omega)] | rw [xI_wI] | rw [xI_wF] | dsimp only))
  · (try simp only [mrenM, renM, mcpM, va_cpy]); (repeat (first | rw [if_neg (by omega)] | rw [if_pos (by omega)] | rw [xI_wI] | rw [xI_wF] | dsimp only))
  · (try simp only [mrenM, renM, mcpM, va_cpy]); (repeat (first | rw [if_neg (by omega)] | rw [if_pos (by omega)] | rw [xI_wI] | rw [xI_wF] | dsimp only))
  · (try simp only [mrenM, renM, mcpM, va_cpy]); (repeat (first | rw [if_neg (by omega)] | rw [if_pos (by omega)] | rw [xI_wI] | rw [xI_wF] | dsimp only))
  · have := (rJ_1 hr).2.2.1 k hk
    (try simp only [mrenM, renM, mcpM, va_cpy]); (repeat (first | rw [if_neg (by omega)] | rw [if_pos (by omega)] | rw [xI_wI] | rw [xI_wF] | dsimp only))
    exact this
  · have := (hp.2.2.2.1 k hk).1
    (try simp only [mrenM, renM, mcpM, va_cpy]); (repeat (first | rw [if_neg (by omega)] | rw [if_pos (by omega)] | rw [xI_wI] | rw [xI_wF] | dsimp only))
    exact this
  · by_cases e : i = ii
    · subst e
      (try simp only [mrenM, renM, mcpM, va_cpy]); (repeat (first | rw [if_neg (by omega)] | rw [if_pos (by omega)] | rw [xI_wI] | rw [xI_wF] | dsimp only))
    · have e76 : (mtel (wI (telM (wI M (42 + 2 * k + 1) ii v) (M.1 (42 + 2 * k + 1) ii)) 77 (40 * k + ii) v) (M.1 77 (40 * k + ii))).1 76 k = M.1 76 k := by (try simp only [mrenM, renM, mcpM, va_cpy]); (repeat (first | rw [if_neg (by omega)] | rw [if_pos (by omega)] | rw [xI_wI] | rw [xI_wF] | dsimp only))
      rw [e76] at hi'
      have := (hp.2.2.2.1 k hk).2 i hi'
      (try simp only [mrenM, renM, mcpM, va_cpy]); (repeat (first | rw [if_neg (by omega)] | rw [if_pos (by omega)] | rw [xI_wI] | rw [xI_wF] | dsimp only))
      exact this
theorem inv_put {M : xMem} (h : InvJ M) {k ii : Nat} {v : Int32} (hk : k < 4) (hi : ii < (M.1 79 k).toNatClampNeg) : InvJ (wI (wI M (54 + 2 * k + 1) ii v) 80 (120 * k + ii) v) := by
  obtain ⟨s, d, n, W, H, B, g, dd, S, P, K, hc, hr, ho, hp⟩ := id h
  have hb := sz_cl (by decide) ((rJ_1 hr).2.2.2 k hk)
  have hp1 := hp.1
  refine inv_txt h hk rfl (fun a a1 a2 a3 a4 a5 a6 a7 a8 a9 => ?_) ?_ ?_ (fun j j1 j2 => ?_) (fun r hr' => ?_) (fun j hj => ?_) ?_ ?_ (fun i hi' => ?_)
  · funext j
    (try simp only [mrenM, renM, mcpM, va_cpy]); (repeat (first | rw [if_neg (by omega)] | rw [if_pos (by omega)] | rw [xI_wI] | rw [xI_wF] | dsimp only))
  · (try simp only [mrenM, renM, mcpM, va_cpy]); (repeat (first | rw [if_neg (by omega)] | rw [if_pos (by omega)] | rw [xI_wI] | rw [xI_wF] | dsimp only))
    exact hp1
  · (try simp only [mrenM, renM, mcpM, va_cpy]); (repeat (first | rw [if_neg (by omega)] | rw [if_pos (by omega)] | rw [xI_wI] | rw [xI_wF] | dsimp only))
  · (try simp only [mrenM, renM, mcpM, va_cpy]); (repeat (first | rw [if_neg (by omega)] | rw [if_pos (by omega)] | rw [xI_wI] | rw [xI_wF] | dsimp only))
  · (try simp only [mrenM, renM, mcpM, va_cpy]); (repeat (first | rw [if_neg (by omega)] | rw [if_pos (by omega)] | rw [xI_wI] | rw [xI_wF] | dsimp only))
  · (try simp only [mrenM, renM, mcpM, va_cpy]); (repeat (first | rw [if_neg (by omega)] | rw [if_pos (by omega)] | rw [xI_wI] | rw [xI_wF] | dsimp only))
  · have := (rJ_1 hr).2.2.2 k hk
    (try simp only [mrenM, renM, mcpM, va_cpy]); (repeat (first | rw [if_neg (by omega)] | rw [if_pos (by omega)] | rw [xI_wI] | rw [xI_wF] | dsimp only))
    exact this
  · have := (hp.2.2.2.2 k hk).1
    (try simp only [mrenM, renM, mcpM, va_cpy]); (repeat (first | rw [if_neg (by omega)] | rw [if_pos (by omega)] | rw [xI_wI] | rw [xI_wF] | dsimp only))
    exact this
  · by_cases e : i = ii
    · subst e
      (try simp only [mrenM, renM, mcpM, va_cpy]); (repeat (first | rw [if_neg (by omega)] | rw [if_pos (by omega)] | rw [xI_wI] | rw [xI_wF] | dsimp only))
    · have e76 : (wI (wI M (54 + 2 * k + 1) ii v) 80 (120 * k + ii) v).1 79 k = M.1 79 k := by (try simp only [mrenM, renM, mcpM, va_cpy]); (repeat (first | rw [if_neg (by omega)] | rw [if_pos (by omega)] | rw [xI_wI] | rw [xI_wF] | dsimp only))
      rw [e76] at hi'
      have := (hp.2.2.2.2 k hk).2 i hi'
      (try simp only [mrenM, renM, mcpM, va_cpy]); (repeat (first | rw [if_neg (by omega)] | rw [if_pos (by omega)] | rw [xI_wI] | rw [xI_wF] | dsimp only))
      exact this
theorem inv_tear {M : xMem} (h : InvJ M) {k : Nat} (hk : k < 6) : InvJ (wI (wI M (42 + 2 * k) 1 (-1)) 76 k (-1)) := by
  obtain ⟨s, d, n, W, H, B, g, dd, S, P, K, hc, hr, ho, hp⟩ := id h
  have hp1 := hp.1
  have e76 : (wI (wI M (42 + 2 * k) 1 (-1)) 76 k (-1)).1 76 k = -1 := by (try simp only [mrenM, renM, mcpM, va_cpy]); (repeat (first | rw [if_neg (by omega)] | rw [if_pos (by omega)] | rw [xI_wI] | rw [xI_wF] | dsimp only))
  refine inv_row h hk rfl (fun a a1 a2 a3 a4 a5 a6 a7 => ?_) ?_ ?_ (fun j j1 => ?_) (fun r hr' => ?_) (fun j hj => ?_) ?_ ?_ (fun i hi' => ?_)
  · funext j
    (try simp only [mrenM, renM, mcpM, va_cpy]); (repeat (first | rw [if_neg (by omega)] | rw [if_pos (by omega)] | rw [xI_wI] | rw [xI_wF] | dsimp only))
  · (try simp only [mrenM, renM, mcpM, va_cpy]); (repeat (first | rw [if_neg (by omega)] | rw [if_pos (by omega)] | rw [xI_wI] | rw [xI_wF] | dsimp only))
    exact hp1
  · (try simp only [mrenM, renM, mcpM, va_cpy]); (repeat (first | rw [if_neg (by omega)] | rw [if_pos (by omega)] | rw [xI_wI] | rw [xI_wF] | dsimp only))
  · (try simp only [mrenM, renM, mcpM, va_cpy]); (repeat (first | rw [if_neg (by omega)] | rw [if_pos (by omega)] | rw [xI_wI] | rw [xI_wF] | dsimp only))
  · (try simp only [mrenM, renM, mcpM, va_cpy]); (repeat (first | rw [if_neg (by omega)] | rw [if_pos (by omega)] | rw [xI_wI] | rw [xI_wF] | dsimp only))
  · (try simp only [mrenM, renM, mcpM, va_cpy]); (repeat (first | rw [if_neg (by omega)] | rw [if_pos (by omega)] | rw [xI_wI] | rw [xI_wF] | dsimp only))
  · rw [e76]; exact Or.inl rfl
  · rw [e76]; (try simp only [mrenM, renM, mcpM, va_cpy]); (repeat (first | rw [if_neg (by omega)] | rw [if_pos (by omega)] | rw [xI_wI] | rw [xI_wF] | dsimp only))
  · rw [e76] at hi'
    exact absurd hi' (Nat.not_lt_zero _)
theorem inv_copy {M : xMem} (h : InvJ M) {r k i j n : Nat} (hr6 : r < 6) (hk : k < 6) (h1 : i + n ≤ (M.1 76 r).toNatClampNeg) (h2 : j + n ≤ (M.1 76 k).toNatClampNeg) : InvJ (mcpM (mcpM (wF M (42 + 2 * k + 1) (va_cpy (M.1 (42 + 2 * r + 1)) (M.1 (42 + 2 * k + 1)) i j n)) 78 0 (fun q => M.1 77 (40 * r + i + q)) n) 77 (40 * k + j) (fun q => M.1 77 (40 * r + i + q)) n) := by
  obtain ⟨s, d, nn, W, H, B, g, dd, S, P, K, hc, hr, ho, hp⟩ := id h
  have hp1 := hp.1
  have hb := sz_cl (by decide) ((rJ_1 hr).2.2.1 k hk)
  have e76 : (mcpM (mcpM (wF M (42 + 2 * k + 1) (va_cpy (M.1 (42 + 2 * r + 1)) (M.1 (42 + 2 * k + 1)) i j n)) 78 0 (fun q => M.1 77 (40 * r + i + q)) n) 77 (40 * k + j) (fun q => M.1 77 (40 * r + i + q)) n).1 76 k = M.1 76 k := by (try simp only [mrenM, renM, mcpM, va_cpy]); (repeat (first | rw [if_neg (by omega)] | rw [if_pos (by omega)] | rw [xI_wI] | rw [xI_wF] | dsimp only))
  refine inv_row h hk rfl (fun a a1 a2 a3 a4 a5 a6 a7 => ?_) ?_ ?_ (fun j j1 => ?_) (fun r hr' => ?_) (fun j hj => ?_) ?_ ?_ (fun q hq => ?_)
  · funext j
    (try simp only [mrenM, renM, mcpM, va_cpy]); (repeat (first | rw [if_neg (by omega)] | rw [if_pos (by omega)] | rw [xI_wI] | rw [xI_wF] | dsimp only))
  · (try simp only [mrenM, renM, mcpM, va_cpy]); (repeat (first | rw [if_neg (by omega)] | rw [if_pos (by omega)] | rw [xI_wI] | rw [xI_wF] | dsimp only))
    exact hp1
  · (try simp only [mrenM, renM, mcpM, va_cpy]); (repeat (first | rw [if_neg (by omega)] | rw [if_pos (by omega)] | rw [xI_wI] | rw [xI_wF] | dsimp only))
  · (try simp only [mrenM, renM, mcpM, va_cpy]); (repeat (first | rw [if_neg (by omega)] | rw [if_pos (by omega)] | rw [xI_wI] | rw [xI_wF] | dsimp only))
  · (try simp only [mrenM, renM, mcpM, va_cpy]); (repeat (first | rw [if_neg (by omega)] | rw [if_pos (by omega)] | rw [xI_wI] | rw [xI_wF] | dsimp only))
  · (try simp only [mrenM, renM, mcpM, va_cpy]); (repeat (first | rw [if_neg (by omega)] | rw [if_pos (by omega)] | rw [xI_wI] | rw [xI_wF] | dsimp only))
  · rw [e76]; exact (rJ_1 hr).2.2.1 k hk
  · have := (hp.2.2.2.1 k hk).1
    rw [e76]; (try simp only [mrenM, renM, mcpM, va_cpy]); (repeat (first | rw [if_neg (by omega)] | rw [if_pos (by omega)] | rw [xI_wI] | rw [xI_wF] | dsimp only))
    exact this
  · rw [e76] at hq
    by_cases e : j ≤ q ∧ q < j + n
    · have := (hp.2.2.2.1 r hr6).2 (i + (q - j)) (by omega)
      (try simp only [mrenM, renM, mcpM, va_cpy]); (repeat (first | rw [if_neg (by omega)] | rw [if_pos (by omega)] | rw [xI_wI] | rw [xI_wF] | dsimp only))
      rw [show va_cpy (M.1 (42 + 2 * r + 1)) (M.1 (42 + 2 * k + 1)) i j n q = M.1 (42 + 2 * r + 1) (i + (q - j)) from if_pos e, this]; exact congrArg (M.1 77) (by omega)
    · have := (hp.2.2.2.1 k hk).2 q hq
      (try simp only [mrenM, renM, mcpM, va_cpy]); (repeat (first | rw [if_neg (by omega)] | rw [if_pos (by omega)] | rw [xI_wI] | rw [xI_wF] | dsimp only))
      exact (if_neg e : va_cpy (M.1 (42 + 2 * r + 1)) (M.1 (42 + 2 * k + 1)) i j n q = M.1 (42 + 2 * k + 1) q).trans this
