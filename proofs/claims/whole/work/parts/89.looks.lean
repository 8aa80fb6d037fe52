/-! ===== looking calls keep what class and reference have alike ===== -/
theorem oR_2 (M : xMem) (x y : Option Int32) : (oR M x y).2 = M.2 := by
  rcases x with _ | v
  · rcases y with _ | f <;> rfl
  · rfl
theorem oR_1 (M : xMem) (x y : Option Int32) {a : Nat} (h1 : a ≠ 74) (h2 : a ≠ 75) : (oR M x y).1 a = M.1 a := by
  rcases x with _ | v
  · rcases y with _ | f
    · rfl
    · funext k
      show (wI (wI M 74 1 f) 75 f.toNatClampNeg (M.1 75 f.toNatClampNeg + 1)).1 a k = M.1 a k
      rw [xI_wI, if_neg (fun z => h2 z.1), xI_wI, if_neg (fun z => h1 z.1)]
  · funext k
    show (wI M 74 0 v).1 a k = M.1 a k
    rw [xI_wI, if_neg (fun z => h1 z.1)]
theorem cpl_p {M M2 : xMem} (h : cpl M) (e1 : M2.1 1 11 = M2.1 74 0) (e2 : M2.1 1 12 = M2.1 74 1) (e3 : ∀ k, 1 ≤ k → k ≤ 5 → M2.1 31 k = M2.1 75 k) (ec : ∀ a, 42 ≤ a → a ≤ 61 → M2.1 a = M.1 a) (er : ∀ a, 76 ≤ a → a ≤ 80 → M2.1 a = M.1 a) : cpl M2 := by
  obtain ⟨_, _, _, h4, h5⟩ := h
  refine ⟨e1, e2, e3, fun r hr => ?_, fun t ht => ?_⟩
  · rw [ec (42 + 2 * r) (by omega) (by omega), ec (42 + 2 * r + 1) (by omega) (by omega), er 76 (by decide) (by decide), er 77 (by decide) (by decide)]
    exact h4 r hr
  · rw [ec (54 + 2 * t) (by omega) (by omega), ec (54 + 2 * t + 1) (by omega) (by omega), er 79 (by decide) (by decide), er 80 (by decide) (by decide)]
    exact h5 t ht
theorem cpl_o {M m1 m2 : xMem} {x y : Option Int32} (h : cpl M) (h1 : cS (oC M x y) m1) (h2 : rS (oR m1 x y) m2) : cpl m2 := by
  have c : ∀ a, (a < 25 ∨ 30 < a) → m1.1 a = (oC M x y).1 a := h1.2
  have r : ∀ a, a ≠ 74 → (a < 85 ∨ 89 < a) → a ≠ 93 → m2.1 a = (oR m1 x y).1 a := h2.2.2.1
  have r4 : ∀ k, k < 2 → m2.1 74 k = (oR m1 x y).1 74 k := fun k hk => h2.2.2.2 k (by omega) (by omega) (by omega)
  have a1 : m2.1 1 = (oC M x y).1 1 := by rw [r 1 (by decide) (by omega) (by decide), oR_1 _ _ _ (by decide) (by decide), c 1 (by omega)]
  have a31 : m2.1 31 = (oC M x y).1 31 := by rw [r 31 (by decide) (by omega) (by decide), oR_1 _ _ _ (by decide) (by decide), c 31 (by omega)]
  have a75 : m2.1 75 = (oR m1 x y).1 75 := r 75 (by decide) (by omega) (by decide)
  have b74 : m1.1 74 = M.1 74 := by rw [c 74 (by omega), oC_1 _ _ _ (by decide) (by decide)]
  have b75 : m1.1 75 = M.1 75 := by rw [c 75 (by omega), oC_1 _ _ _ (by decide) (by decide)]
  obtain ⟨g1, g2, g3, _, _⟩ := id h
  refine cpl_p h ?_ ?_ (fun k k1 k5 => ?_) (fun a x1 x2 => by rw [r a (by omega) (by omega) (by omega), oR_1 _ _ _ (by omega) (by omega), c a (by omega), oC_1 _ _ _ (by omega) (by omega)]) (fun a x1 x2 => by rw [r a (by omega) (by omega) (by omega), oR_1 _ _ _ (by omega) (by omega), c a (by omega), oC_1 _ _ _ (by omega) (by omega)])
  · rw [a1, r4 0 (by decide)]
    rcases x with _ | v
    · rcases y with _ | f
      · show M.1 1 11 = m1.1 74 0; rw [b74]; exact g1
      · show M.1 1 11 = m1.1 74 0; rw [b74]; exact g1
    · rfl
  · rw [a1, r4 1 (by decide)]
    rcases x with _ | v
    · rcases y with _ | f
      · show M.1 1 12 = m1.1 74 1; rw [b74]; exact g2
      · rfl
    · show M.1 1 12 = m1.1 74 1; rw [b74]; exact g2
  · rw [a31, a75]
    rcases x with _ | v
    · rcases y with _ | f
      · show M.1 31 k = m1.1 75 k; rw [b75]; exact g3 k k1 k5
      · show (wI (wI M 1 12 f) 31 f.toNatClampNeg (M.1 31 f.toNatClampNeg + 1)).1 31 k = (wI (wI m1 74 1 f) 75 f.toNatClampNeg (m1.1 75 f.toNatClampNeg + 1)).1 75 k
        rw [b75]
        by_cases e : k = f.toNatClampNeg
        · rw [xI_wI, if_pos ⟨rfl, e⟩, xI_wI, if_pos ⟨rfl, e⟩, ← e, g3 k k1 k5]
        · rw [xI_wI, if_neg (fun z => e z.2), xI_wI, if_neg (fun z => by omega), xI_wI, if_neg (fun z => e z.2), xI_wI, if_neg (fun z => by omega), b75]
          exact g3 k k1 k5
    · show M.1 31 k = m1.1 75 k; rw [b75]; exact g3 k k1 k5
theorem oR_74 (M : xMem) (x y : Option Int32) {k : Nat} (h : 2 ≤ k) : (oR M x y).1 74 k = M.1 74 k := by
  rcases x with _ | v
  · rcases y with _ | f
    · rfl
    · show (wI (wI M 74 1 f) 75 f.toNatClampNeg (M.1 75 f.toNatClampNeg + 1)).1 74 k = M.1 74 k
      rw [xI_wI, if_neg (fun z => by omega), xI_wI, if_neg (fun z => by omega)]
  · show (wI M 74 0 v).1 74 k = M.1 74 k
    rw [xI_wI, if_neg (fun z => by omega)]
theorem rIn_g {M m : xMem} {n W H B dd : Nat} {g : Nat → Nat → Nat} {S : gLay × Nat} {P : Nat → gLay × Nat} {K : Nat → aKep} (e : ∀ a, a = 76 ∨ a = 79 ∨ a = 81 ∨ a = 83 ∨ a = 90 ∨ a = 91 ∨ a = 92 → m.1 a = M.1 a) (e4 : ∀ k, k = 8 ∨ k = 9 ∨ k = 10 ∨ k = 11 ∨ k = 36 → m.1 74 k = M.1 74 k) (h2 : m.2.1 = M.2.1) (hn : m.2.2.2 = M.2.2.2) (h : rIn M n W H B g dd S P K) : rIn m n W H B g dd S P K := by
  obtain ⟨⟨hM, hW, hsh, hok, hst, hly, hru⟩, hk, hz⟩ := h
  refine ⟨⟨by show xNT ≤ m.2.2.2; rw [hn]; exact hM, by rw [h2]; exact hW, ?_, hok, ?_, hly, hru⟩, ?_, ?_⟩
  · unfold mSh at hsh ⊢
    rw [e4 11 (by omega), e4 8 (by omega), e4 9 (by omega), e4 10 (by omega), e 81 (by omega)]
    exact hsh
  · unfold stM at hst ⊢
    rw [e4 36 (by omega), e 83 (by omega), e 90 (by omega)]
    exact hst
  · unfold kpM ktM at hk ⊢
    rw [e 91 (by omega), e 92 (by omega)]
    exact hk
  · unfold mszOK at hz ⊢
    rw [e 76 (by omega), e 79 (by omega)]
    exact hz
theorem rIn_o {M m : xMem} {x y : Option Int32} {n W H B dd : Nat} {g : Nat → Nat → Nat} {S : gLay × Nat} {P : Nat → gLay × Nat} {K : Nat → aKep} (h : rS (oR M x y) m) (hr : rIn M n W H B g dd S P K) : rIn m n W H B g dd S P K :=
  rIn_g (fun a ha => by rw [h.2.2.1 a (by omega) (by omega) (by omega), oR_1 M x y (by omega) (by omega)]) (fun k hk => by rw [h.2.2.2 k (by omega) (by omega) (by omega), oR_74 M x y (by omega)]) (by rw [h.1, oR_2]) (by rw [h.2.1, oR_2]) hr
