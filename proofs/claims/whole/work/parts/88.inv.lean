/-! ===== the invariant: class and reference hold the same ===== -/
/-- class and reference tell the same, hold the same rows and texts -/
def cpl (M : xMem) : Prop := M.1 1 11 = M.1 74 0 ∧ M.1 1 12 = M.1 74 1 ∧ (∀ k, 1 ≤ k → k ≤ 5 → M.1 31 k = M.1 75 k) ∧ (∀ r, r < 6 → M.1 (42 + 2 * r) 1 = M.1 76 r ∧ ∀ i, i < (M.1 76 r).toNatClampNeg → M.1 (42 + 2 * r + 1) i = M.1 77 (40 * r + i)) ∧ ∀ t, t < 4 → M.1 (54 + 2 * t) 1 = M.1 79 t ∧ ∀ i, i < (M.1 79 t).toNatClampNeg → M.1 (54 + 2 * t + 1) i = M.1 80 (120 * t + i)
def okL (n W H B : Nat) (g : Nat → Nat → Nat) (S : gLay × Nat) : Prop := lyOK n W H (aA B g) (aD B g) S.1 ∧ S.2 < 4
def okA (n W H B : Nat) (g : Nat → Nat → Nat) (dd : Nat) (P : Nat → gLay × Nat) (K : Nat → aKep) : Prop := (∀ i, i < dd → okL n W H B g (P i)) ∧ ∀ k q, k < 3 → K k = some q → okL n W H B g q.2.1 ∧ ∀ i, i < q.1 → okL n W H B g (q.2.2 i)
def cIn (M : xMem) (s d n W H B : Nat) (g : Nat → Nat → Nat) (dd : Nat) (S : gLay × Nat) (P : Nat → gLay × Nat) (K : Nat → aKep) : Prop := cHy M s n W H B g dd S P ∧ xob d 7 ∧ M.2.1 10 0 = d ∧ s ≠ d ∧ kpC M K ∧ szOK M
def rIn (M : xMem) (n W H B : Nat) (g : Nat → Nat → Nat) (dd : Nat) (S : gLay × Nat) (P : Nat → gLay × Nat) (K : Nat → aKep) : Prop := rHy M n W H B g dd S P ∧ kpM M K ∧ mszOK M
def InvM (M : xMem) : Prop := ∃ s d n W H B g dd S P K, cIn M s d n W H B g dd S P K ∧ rIn M n W H B g dd S P K ∧ okA n W H B g dd P K ∧ cpl M
theorem rHy_k {M m : xMem} {n W H B dd : Nat} {g : Nat → Nat → Nat} {S : gLay × Nat} {P : Nat → gLay × Nat} (e : ∀ a, 74 ≤ a → m.1 a = M.1 a) (hn : xNT ≤ xN m) (hw : xWire m.2.1) (h : rHy M n W H B g dd S P) : rHy m n W H B g dd S P := by
  obtain ⟨_, _, hsh, hok, hst, hly, hru⟩ := h
  refine ⟨hn, hw, ?_, hok, ?_, hly, hru⟩
  · unfold mSh at hsh ⊢
    rw [e 74 (by decide), e 81 (by decide)]
    exact hsh
  · unfold stM at hst ⊢
    rw [e 74 (by decide), e 83 (by decide), e 90 (by decide)]
    exact hst
theorem rIn_k {M m : xMem} {n W H B dd : Nat} {g : Nat → Nat → Nat} {S : gLay × Nat} {P : Nat → gLay × Nat} {K : Nat → aKep} (e : ∀ a, 74 ≤ a → m.1 a = M.1 a) (hn : xNT ≤ xN m) (hw : xWire m.2.1) (h : rIn M n W H B g dd S P K) : rIn m n W H B g dd S P K := by
  obtain ⟨h1, h2, h3⟩ := h
  refine ⟨rHy_k e hn hw h1, ?_, ?_⟩
  · unfold kpM ktM at h2 ⊢
    rw [e 91 (by decide), e 92 (by decide)]
    exact h2
  · unfold mszOK at h3 ⊢
    rw [e 76 (by decide), e 79 (by decide)]
    exact h3
theorem cHy_k {M m : xMem} {s n W H B dd : Nat} {g : Nat → Nat → Nat} {S : gLay × Nat} {P : Nat → gLay × Nat} (e : ∀ a, (5 ≤ a ∧ a ≤ 9) ∨ (s ≤ a ∧ a ≤ s + 9) ∨ (42 ≤ a ∧ a ≤ 73) → m.1 a = M.1 a) (h2 : m.2.1 = M.2.1) (hn : m.2.2.2 = M.2.2.2) (h : cHy M s n W H B g dd S P) : cHy m s n W H B g dd S P := by
  obtain ⟨hM, hW, hs, hcu, hsh, hok, hst, hly, hru⟩ := h
  have h7 := xob_7 hs
  have h8 := hok.1
  refine ⟨by show xNT ≤ m.2.2.2; rw [hn]; exact hM, by rw [h2]; exact hW, hs, by rw [h2]; exact hcu, ⟨by rw [e s (by omega)]; exact hsh.1, by rw [e s (by omega)]; exact hsh.2.1, by rw [e s (by omega)]; exact hsh.2.2.1, by rw [e s (by omega)]; exact hsh.2.2.2.1, fun f hf j hj => ?_⟩, hok, stC_k hst (fun b b1 b2 => e b (by omega)), hly, hru⟩
  rw [e (fA s f) (show (5 ≤ s + 1 + 1 + f ∧ s + 1 + 1 + f ≤ 9) ∨ (s ≤ s + 1 + 1 + f ∧ s + 1 + 1 + f ≤ s + 9) ∨ (42 ≤ s + 1 + 1 + f ∧ s + 1 + 1 + f ≤ 73) by omega)]
  exact hsh.2.2.2.2 f hf j hj
theorem cIn_k {M m : xMem} {s d n W H B dd : Nat} {g : Nat → Nat → Nat} {S : gLay × Nat} {P : Nat → gLay × Nat} {K : Nat → aKep} (e : ∀ a, (5 ≤ a ∧ a ≤ 9) ∨ (s ≤ a ∧ a ≤ s + 9) ∨ (42 ≤ a ∧ a ≤ 73) → m.1 a = M.1 a) (h2 : m.2.1 = M.2.1) (hn : m.2.2.2 = M.2.2.2) (h : cIn M s d n W H B g dd S P K) : cIn m s d n W H B g dd S P K := by
  obtain ⟨h1, hd, hdr, hne, hk, hz⟩ := h
  refine ⟨cHy_k e h2 hn h1, hd, by rw [h2]; exact hdr, hne, fun k hk3 => ⟨fun z => by rw [e 5 (by omega)]; exact (hk k hk3).1 z, fun q hq => ⟨by rw [e 5 (by omega)]; exact ((hk k hk3).2 q hq).1, stC_k ((hk k hk3).2 q hq).2 (fun b b1 b2 => e b (by omega))⟩⟩, fun r hr => ?_, fun t ht => ?_⟩
  · rw [e (42 + 2 * r) (by omega)]; exact hz.1 r hr
  · rw [e (54 + 2 * t) (by omega)]; exact hz.2 t ht
theorem oC_2 (M : xMem) (x y : Option Int32) : (oC M x y).2 = M.2 := by
  rcases x with _ | v
  · rcases y with _ | f <;> rfl
  · rfl
theorem oC_1 (M : xMem) (x y : Option Int32) {a : Nat} (h1 : a ≠ 1) (h2 : a ≠ 31) : (oC M x y).1 a = M.1 a := by
  rcases x with _ | v
  · rcases y with _ | f
    · rfl
    · funext k
      show (wI (wI M 1 12 f) 31 f.toNatClampNeg (M.1 31 f.toNatClampNeg + 1)).1 a k = M.1 a k
      rw [xI_wI, if_neg (fun z => h2 z.1), xI_wI, if_neg (fun z => h1 z.1)]
  · funext k
    show (wI M 1 11 v).1 a k = M.1 a k
    rw [xI_wI, if_neg (fun z => h1 z.1)]
theorem cIn_o {M m : xMem} {x y : Option Int32} {s d n W H B dd : Nat} {g : Nat → Nat → Nat} {S : gLay × Nat} {P : Nat → gLay × Nat} {K : Nat → aKep} (h : cS (oC M x y) m) (hc : cIn M s d n W H B g dd S P K) : cIn m s d n W H B g dd S P K := by
  have h7 := xob_7 hc.1.2.2.1
  refine cIn_k (M := M) (fun a ha => ?_) (by rw [h.1, oC_2]) (by rw [h.1, oC_2]) hc
  rw [h.2 a (by omega), oC_1 M x y (by omega) (by omega)]
