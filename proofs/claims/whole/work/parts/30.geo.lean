/-! ===== FREE rectangles: mathematics ===== -/
/-- a rectangle: x, y, across, down -/
abbrev gR : Type := Nat × Nat × Nat × Nat
def gEnc (r : gR) : Nat := ((r.2.1 * 32 + r.1) * 32 + r.2.2.1) * 32 + r.2.2.2
/-- o i j: the place is taken -/
def gFree (W H : Nat) (o : Nat → Nat → Prop) (x y w h : Nat) : Prop := x + w ≤ W ∧ y + h ≤ H ∧ ∀ i j, x ≤ i → i < x + w → y ≤ j → j < y + h → ¬ o i j
def gMax (W H : Nat) (o : Nat → Nat → Prop) (r : gR) : Prop :=
  0 < r.2.2.1 ∧ 0 < r.2.2.2 ∧ gFree W H o r.1 r.2.1 r.2.2.1 r.2.2.2 ∧
  (r.1 = 0 ∨ ∃ j, r.2.1 ≤ j ∧ j < r.2.1 + r.2.2.2 ∧ o (r.1 - 1) j) ∧ (r.2.1 = 0 ∨ ∃ i, r.1 ≤ i ∧ i < r.1 + r.2.2.1 ∧ o i (r.2.1 - 1)) ∧
  (r.1 + r.2.2.1 = W ∨ ∃ j, r.2.1 ≤ j ∧ j < r.2.1 + r.2.2.2 ∧ o (r.1 + r.2.2.1) j) ∧ (r.2.1 + r.2.2.2 = H ∨ ∃ i, r.1 ≤ i ∧ i < r.1 + r.2.2.1 ∧ o i (r.2.1 + r.2.2.2))
def gSort (L : List gR) : Prop := L.Pairwise (fun a b => gEnc a < gEnc b)
def gIs (W H : Nat) (o : Nat → Nat → Prop) (L : List gR) : Prop := gSort L ∧ ∀ r, r ∈ L ↔ gMax W H o r
theorem gSort_ext {L L' : List gR} (h : gSort L) (h' : gSort L') (e : ∀ r, r ∈ L ↔ r ∈ L') : L = L' := by
  induction L generalizing L' with
  | nil =>
    cases L' with
    | nil => rfl
    | cons b t => exact absurd ((e b).mpr List.mem_cons_self) List.not_mem_nil
  | cons a t ih =>
    cases L' with
    | nil => exact absurd ((e a).mp List.mem_cons_self) List.not_mem_nil
    | cons b t' =>
      have ha := List.pairwise_cons.mp h
      have hb := List.pairwise_cons.mp h'
      have hab : a = b := by
        rcases List.mem_cons.mp ((e a).mp List.mem_cons_self) with h1 | h1
        · exact h1
        · rcases List.mem_cons.mp ((e b).mpr List.mem_cons_self) with h2 | h2
          · exact h2.symm
          · have := hb.1 a h1; have := ha.1 b h2; omega
      subst hab
      congr 1
      refine ih ha.2 hb.2 (fun r => ?_)
      constructor
      · intro hr
        rcases List.mem_cons.mp ((e r).mp (List.mem_cons_of_mem _ hr)) with h1 | h1
        · subst h1; have := ha.1 r hr; omega
        · exact h1
      · intro hr
        rcases List.mem_cons.mp ((e r).mpr (List.mem_cons_of_mem _ hr)) with h1 | h1
        · subst h1; have := hb.1 r hr; omega
        · exact h1
theorem gIs_uniq {W H : Nat} {o : Nat → Nat → Prop} {L L' : List gR} (h : gIs W H o L) (h' : gIs W H o L') : L = L' := gSort_ext h.1 h'.1 (fun r => (h.2 r).trans (h'.2 r).symm)
theorem gMax_w {W H : Nat} {o : Nat → Nat → Prop} {r r' : gR} (h : gMax W H o r) (h' : gMax W H o r') (e1 : r.1 = r'.1) (e2 : r.2.1 = r'.2.1) (e3 : r.2.2.2 = r'.2.2.2) : r = r' := by
  obtain ⟨x, y, w, d⟩ := r
  obtain ⟨x', y', w', d'⟩ := r'
  simp only at e1 e2 e3
  subst e1; subst e2; subst e3
  have key : ∀ a b : Nat, gMax W H o (x, y, a, d) → gMax W H o (x, y, b, d) → ¬ a < b := by
    intro a b ha hb hlt
    obtain ⟨-, -, -, -, -, hr, -⟩ := ha
    obtain ⟨-, -, ⟨f1, f2, f3⟩, -⟩ := hb
    simp only at hr f1 f2 f3
    rcases hr with hr | ⟨j, j1, j2, j3⟩
    · omega
    · exact f3 (x + a) j (by omega) (by omega) j1 j2 j3
  have h1 := key w w' h h'
  have h2 := key w' w h' h
  have : w = w' := by omega
  rw [this]
theorem pig {α β : Type} [DecidableEq β] : ∀ (L : List α) (P : List β) (g : α → β), L.Nodup → (∀ a ∈ L, g a ∈ P) → (∀ a ∈ L, ∀ b ∈ L, g a = g b → a = b) → L.length ≤ P.length
  | [], _, _, _, _, _ => Nat.zero_le _
  | a :: t, P, g, hn, hg, hi => by
    have hn' := List.nodup_cons.mp hn
    have ih := pig t (P.erase (g a)) g hn'.2 (fun b hb => by
      have hne : g b ≠ g a := fun e => hn'.1 (by rw [← hi b (List.mem_cons_of_mem _ hb) a List.mem_cons_self e]; exact hb)
      exact (List.mem_erase_of_ne hne).mpr (hg b (List.mem_cons_of_mem _ hb))) (fun b hb c hc => hi b (List.mem_cons_of_mem _ hb) c (List.mem_cons_of_mem _ hc))
    have hm := hg a List.mem_cons_self
    rw [List.length_erase_of_mem hm] at ih
    have := List.length_pos_of_mem hm
    rw [List.length_cons]
    omega
def gTri (A B C : List Nat) : List (Nat × Nat × Nat) := A.flatMap fun a => B.flatMap fun b => C.map fun c => (a, b, c)
theorem gTri_len (A B C : List Nat) : (gTri A B C).length = A.length * (B.length * C.length) := by
  unfold gTri
  induction A with
  | nil => simp
  | cons a t ih =>
    rw [List.flatMap_cons, List.length_append, ih]
    have : (B.flatMap fun b => C.map fun c => (a, b, c)).length = B.length * C.length := by
      clear ih
      induction B with
      | nil => simp
      | cons b s ih2 => rw [List.flatMap_cons, List.length_append, List.length_map, ih2, List.length_cons, Nat.succ_mul]; omega
    rw [this, List.length_cons, Nat.succ_mul]; omega
theorem gTri_mem {A B C : List Nat} {a b c : Nat} (h1 : a ∈ A) (h2 : b ∈ B) (h3 : c ∈ C) : (a, b, c) ∈ gTri A B C :=
  List.mem_flatMap.mpr ⟨a, h1, List.mem_flatMap.mpr ⟨b, h2, List.mem_map.mpr ⟨c, h3, rfl⟩⟩⟩
/-- what takes places: eight rectangles at most; q f: it is there -/
def gOcc (q : Nat → Prop) (fx fy fw fh : Nat → Nat) (i j : Nat) : Prop := ∃ f, f < 8 ∧ q f ∧ fx f ≤ i ∧ i < fx f + fw f ∧ fy f ≤ j ∧ j < fy f + fh f
theorem gIs_len {W H : Nat} {q : Nat → Prop} {fx fy fw fh : Nat → Nat} {L : List gR} (h : gSort L) (hm : ∀ r ∈ L, gMax W H (gOcc q fx fy fw fh) r) : L.length ≤ 729 := by
  have hnd : L.Nodup := h.imp (fun {a b} hab e => by subst e; omega)
  have := pig L (gTri (0 :: (List.range 8).map (fun f => fy f + fh f)) (H :: (List.range 8).map fy) (0 :: (List.range 8).map (fun f => fx f + fw f))) (fun r => (r.2.1, r.2.1 + r.2.2.2, r.1)) hnd ?_ ?_
  · rw [gTri_len] at this
    simpa using this
  · intro r hr
    obtain ⟨p1, p2, pf, hl, ht, -, hb⟩ := hm r hr
    refine gTri_mem ?_ ?_ ?_
    · rcases ht with e | ⟨i, i1, i2, f, hf, hq, g1, g2, g3, g4⟩
      · rw [e]; exact List.mem_cons_self
      · refine List.mem_cons_of_mem _ (List.mem_map.mpr ⟨f, List.mem_range.mpr hf, ?_⟩)
        by_cases hy : r.2.1 < fy f + fh f
        · exfalso
          by_cases h0 : r.2.1 = 0
          · exact pf.2.2 i r.2.1 i1 i2 (Nat.le_refl _) (by omega) ⟨f, hf, hq, g1, g2, by omega, hy⟩
          · exact pf.2.2 i r.2.1 i1 i2 (Nat.le_refl _) (by omega) ⟨f, hf, hq, g1, g2, by omega, hy⟩
        · by_cases h0 : r.2.1 = 0
          · omega
          · omega
    · rcases hb with e | ⟨i, i1, i2, f, hf, hq, g1, g2, g3, g4⟩
      · rw [e]; exact List.mem_cons_self
      · refine List.mem_cons_of_mem _ (List.mem_map.mpr ⟨f, List.mem_range.mpr hf, ?_⟩)
        by_cases hy : fy f < r.2.1 + r.2.2.2
        · exfalso
          exact pf.2.2 i (r.2.1 + r.2.2.2 - 1) i1 i2 (by omega) (by omega) ⟨f, hf, hq, g1, g2, by omega, by omega⟩
        · omega
    · rcases hl with e | ⟨j, j1, j2, f, hf, hq, g1, g2, g3, g4⟩
      · rw [e]; exact List.mem_cons_self
      · refine List.mem_cons_of_mem _ (List.mem_map.mpr ⟨f, List.mem_range.mpr hf, ?_⟩)
        by_cases hx : r.1 < fx f + fw f
        · exfalso
          exact pf.2.2 r.1 j (Nat.le_refl _) (by omega) j1 j2 ⟨f, hf, hq, by omega, hx, g3, g4⟩
        · omega
  · intro a ha b hb e
    simp only [Prod.mk.injEq] at e
    exact gMax_w (hm a ha) (hm b hb) e.2.2 e.1 (by omega)
theorem gEnc_lt {r r' : gR} (hx : r.1 < 32) (hw : r.2.2.1 < 32) (hh : r.2.2.2 < 32) (hx' : r'.1 < 32) (hw' : r'.2.2.1 < 32) (hh' : r'.2.2.2 < 32) : gEnc r < gEnc r' ↔ r.2.1 < r'.2.1 ∨ (r.2.1 = r'.2.1 ∧ (r.1 < r'.1 ∨ (r.1 = r'.1 ∧ (r.2.2.1 < r'.2.2.1 ∨ (r.2.2.1 = r'.2.2.1 ∧ r.2.2.2 < r'.2.2.2))))) := by
  unfold gEnc
  omega
