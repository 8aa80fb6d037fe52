/-! bits: out of kit/laws/BITS.to-paste -/
def bt (x : Int32) (i : Nat) : Bool := x.toBitVec.getLsbD i
theorem b_ext {x y : Int32} (h : ∀ i, i < 32 → bt x i = bt y i) : x = y := Int32.toBitVec_inj.mp (BitVec.eq_of_getLsbD_eq (fun i hi => h i hi))
theorem b_or (x y : Int32) (i : Nat) : bt (x ||| y) i = (bt x i || bt y i) := by unfold bt; rw [Int32.toBitVec_or, BitVec.getLsbD_or]
theorem b_and (x y : Int32) (i : Nat) : bt (x &&& y) i = (bt x i && bt y i) := by unfold bt; rw [Int32.toBitVec_and, BitVec.getLsbD_and]
theorem b_xor (x y : Int32) (i : Nat) : bt (x ^^^ y) i = (bt x i ^^ bt y i) := by unfold bt; rw [Int32.toBitVec_xor, BitVec.getLsbD_xor]
theorem b_big {x : Int32} {i : Nat} (h : 32 ≤ i) : bt x i = false := BitVec.getLsbD_of_ge _ _ h
theorem b_m1 : ∀ i, i < 32 → bt (-1) i = true := by decide +kernel
theorem b_0 (i : Nat) : bt 0 i = false := BitVec.getLsbD_zero
theorem s_l : ∀ n, n < 32 → ((nI n &&& 31).toBitVec.smod 32).toNat = n := by decide +kernel
theorem b_shl (n : Nat) (hn : n < 32) (x : Int32) {i : Nat} (hi : i < 32) : bt (x <<< (nI n &&& 31)) i = (decide (n ≤ i) && bt x (i - n)) := by
  unfold bt
  rw [Int32.toBitVec_shiftLeft]
  show (x.toBitVec <<< ((nI n &&& 31).toBitVec.smod 32).toNat).getLsbD i = _
  rw [s_l n hn, BitVec.getLsbD_shiftLeft]
  rcases Nat.lt_or_ge i n with h | h
  · simp [h, Nat.not_le.mpr h]
  · simp [hi, h, Nat.not_lt.mpr h]
theorem b_sshr (n : Nat) (hn : n < 32) (x : Int32) {i : Nat} (hi : i < 32) : bt (x >>> (nI n &&& 31)) i = if n + i < 32 then bt x (n + i) else bt x 31 := by
  unfold bt
  rw [Int32.toBitVec_shiftRight]
  show (x.toBitVec.sshiftRight ((nI n &&& 31).toBitVec.smod 32).toNat).getLsbD i = _
  rw [s_l n hn, BitVec.getLsbD_sshiftRight, BitVec.msb_eq_getLsbD_last]
  simp [hi]
/-! ===== bits of columns ===== -/
theorem b_ne {x y : Int32} : ¬ (x &&& y) = 0 ↔ ∃ i, i < 32 ∧ bt x i = true ∧ bt y i = true := by
  constructor
  · intro h
    apply Classical.byContradiction
    intro z
    refine h (b_ext fun i hi => ?_)
    rw [b_and, b_0]
    cases h1 : bt x i with
    | false => rfl
    | true =>
      cases h2 : bt y i with
      | false => rfl
      | true => exact absurd ⟨i, hi, h1, h2⟩ z
  · rintro ⟨i, hi, h1, h2⟩ h
    have := b_and x y i
    rw [h, b_0, h1, h2] at this
    cases this
theorem b_span0 : (List.range 17).all (fun x => (List.range 17).all (fun n => decide (16 < x + n) || (List.range 32).all (fun i => bt ((1 <<< ((nI x + nI n) &&& 31)) - (1 <<< (nI x &&& 31))) i == decide (x ≤ i ∧ i < x + n)))) = true := by decide +kernel
theorem b_span {x n i : Nat} (h : x + n ≤ 16) (hi : i < 32) : bt ((1 <<< ((nI x + nI n) &&& 31)) - (1 <<< (nI x &&& 31))) i = decide (x ≤ i ∧ i < x + n) := by
  have h1 := List.all_eq_true.mp b_span0 x (List.mem_range.mpr (by omega))
  have h2 := List.all_eq_true.mp h1 n (List.mem_range.mpr (by omega))
  rw [Bool.or_eq_true] at h2
  rcases h2 with h2 | h2
  · simp only [decide_eq_true_eq] at h2; omega
  · exact eq_of_beq (List.all_eq_true.mp h2 i (List.mem_range.mpr hi))
theorem b_one (i : Nat) : bt 1 i = decide (i = 0) := by
  rcases Nat.lt_or_ge i 32 with h | h
  · exact (by decide +kernel : ∀ i, i < 32 → bt 1 i = decide (i = 0)) i h
  · rw [b_big h, decide_eq_false (by omega)]
theorem b_test {x : Int32} {n : Nat} (hn : n < 32) : ¬ ((x >>> (nI n &&& 31)) &&& 1) = 0 ↔ bt x n = true := by
  rw [b_ne]
  constructor
  · rintro ⟨i, hi, h1, h2⟩
    rw [b_one] at h2
    have : i = 0 := by simpa using h2
    subst this
    rw [b_sshr n hn x (by omega), if_pos (by omega)] at h1
    exact h1
  · intro h
    exact ⟨0, by omega, by rw [b_sshr n hn x (by omega), if_pos (by omega)]; exact h, by rw [b_one]; rfl⟩
/-- x is the set of columns S, below W -/
def cols (W : Nat) (x : Int32) (S : Nat → Prop) : Prop := ∀ i, i < 32 → (bt x i = true ↔ i < W ∧ S i)
theorem cols_and {W : Nat} {x y : Int32} {S T : Nat → Prop} (hW : W ≤ 16) (hx : cols W x S) (hy : cols W y T) : (¬ (x &&& y) = 0) ↔ ∃ i, i < W ∧ S i ∧ T i := by
  rw [b_ne]
  constructor
  · rintro ⟨i, hi, h1, h2⟩
    exact ⟨i, ((hx i hi).mp h1).1, ((hx i hi).mp h1).2, ((hy i hi).mp h2).2⟩
  · rintro ⟨i, h0, h1, h2⟩
    have : i < 32 := by omega
    exact ⟨i, this, (hx i this).mpr ⟨h0, h1⟩, (hy i this).mpr ⟨h0, h2⟩⟩

theorem cols_andn {W : Nat} {x y : Int32} {S T : Nat → Prop} (hx : cols W x S) (hy : cols W y T) : cols W (x &&& (y ^^^ (-1))) (fun i => S i ∧ ¬ T i) := by
  intro i hi
  rw [b_and, b_xor, b_m1 i hi]
  have h1 := hx i hi
  have h2 := hy i hi
  cases e1 : bt x i <;> cases e2 : bt y i <;> simp_all
theorem cols_or {W : Nat} {x y : Int32} {S T : Nat → Prop} (hx : cols W x S) (hy : cols W y T) : cols W (x ||| y) (fun i => S i ∨ T i) := by
  intro i hi
  rw [b_or]
  have h1 := hx i hi
  have h2 := hy i hi
  cases e1 : bt x i <;> cases e2 : bt y i <;> simp_all
theorem cols_span {W x n : Nat} (h : x + n ≤ W) (hW : W ≤ 16) : cols W ((1 <<< ((nI x + nI n) &&& 31)) - (1 <<< (nI x &&& 31))) (fun i => x ≤ i ∧ i < x + n) := by
  intro i hi
  rw [b_span (by omega) hi]
  simp only [decide_eq_true_eq]
  constructor
  · intro q; exact ⟨by omega, q⟩
  · intro q; exact q.2
theorem cols_0 (W : Nat) : cols W 0 (fun _ => False) := by
  intro i hi
  rw [b_0]
  simp
theorem cols_c {W : Nat} {x : Int32} {S T : Nat → Prop} (h : cols W x S) (e : ∀ i, i < W → (S i ↔ T i)) : cols W x T := by
  intro i hi
  rw [h i hi]
  constructor
  · intro q; exact ⟨q.1, (e i q.1).mp q.2⟩
  · intro q; exact ⟨q.1, (e i q.1).mpr q.2⟩
theorem cols_bit {W : Nat} {x : Int32} {S : Nat → Prop} (h : cols W x S) (hW : W ≤ 16) {i : Nat} (hi : i < W) : (¬ ((x >>> (nI i &&& 31)) &&& 1) = 0) ↔ S i := by
  rw [b_test (by omega), h i (by omega)]
  exact ⟨fun q => q.2, fun q => ⟨hi, q⟩⟩
/-! ===== a list kept in order ===== -/
theorem px_down {P : Nat → Prop} (h : ∀ i, (0 < i → P (i - 1)) → P i) : ∀ i, P i
  | 0 => h 0 (fun q => absurd q (Nat.lt_irrefl 0))
  | i + 1 => h (i + 1) (fun _ => px_down h i)
theorem px_wf {P : Nat → Prop} (N : Nat) (h : ∀ i, i ≤ N → (∀ k, i < k → k ≤ N → P k) → P i) (i : Nat) (hi : i ≤ N) : P i := by
  have : ∀ t i, i + t = N → ∀ k, i ≤ k → k ≤ N → P k := by
    intro t
    induction t with
    | zero => intro i e k h1 h2; exact h k h2 (fun q h3 h4 => by omega)
    | succ t ih =>
      intro i e k h1 h2
      by_cases hk : k = i
      · subst hk; exact h k h2 (fun q h3 h4 => ih (k + 1) (by omega) q (by omega) h4)
      · exact ih (i + 1) (by omega) k (by omega) h2
  exact this (N - i) i (by omega) i (Nat.le_refl _) hi
def gIns (L : List gR) (i : Nat) (r : gR) : List gR := L.take i ++ r :: L.drop i
theorem gIns_sort {L : List gR} {i : Nat} {r : gR} (hs : gSort L) (hl : ∀ k q, k < i → L[k]? = some q → gEnc q < gEnc r) (hg : ∀ k q, i ≤ k → L[k]? = some q → gEnc r < gEnc q) : gSort (gIns L i r) := by
  unfold gIns
  refine List.pairwise_append.mpr ⟨hs.sublist (List.take_sublist _ _), List.pairwise_cons.mpr ⟨fun b hb => ?_, hs.sublist (List.drop_sublist _ _)⟩, fun a ha b hb => ?_⟩
  · obtain ⟨k, hk⟩ := List.getElem?_of_mem hb
    rw [List.getElem?_drop] at hk
    exact hg _ _ (by omega) hk
  · obtain ⟨k, hk⟩ := List.getElem?_of_mem ha
    rw [List.getElem?_take] at hk
    split at hk
    · rename_i hki
      have h1 := hl k a hki hk
      rcases List.mem_cons.mp hb with e | e
      · rw [e]; exact h1
      · obtain ⟨k2, hk2⟩ := List.getElem?_of_mem e
        rw [List.getElem?_drop] at hk2
        have h2 := hg _ _ (by omega) hk2
        omega
    · cases hk
theorem gIns_mem {L : List gR} {i : Nat} {r q : gR} : q ∈ gIns L i r ↔ q ∈ L ∨ q = r := by
  unfold gIns
  rw [List.mem_append, List.mem_cons]
  constructor
  · rintro (h | h | h)
    · exact Or.inl (List.mem_of_mem_take h)
    · exact Or.inr h
    · exact Or.inl (List.mem_of_mem_drop h)
  · rintro (h | h)
    · rw [← List.take_append_drop i L, List.mem_append] at h
      rcases h with h | h
      · exact Or.inl h
      · exact Or.inr (Or.inr h)
    · exact Or.inr (Or.inl h)
theorem gIns_len {L : List gR} {i : Nat} {r : gR} (hi : i ≤ L.length) : (gIns L i r).length = L.length + 1 := by
  unfold gIns
  rw [List.length_append, List.length_cons, List.length_take, List.length_drop]
  omega
theorem gIns_at {L : List gR} {i : Nat} {r : gR} (hi : i ≤ L.length) (k : Nat) : (gIns L i r)[k]? = if k < i then L[k]? else if k = i then some r else L[k - 1]? := by
  unfold gIns
  have hl : (L.take i).length = i := by rw [List.length_take]; omega
  by_cases h : k < i
  · rw [if_pos h, List.getElem?_append_left (by omega), List.getElem?_take, if_pos h]
  · rw [if_neg h, List.getElem?_append_right (by omega), hl]
    by_cases h2 : k = i
    · rw [if_pos h2, h2, Nat.sub_self]; rfl
    · rw [if_neg h2]
      obtain ⟨m, hm⟩ : ∃ m, k - i = m + 1 := ⟨k - i - 1, by omega⟩
      rw [hm, List.getElem?_cons_succ, List.getElem?_drop]
      congr 1
      omega
/-- somewhere it fits -/
theorem gIns_pos {L : List gR} {r : gR} (hs : gSort L) (hne : ∀ q ∈ L, gEnc q ≠ gEnc r) : ∃ i, i ≤ L.length ∧ (∀ k q, k < i → L[k]? = some q → gEnc q < gEnc r) ∧ ∀ k q, i ≤ k → L[k]? = some q → gEnc r < gEnc q := by
  induction L with
  | nil => exact ⟨0, Nat.le_refl _, fun k q h => by omega, fun k q _ h => by simp at h⟩
  | cons a t ih =>
    have hp := List.pairwise_cons.mp hs
    by_cases ha : gEnc r < gEnc a
    · refine ⟨0, Nat.zero_le _, fun k q h => by omega, fun k q _ h => ?_⟩
      rcases List.mem_cons.mp (List.mem_of_getElem? h) with e | e
      · rw [e]; exact ha
      · have := hp.1 q e; omega
    · obtain ⟨i, h1, h2, h3⟩ := ih hp.2 (fun q hq => hne q (List.mem_cons_of_mem _ hq))
      refine ⟨i + 1, by rw [List.length_cons]; omega, fun k q hk h => ?_, fun k q hk h => ?_⟩
      · cases k with
        | zero => rw [List.getElem?_cons_zero] at h; cases h; have := hne a List.mem_cons_self; omega
        | succ k => rw [List.getElem?_cons_succ] at h; exact h2 k q (by omega) h
      · cases k with
        | zero => omega
        | succ k => rw [List.getElem?_cons_succ] at h; exact h3 k q (by omega) h
