/-! ===== counting places; bits; scores ===== -/
noncomputable def ctN (q : Nat → Prop) : Nat → Nat
  | 0 => 0
  | n + 1 => ctN q n + @ite Nat (q n) (Classical.propDecidable _) 1 0
theorem ctN_le (q : Nat → Prop) : ∀ n, ctN q n ≤ n
  | 0 => Nat.le_refl _
  | n + 1 => by
    have := ctN_le q n
    rw [ctN]
    split <;> omega
theorem ctN_f {q : Nat → Prop} (h : ∀ i, ¬ q i) : ∀ n, ctN q n = 0
  | 0 => rfl
  | n + 1 => by rw [ctN, ctN_f h n, if_neg (h n)]
theorem ctN_or {q r s : Nat → Prop} (h : ∀ i, s i ↔ (q i ∨ r i)) (hd : ∀ i, q i → ¬ r i) : ∀ n, ctN s n = ctN q n + ctN r n
  | 0 => rfl
  | n + 1 => by
    have ih := ctN_or h hd n
    have h1 := h n
    have h2 := hd n
    rw [ctN, ctN, ctN, ih]
    by_cases a : q n
    · rw [if_pos (h1.mpr (Or.inl a)), if_pos a, if_neg (h2 a)]; omega
    · by_cases b : r n
      · rw [if_pos (h1.mpr (Or.inr b)), if_neg a, if_pos b]; omega
      · rw [if_neg (fun z => (h1.mp z).elim a b), if_neg a, if_neg b]; omega
theorem ctN_iv (x w : Nat) : ∀ n, ctN (fun i => x ≤ i ∧ i < x + w) n = (if n ≤ x then 0 else if n ≤ x + w then n - x else w)
  | 0 => by rw [if_pos (Nat.zero_le _)]; rfl
  | n + 1 => by
    rw [ctN, ctN_iv x w n]
    show _ + @ite Nat (x ≤ n ∧ n < x + w) (Classical.propDecidable _) 1 0 = _
    by_cases a : x ≤ n ∧ n < x + w
    · rw [if_pos a]; (repeat' split) <;> omega
    · rw [if_neg a]; (repeat' split) <;> omega
noncomputable def ct2 (W : Nat) (q : Nat → Nat → Prop) : Nat → Nat
  | 0 => 0
  | j + 1 => ct2 W q j + ctN (fun i => q i j) W
theorem ct2_le (W : Nat) (q : Nat → Nat → Prop) : ∀ H, ct2 W q H ≤ W * H
  | 0 => Nat.zero_le _
  | j + 1 => by
    have := ct2_le W q j
    have h2 := ctN_le (fun i => q i j) W
    rw [ct2, Nat.mul_succ]; omega
theorem ct2_c {W H : Nat} {q r : Nat → Nat → Prop} (h : ∀ i j, q i j ↔ r i j) : ct2 W q H = ct2 W r H := by
  have : q = r := by funext i j; exact propext (h i j)
  rw [this]
theorem ct2_f {W : Nat} {q : Nat → Nat → Prop} (h : ∀ i j, ¬ q i j) : ∀ H, ct2 W q H = 0
  | 0 => rfl
  | j + 1 => by rw [ct2, ct2_f h j, ctN_f (fun i => h i j)]
theorem ct2_or {W : Nat} {q r s : Nat → Nat → Prop} (h : ∀ i j, s i j ↔ (q i j ∨ r i j)) (hd : ∀ i j, q i j → ¬ r i j) : ∀ H, ct2 W s H = ct2 W q H + ct2 W r H
  | 0 => rfl
  | j + 1 => by
    have ih := ct2_or (W := W) h hd j
    have e := ctN_or (fun i => h i j) (fun i => hd i j) W
    rw [ct2, ct2, ct2, ih, e]; omega
theorem ct2_rc {W x w y h : Nat} (hx : x + w ≤ W) : ∀ H, ct2 W (fun i j => (x ≤ i ∧ i < x + w) ∧ y ≤ j ∧ j < y + h) H = w * (if H ≤ y then 0 else if H ≤ y + h then H - y else h)
  | 0 => by rw [if_pos (Nat.zero_le _)]; rfl
  | j + 1 => by
    rw [ct2, ct2_rc hx j]
    by_cases a : y ≤ j ∧ j < y + h
    · have e : ctN (fun i => (x ≤ i ∧ i < x + w) ∧ y ≤ j ∧ j < y + h) W = w := by
        have e0 : (fun i => (x ≤ i ∧ i < x + w) ∧ y ≤ j ∧ j < y + h) = (fun i => x ≤ i ∧ i < x + w) := by funext i; exact propext ⟨fun z => z.1, fun z => ⟨z, a⟩⟩
        rw [e0, ctN_iv]
        (repeat' split) <;> omega
      have k : (if j + 1 ≤ y then 0 else if j + 1 ≤ y + h then j + 1 - y else h) = (if j ≤ y then 0 else if j ≤ y + h then j - y else h) + 1 := by (repeat' split) <;> omega
      rw [e, k, Nat.mul_add, Nat.mul_one]
    · have e : ctN (fun i => (x ≤ i ∧ i < x + w) ∧ y ≤ j ∧ j < y + h) W = 0 := ctN_f (fun i z => a z.2) W
      have k : (if j + 1 ≤ y then 0 else if j + 1 ≤ y + h then j + 1 - y else h) = (if j ≤ y then 0 else if j ≤ y + h then j - y else h) := by (repeat' split) <;> omega
      rw [e, k, Nat.add_zero]
theorem tk_ct {n W H : Nat} {A D : Nat → Nat} {lay : gLay} (ho : lyOK n W H A D lay) {p : Nat} (hp : p < 8) : ∀ f, tkN A D lay (nI p) f = ct2 W (fun i j => ∃ k, k < f ∧ gCov A D lay p k i j) H
  | 0 => by
    rw [ct2_f (fun i j z => by obtain ⟨k, hk, -⟩ := z; omega)]; rfl
  | f + 1 => by
    have ih := tk_ct ho hp f
    have same : (∀ i j, ¬ gCov A D lay p f i j) → ct2 W (fun i j => ∃ k, k < f ∧ gCov A D lay p k i j) H = ct2 W (fun i j => ∃ k, k < f + 1 ∧ gCov A D lay p k i j) H := by
      intro hn
      refine ct2_c (fun i j => ⟨?_, ?_⟩)
      · rintro ⟨k, hk, c⟩; exact ⟨k, by omega, c⟩
      · rintro ⟨k, hk, c⟩
        rcases Nat.lt_or_ge k f with z | z
        · exact ⟨k, z, c⟩
        · have e : k = f := by omega
          subst e
          exact absurd c (hn i j)
    cases hc : lay f with
    | none =>
      rw [tkN_n hc, ih]
      exact same (fun i j c => by obtain ⟨x, y, t, e, -⟩ := c; rw [hc] at e; cases e)
    | some q =>
      obtain ⟨p', x, y, t⟩ := q
      obtain ⟨b1, b2, b3, b4⟩ := ho.2.1 f p' x y t hc
      rw [tkN_s hc]
      by_cases z : p' = p
      · subst z
        rw [if_pos rfl, ih]
        have e1 : A f * D f = gNX A D f t * gNY A D f t := by
          unfold gNX gNY
          by_cases z : t = 0
          · rw [if_pos z, if_pos z]
          · rw [if_neg z, if_neg z]; exact Nat.mul_comm _ _
        have e2 := ct2_rc (W := W) (y := y) (h := gNY A D f t) b3 H
        rw [show (if H ≤ y then 0 else if H ≤ y + gNY A D f t then H - y else gNY A D f t) = gNY A D f t by (repeat' split) <;> omega] at e2
        rw [e1, ← e2]
        symm
        refine ct2_or (fun i j => ⟨?_, ?_⟩) (fun i j => ?_) H
        · rintro ⟨k, hk, c⟩
          rcases Nat.lt_or_ge k f with z | z
          · exact Or.inl ⟨k, z, c⟩
          · have e : k = f := by omega
            subst e
            obtain ⟨x2, y2, t2, e, c1, c2, c3, c4⟩ := c
            rw [hc] at e; cases e
            exact Or.inr ⟨⟨c1, c2⟩, c3, c4⟩
        · rintro (⟨k, hk, c⟩ | ⟨⟨c1, c2⟩, c3, c4⟩)
          · exact ⟨k, by omega, c⟩
          · exact ⟨f, by omega, x, y, t, hc, c1, c2, c3, c4⟩
        · rintro ⟨k, hk, c⟩ ⟨⟨c1, c2⟩, c3, c4⟩
          have := ho.2.2 k f p' i j c ⟨x, y, t, hc, c1, c2, c3, c4⟩
          omega
      · rw [if_neg (fun e => z ((nI_eq (by omega) (by omega)).mp e)), ih]
        exact same (fun i j c => by obtain ⟨x2, y2, t2, e, -⟩ := c; rw [hc] at e; cases e; exact z rfl)
theorem tk_le {n W H : Nat} {A D : Nat → Nat} {lay : gLay} (ho : lyOK n W H A D lay) (hW : W ≤ 16) (hH : H ≤ 16) {p : Nat} (hp : p < 8) (f : Nat) : tkN A D lay (nI p) f ≤ 256 := by
  rw [tk_ct ho hp]
  exact Nat.le_trans (ct2_le W _ H) (Nat.mul_le_mul hW hH)
theorem tk_m1 {A D : Nat → Nat} {lay : gLay} (hb : lyB lay) : ∀ f, tkN A D lay (-1) f = 0
  | 0 => rfl
  | f + 1 => by
    cases hc : lay f with
    | none => rw [tkN_n hc, tk_m1 hb f]
    | some q =>
      obtain ⟨p, x, y, t⟩ := q
      have := hb f p x y t hc
      rw [tkN_s hc, if_neg, tk_m1 hb f]
      intro z
      have z := congrArg Int32.toInt z
      rw [nI_toInt (by omega)] at z
      revert z
      simp only [Int32.reduceToInt]
      omega
/-- places taken on the last page -/
def lsN (A D : Nat → Nat) (lay : gLay) (n : Nat) : Nat := tkN A D lay (nI (pgL lay 8) - 1) n
theorem ls_0 {A D : Nat → Nat} {lay : gLay} (hb : lyB lay) {n : Nat} (h : pgL lay 8 = 0) : lsN A D lay n = 0 := by
  unfold lsN; rw [h]; exact tk_m1 hb n
theorem ls_p {A D : Nat → Nat} {lay : gLay} {n p : Nat} (h : pgL lay 8 = p + 1) : lsN A D lay n = tkN A D lay (nI p) n := by
  unfold lsN; rw [h, nI_pred]
theorem ls_le {n W H : Nat} {A D : Nat → Nat} {lay : gLay} (ho : lyOK n W H A D lay) (hb : lyB lay) (hW : W ≤ 16) (hH : H ≤ 16) : lsN A D lay n ≤ 256 := by
  have h8 := pgL_le hb 8
  cases h : pgL lay 8 with
  | zero => rw [ls_0 hb h]; omega
  | succ p => rw [ls_p h]; exact tk_le ho hW hH (by omega) n
def msI (lay : gLay) : Nat → Int32
  | 0 => 0
  | f + 1 => if lay f = none then msI lay f ||| (1 <<< (nI f &&& 31)) else msI lay f
def msB (lay : gLay) : Nat → Nat
  | 0 => 0
  | f + 1 => if lay f = none then msB lay f + 2 ^ f else msB lay f
theorem msI_n {lay : gLay} {f : Nat} (h : lay f = none) : msI lay (f + 1) = msI lay f ||| (1 <<< (nI f &&& 31)) := by rw [msI, if_pos h]
theorem msI_s {lay : gLay} {f : Nat} (h : ¬ lay f = none) : msI lay (f + 1) = msI lay f := by rw [msI, if_neg h]
theorem msB_lt (lay : gLay) : ∀ f, msB lay f < 2 ^ f
  | 0 => by rw [msB]; decide
  | f + 1 => by
    have := msB_lt lay f
    rw [msB, Nat.pow_succ]
    split <;> omega
theorem or_pw : ∀ f, f < 8 → ∀ a, a < 2 ^ f → nI a ||| (1 <<< (nI f &&& 31)) = nI (a + 2 ^ f) := by decide +kernel
theorem ms_I (lay : gLay) : ∀ f, f ≤ 8 → msI lay f = nI (msB lay f)
  | 0, _ => rfl
  | f + 1, h => by
    have ih := ms_I lay f (by omega)
    rw [msI, msB, ih]
    by_cases e : lay f = none
    · rw [if_pos e, if_pos e]; exact or_pw f (by omega) _ (msB_lt lay f)
    · rw [if_neg e, if_neg e]
def kern : Nat → Nat → Nat
  | 0, _ => 0
  | k + 1, v => if v = 0 then 0 else kern k (v &&& (v - 1)) + 1
def tzB : Nat → Nat → Bool
  | 0, v => v == 0
  | k + 1, v => tzB k (v &&& (v - 1))
theorem tz_all : ∀ v, v < 256 → tzB 8 v = true := by decide +kernel
theorem kern_pw : ∀ f, f < 8 → ∀ a, a < 2 ^ f → kern 8 (a + 2 ^ f) = kern 8 a + 1 := by decide +kernel
theorem and_pr : ∀ v, v < 256 → ¬ v = 0 → nI v &&& (nI v - 1) = nI (v &&& (v - 1)) ∧ v &&& (v - 1) < 256 := by decide +kernel
theorem ms_k (lay : gLay) : ∀ f, f ≤ 8 → kern 8 (msB lay f) + stL lay f = f
  | 0, _ => rfl
  | f + 1, h => by
    have ih := ms_k lay f (by omega)
    rw [msB]
    cases e : lay f with
    | none => rw [if_pos rfl, kern_pw f (by omega) _ (msB_lt lay f), stL_n e]; omega
    | some q =>
      obtain ⟨p, x, y, t⟩ := q
      rw [if_neg (by simp), stL_s e]; omega
/-- frames left over, pages, places on the last page: as one number -/
def scN (n : Nat) (A D : Nat → Nat) (lay : gLay) : Nat := ((n - stL lay 8) * 9 + pgL lay 8) * 257 + lsN A D lay n
noncomputable def bsG (sc : Nat → Nat → Nat) : Nat → Option (Nat × Nat)
  | 0 => none
  | k + 1 => match bsG sc k with
    | none => some (k / 3, k % 3)
    | some q => if sc (k / 3) (k % 3) < sc q.1 q.2 then some (k / 3, k % 3) else some q
theorem k3 {i j : Nat} (hj : j < 3) : (3 * i + j) / 3 = i ∧ (3 * i + j) % 3 = j := by omega
theorem bsG_n {sc : Nat → Nat → Nat} {i j : Nat} (hj : j < 3) (h : bsG sc (3 * i + j) = none) : bsG sc (3 * i + (j + 1)) = some (i, j) := by
  rw [← Nat.add_assoc, bsG, h, (k3 hj).1, (k3 hj).2]
theorem bsG_l {sc : Nat → Nat → Nat} {i j : Nat} {q : Nat × Nat} (hj : j < 3) (h : bsG sc (3 * i + j) = some q) (hl : sc i j < sc q.1 q.2) : bsG sc (3 * i + (j + 1)) = some (i, j) := by
  rw [← Nat.add_assoc, bsG, h, (k3 hj).1, (k3 hj).2]
  show (if sc i j < sc q.1 q.2 then _ else _) = _
  rw [if_pos hl]
theorem bsG_k {sc : Nat → Nat → Nat} {i j : Nat} {q : Nat × Nat} (hj : j < 3) (h : bsG sc (3 * i + j) = some q) (hl : ¬ sc i j < sc q.1 q.2) : bsG sc (3 * i + (j + 1)) = some q := by
  rw [← Nat.add_assoc, bsG, h, (k3 hj).1, (k3 hj).2]
  show (if sc i j < sc q.1 q.2 then _ else _) = _
  rw [if_neg hl]
theorem bsG_in {sc : Nat → Nat → Nat} : ∀ k q, k ≤ 12 → bsG sc k = some q → q.1 < 4 ∧ q.2 < 3
  | 0, q, _, h => by cases h
  | k + 1, q, hk, h => by
    have ih := bsG_in (sc := sc) k
    rw [bsG] at h
    cases hb : bsG sc k with
    | none => rw [hb] at h; cases h; exact ⟨by show k / 3 < 4; omega, by show k % 3 < 3; omega⟩
    | some q' =>
      rw [hb] at h
      have h : (if sc (k / 3) (k % 3) < sc q'.1 q'.2 then some (k / 3, k % 3) else some q') = some q := h
      split at h
      · cases h; exact ⟨by show k / 3 < 4; omega, by show k % 3 < 3; omega⟩
      · have e := Option.some.inj h
        rw [← e]; exact ih q' (by omega) hb
theorem bsG_12 (sc : Nat → Nat → Nat) : ∀ k, bsG sc (k + 1) ≠ none := fun k => by
  rw [bsG]
  cases bsG sc k with
  | none => exact fun z => by cases z
  | some q =>
    show (if sc (k / 3) (k % 3) < sc q.1 q.2 then some (k / 3, k % 3) else some q) ≠ none
    split <;> exact fun z => by cases z
/-- the best so far: its pair, a number of it -/
def bW : Option (Nat × Nat) → Int32
  | none => -9
  | some q => nI (10 * q.1 + q.2)
def bV (v : Nat → Nat → Nat) : Option (Nat × Nat) → Int32
  | none => 0
  | some q => nI (v q.1 q.2)
theorem bW_n {sc : Nat → Nat → Nat} {k : Nat} (hk : k ≤ 12) (h : bW (bsG sc k) = -9) : bsG sc k = none := by
  cases hb : bsG sc k with
  | none => rfl
  | some q =>
    rw [hb] at h
    have := bsG_in k q hk hb
    exact absurd h (nI_ne9 (by omega))
theorem bW_s {b : Option (Nat × Nat)} (h : ¬ bW b = -9) : ∃ q, b = some q := by
  cases b with
  | none => exact absurd rfl h
  | some q => exact ⟨q, rfl⟩
theorem nI_s0 {a b : Nat} (ha : a < 2 ^ 30) (hb : b < 2 ^ 30) : nI a - nI b = 0 ↔ a = b := by
  rw [← Int32.toInt_inj, Int32.toInt_sub, nI_toInt (by omega), nI_toInt (by omega), Int.bmod_eq_of_le (by omega) (by omega)]
  simp only [Int32.reduceToInt]; omega
theorem nI_sn {a b : Nat} (ha : a < 2 ^ 30) (hb : b < 2 ^ 30) : 0 ≤ nI a - nI b ↔ b ≤ a := by
  rw [Int32.le_iff_toInt_le, Int32.toInt_sub, nI_toInt (by omega), nI_toInt (by omega), Int.bmod_eq_of_le (by omega) (by omega)]
  simp only [Int32.reduceToInt]; omega
noncomputable def aBst (n : Nat) (A D : Nat → Nat) (AL : Nat → Nat → gLay) : aOut := if n = 0 then (-4, none, none) else (bW (bsG (fun r o => scN n A D (AL r o)) 12), some (bV (fun r o => pgL (AL r o) 8) (bsG (fun r o => scN n A D (AL r o)) 12)), none)
noncomputable def aWou (n W H : Nat) (A D T : Nat → Nat) (v w : Int32) : aOut := if ¬ (0 ≤ v ∧ v < 4) then aBad else if ¬ (0 ≤ w ∧ w < 3) then aBad else if n = 0 then aBad else (nI (pgL (allG v.toNatClampNeg w.toNatClampNeg n W H A D T) 8), some (msI (allG v.toNatClampNeg w.toNatClampNeg n W H A D T) n), none)
theorem cS.sh {M m : xMem} {s n W H B : Nat} {g : Nat → Nat → Nat} (hs : xob s 7) (h : cS M m) (h0 : cSh M s n W H B g) (h8 : n ≤ 8) : cSh m s n W H B g := cSh_k h0 (fun a ha => h.2 a (by have := xob_7 hs; unfold shX at ha; omega)) h8
theorem cS.w {M m : xMem} (h : cS M m) : m.2.1 = M.2.1 := by rw [h.1]
theorem cSin {M : xMem} {a j : Nat} {v : Int32} (ha : 25 ≤ a ∧ a ≤ 30) : cS M (wI M a j v) := ⟨rfl, fun b hb => by funext k; rw [xI_wI, if_neg (fun z => by omega)]⟩
theorem pkS.c {M m : xMem} (h : pkS 29 M m) : cS M m := ⟨h.1, fun a ha => h.2 a (by omega) (by omega) (by omega) (by omega) (by omega)⟩
/-- the reference's: what trying leaves as it was -/
def rX (M m : xMem) : Prop := m.2 = M.2 ∧ (∀ a, a ≠ 74 → a ≠ 83 → (a < 85 ∨ 89 < a) → a ≠ 93 → m.1 a = M.1 a) ∧ (∀ k, k ≠ 27 → (k < 32 ∨ 35 < k) → (k < 41 ∨ 43 < k) → m.1 74 k = M.1 74 k) ∧ ∀ k, k < 33 → m.1 83 k = M.1 83 k
theorem rX.rf (M : xMem) : rX M M := ⟨rfl, fun _ _ _ _ _ => rfl, fun _ _ _ _ => rfl, fun _ _ => rfl⟩
theorem rX.tr {M M1 M2 : xMem} (h : rX M M1) (h' : rX M1 M2) : rX M M2 := ⟨h'.1.trans h.1, fun a a1 a2 a3 a4 => (h'.2.1 a a1 a2 a3 a4).trans (h.2.1 a a1 a2 a3 a4), fun k k1 k2 k3 => (h'.2.2.1 k k1 k2 k3).trans (h.2.2.1 k k1 k2 k3), fun k hk => (h'.2.2.2 k hk).trans (h.2.2.2 k hk)⟩
theorem rX.m {M m : xMem} (h : rX M m) : xN m = xN M := by show m.2.2.2 = M.2.2.2; rw [h.1]
theorem rX.w {M m : xMem} (h : rX M m) : m.2.1 = M.2.1 := by rw [h.1]
theorem rX.sh {M m : xMem} {n W H B : Nat} {g : Nat → Nat → Nat} (h : rX M m) (h0 : mSh M n W H B g) : mSh m n W H B g := mSh_k h0 (h.2.1 81 (by decide) (by decide) (by decide) (by decide)) (fun k k1 k2 => h.2.2.1 k (by omega) (by omega) (by omega))
theorem rX.wI {M M1 : xMem} (h : rX M M1) (v : Int32) : rX (wI M 74 0 v) (wI M1 74 0 v) := ⟨h.1, fun a a1 a2 a3 a4 => by funext k; rw [xI_wI, if_neg (fun z => a1 z.1), xI_wI, if_neg (fun z => a1 z.1), h.2.1 a a1 a2 a3 a4], fun k k1 k2 k3 => by rw [xI_wI, xI_wI, h.2.2.1 k k1 k2 k3], fun k hk => by rw [xI_wI, if_neg (fun z => by omega), xI_wI, if_neg (fun z => by omega), h.2.2.2 k hk]⟩
