/-! ===== a sheet's numbers, one for both ===== -/
theorem Ct.imp {E : xE} {d : xMD} {args : List Value} {M : xMem} {ne : Nat} {Q Q' : Option Value → xMem → Prop} (h : Ct E d args M ne Q) (hq : ∀ r m, Q r m → xN m = ne → Q' r m) : Ct E d args M ne Q' := by
  unfold Ct Met at *
  exact MetFree.mono h (fun _ _ z => z) (fun _ _ _ _ _ z => z) (fun a s o s' _ hh => by
    obtain ⟨⟨⟨r, m, h1, h2, h3, h4⟩, h5⟩, h6⟩ := hh
    exact ⟨⟨⟨r, m, h1, hq r m h2 h3, h3, h4⟩, h5⟩, h6⟩)
def fd (B : Nat) (g : Nat → Nat → Nat) (f j : Nat) : Nat :=
  if j < 7 then g f j
  else if j = 7 then B + (if g f 0 = 2 then 1 else 0)
  else if j = 8 then (if g f 0 = 3 then g f 1 else g f 1 - g f 3 - g f 5)
  else if j = 9 then (if g f 0 = 3 then g f 2 else g f 2 - g f 4 - g f 6)
  else if j = 10 then (if g f 0 = 3 then 0 else g f 3)
  else (if g f 0 = 3 then 0 else g f 4)
def aA (B : Nat) (g : Nat → Nat → Nat) (f : Nat) : Nat := fd B g f 8 + 2 * fd B g f 7
def aD (B : Nat) (g : Nat → Nat → Nat) (f : Nat) : Nat := fd B g f 9 + 2 * fd B g f 7
def aT (g : Nat → Nat → Nat) (f : Nat) : Nat := if g f 0 = 1 ∨ g f 0 = 3 then 1 else 2
def okF (g : Nat → Nat → Nat) (f : Nat) : Prop := g f 0 ≤ 3 ∧ 1 ≤ g f 1 ∧ g f 1 ≤ 16 ∧ 1 ≤ g f 2 ∧ g f 2 ≤ 16 ∧ g f 3 ≤ 9 ∧ g f 4 ≤ 9 ∧ g f 5 ≤ 9 ∧ g f 6 ≤ 9 ∧ g f 3 + g f 5 < g f 1 ∧ g f 4 + g f 6 < g f 2
def okSh (n W H B : Nat) (g : Nat → Nat → Nat) : Prop := n ≤ 8 ∧ W ≤ 16 ∧ H ≤ 16 ∧ B ≤ 2 ∧ (0 < n → 4 ≤ W ∧ 4 ≤ H) ∧ ∀ f, f < n → okF g f
def cSh (M : xMem) (s n W H B : Nat) (g : Nat → Nat → Nat) : Prop := M.1 s 1 = nI n ∧ M.1 s 2 = nI W ∧ M.1 s 3 = nI H ∧ M.1 s 4 = nI B ∧ ∀ f, f < n → ∀ j, j < 12 → M.1 (fA s f) j = nI (fd B g f j)
def mSh (M : xMem) (n W H B : Nat) (g : Nat → Nat → Nat) : Prop := M.1 74 11 = nI n ∧ M.1 74 8 = nI W ∧ M.1 74 9 = nI H ∧ M.1 74 10 = nI B ∧ ∀ f, f < n → ∀ j, j < 7 → M.1 81 (7 * f + j) = nI (g f j)
theorem fd_le {B : Nat} {g : Nat → Nat → Nat} {f : Nat} (h : okF g f) (hB : B ≤ 2) : fd B g f 7 ≤ 3 ∧ 1 ≤ fd B g f 8 ∧ fd B g f 8 ≤ 16 ∧ 1 ≤ fd B g f 9 ∧ fd B g f 9 ≤ 16 ∧ fd B g f 10 ≤ 9 ∧ fd B g f 11 ≤ 9 := by
  obtain ⟨h0, h1, h2, h3, h4, h5, h6, h7, h8, h9, h10⟩ := h
  unfold fd
  simp only [show ¬ (7 : Nat) < 7 by omega, show ¬ (8 : Nat) < 7 by omega, show ¬ (9 : Nat) < 7 by omega, show ¬ (10 : Nat) < 7 by omega, show ¬ (11 : Nat) < 7 by omega, if_false, if_true, show ¬ (8 : Nat) = 7 by omega, show ¬ (9 : Nat) = 7 by omega, show ¬ (9 : Nat) = 8 by omega, show ¬ (10 : Nat) = 7 by omega, show ¬ (10 : Nat) = 8 by omega, show ¬ (10 : Nat) = 9 by omega, show ¬ (11 : Nat) = 7 by omega, show ¬ (11 : Nat) = 8 by omega, show ¬ (11 : Nat) = 9 by omega, show ¬ (11 : Nat) = 10 by omega]
  refine ⟨?_, ?_, ?_, ?_, ?_, ?_, ?_⟩ <;> split <;> omega
theorem aA_le {B : Nat} {g : Nat → Nat → Nat} {f : Nat} (h : okF g f) (hB : B ≤ 2) : 1 ≤ aA B g f ∧ aA B g f ≤ 22 ∧ 1 ≤ aD B g f ∧ aD B g f ≤ 22 := by
  have := fd_le h hB
  unfold aA aD
  omega
theorem nI_2 (a b : Nat) : nI a + 2 * nI b = nI (a + 2 * b) := by rw [show (2 : Int32) = nI 2 from rfl, pk_mul, nI_add]
theorem cSh_A {M : xMem} {s n W H B : Nat} {g : Nat → Nat → Nat} (h : cSh M s n W H B g) {f : Nat} (hf : f < n) : fAc M (fA s f) 0 = nI (aA B g f) ∧ fDn M (fA s f) 0 = nI (aD B g f) := by
  have h7 := h.2.2.2.2 f hf 7 (by decide)
  have h8 := h.2.2.2.2 f hf 8 (by decide)
  have h9 := h.2.2.2.2 f hf 9 (by decide)
  unfold fAc fDn
  rw [if_pos rfl, if_pos rfl, h7, h8, h9, nI_2, nI_2]
  exact ⟨rfl, rfl⟩
theorem cSh.s {M : xMem} {s n W H B : Nat} {g : Nat → Nat → Nat} (h : cSh M s n W H B g) (ho : okSh n W H B g) : shC M s n W H (aA B g) (aD B g) :=
  ⟨h.1, h.2.1, h.2.2.1, ho.1, ho.2.1, ho.2.2.1, fun f hf => by
    have := aA_le (ho.2.2.2.2.2 f hf) ho.2.2.2.1
    exact ⟨(cSh_A h hf).1, (cSh_A h hf).2, this.1, this.2.1, this.2.2.1, this.2.2.2⟩⟩
theorem nI_lit {a b : Nat} {v : Int32} (hv : v = nI b) (ha : a < 2 ^ 31) (hb : b < 2 ^ 31) : nI a = v ↔ a = b := by rw [hv]; exact nI_eq ha hb
theorem cSh.t {M : xMem} {s n W H B : Nat} {g : Nat → Nat → Nat} (h : cSh M s n W H B g) (ho : okSh n W H B g) : shT M s n (aT g) := by
  intro f hf
  have h0 : M.1 (fA s f) 0 = nI (g f 0) := h.2.2.2.2 f hf 0 (by decide)
  have hk := (ho.2.2.2.2.2 f hf).1
  rw [h0, nI_lit (show (1 : Int32) = nI 1 from rfl) (by omega) (by decide), nI_lit (show (3 : Int32) = nI 3 from rfl) (by omega) (by decide)]
  unfold aT
  refine ⟨by split <;> omega, fun z => if_pos z, fun z => if_neg z⟩
theorem mSh_f {M : xMem} {n W H B : Nat} {g : Nat → Nat → Nat} (h : mSh M n W H B g) (ho : okSh n W H B g) {f : Nat} (hf : f < n) : mEd M f = nI (fd B g f 7) ∧ mAcr M f = nI (fd B g f 8) ∧ mDn M f = nI (fd B g f 9) ∧ mLf M f = nI (fd B g f 10) ∧ mAb M f = nI (fd B g f 11) := by
  obtain ⟨h0, h1, h2, h3, h4, h5, h6, h7, h8, h9, h10⟩ := ho.2.2.2.2.2 f hf
  have e := h.2.2.2.2 f hf
  have e0 : mg M f 0 = nI (g f 0) := e 0 (by decide)
  have e1 : mg M f 1 = nI (g f 1) := e 1 (by decide)
  have e2 : mg M f 2 = nI (g f 2) := e 2 (by decide)
  have e3 : mg M f 3 = nI (g f 3) := e 3 (by decide)
  have e4 : mg M f 4 = nI (g f 4) := e 4 (by decide)
  have e5 : mg M f 5 = nI (g f 5) := e 5 (by decide)
  have e6 : mg M f 6 = nI (g f 6) := e 6 (by decide)
  have k3 : nI (g f 0) = 3 ↔ g f 0 = 3 := nI_lit (show (3 : Int32) = nI 3 from rfl) (by omega) (by decide)
  have k2 : nI (g f 0) = 2 ↔ g f 0 = 2 := nI_lit (show (2 : Int32) = nI 2 from rfl) (by omega) (by decide)
  have f7 : fd B g f 7 = B + (if g f 0 = 2 then 1 else 0) := rfl
  have f8 : fd B g f 8 = (if g f 0 = 3 then g f 1 else g f 1 - g f 3 - g f 5) := rfl
  have f9 : fd B g f 9 = (if g f 0 = 3 then g f 2 else g f 2 - g f 4 - g f 6) := rfl
  have f10 : fd B g f 10 = (if g f 0 = 3 then 0 else g f 3) := rfl
  have f11 : fd B g f 11 = (if g f 0 = 3 then 0 else g f 4) := rfl
  unfold mEd mAcr mDn mLf mAb
  rw [e0, e1, e2, e3, e4, e5, e6, h.2.2.2.1, f7, f8, f9, f10, f11]
  refine ⟨?_, ?_, ?_, ?_, ?_⟩
  · by_cases z : g f 0 = 2
    · rw [if_pos (k2.mpr z), if_pos z, nI_1]
    · rw [if_neg (fun y => z (k2.mp y)), if_neg z, Int32.add_zero]; rfl
  · by_cases z : g f 0 = 3
    · rw [if_pos (k3.mpr z), if_pos z]
    · rw [if_neg (fun y => z (k3.mp y)), if_neg z, pk_sub (by omega), pk_sub (by omega)]
  · by_cases z : g f 0 = 3
    · rw [if_pos (k3.mpr z), if_pos z]
    · rw [if_neg (fun y => z (k3.mp y)), if_neg z, pk_sub (by omega), pk_sub (by omega)]
  · by_cases z : g f 0 = 3
    · rw [if_pos (k3.mpr z), if_pos z]; rfl
    · rw [if_neg (fun y => z (k3.mp y)), if_neg z]
  · by_cases z : g f 0 = 3
    · rw [if_pos (k3.mpr z), if_pos z]; rfl
    · rw [if_neg (fun y => z (k3.mp y)), if_neg z]
theorem mSh_A {M : xMem} {n W H B : Nat} {g : Nat → Nat → Nat} (h : mSh M n W H B g) (ho : okSh n W H B g) {f : Nat} (hf : f < n) : mNX M f 0 = nI (aA B g f) ∧ mNX M f 1 = nI (aD B g f) ∧ mNY M f 0 = nI (aD B g f) := by
  obtain ⟨e7, e8, e9, -, -⟩ := mSh_f h ho hf
  have a1 : mNX M f 0 = nI (aA B g f) := by
    show 2 * mEd M f + mAcr M f = _
    rw [e7, e8, Int32.add_comm, nI_2]; rfl
  have a2 : mNX M f 1 = nI (aD B g f) := by
    show 2 * mEd M f + mDn M f = _
    rw [e7, e9, Int32.add_comm, nI_2]; rfl
  exact ⟨a1, a2, a2⟩
theorem mSh.s {M : xMem} {n W H B : Nat} {g : Nat → Nat → Nat} (h : mSh M n W H B g) (ho : okSh n W H B g) : shM M n W H (aA B g) (aD B g) :=
  ⟨h.1, h.2.1, h.2.2.1, ho.1, ho.2.1, ho.2.2.1, fun f hf => by
    have := aA_le (ho.2.2.2.2.2 f hf) ho.2.2.2.1
    exact ⟨(mSh_A h ho hf).1, (mSh_A h ho hf).2.1, this.1, this.2.1, this.2.2.1, this.2.2.2⟩⟩
theorem mSh.u {M : xMem} {n W H B : Nat} {g : Nat → Nat → Nat} (h : mSh M n W H B g) (ho : okSh n W H B g) : shU M n (aT g) := by
  intro f hf
  have h0 : mg M f 0 = nI (g f 0) := h.2.2.2.2 f hf 0 (by decide)
  have hk := (ho.2.2.2.2.2 f hf).1
  refine ⟨by unfold aT; split <;> omega, ?_⟩
  rw [h0]
  unfold aT
  rcases (show g f 0 = 0 ∨ g f 0 = 1 ∨ g f 0 = 2 ∨ g f 0 = 3 by omega) with z | z | z | z <;> rw [z] <;> decide
theorem in_nat {v : Int32} {n : Nat} (hn : n < 2 ^ 31) (h : 0 ≤ v ∧ v < nI n) : ∃ k, k < n ∧ v = nI k := by
  obtain ⟨j, hj, e⟩ := nI_of (n_le h.1)
  subst e
  have := h.2
  rw [nI_ltI hj hn] at this
  exact ⟨j, this, rfl⟩
theorem in_lt {v : Int32} {n : Nat} (hn : n < 2 ^ 31) : (0 ≤ v ∧ v ≤ nI n - 1) ↔ (0 ≤ v ∧ v < nI n) := by
  cases n with
  | zero =>
    rw [show nI 0 - 1 = (-1 : Int32) from rfl, show nI 0 = (0 : Int32) from rfl]
    constructor
    · rintro ⟨h1, h2⟩; exfalso; simp only [Int32.le_iff_toInt_le, Int32.reduceToInt] at h1 h2; omega
    · rintro ⟨h1, h2⟩; exfalso; simp only [Int32.le_iff_toInt_le, Int32.lt_iff_toInt_lt, Int32.reduceToInt] at h1 h2; omega
  | succ n =>
    rw [nI_pred]
    constructor
    · rintro ⟨h1, h2⟩
      refine ⟨h1, ?_⟩
      rw [Int32.le_iff_toInt_le, nI_toInt (by omega)] at h2
      rw [Int32.lt_iff_toInt_lt, nI_toInt (by omega)]
      omega
    · rintro ⟨h1, h2⟩
      refine ⟨h1, ?_⟩
      rw [Int32.lt_iff_toInt_lt, nI_toInt (by omega)] at h2
      rw [Int32.le_iff_toInt_le, nI_toInt (by omega)]
      omega
theorem in_l2 {v c : Int32} {n : Nat} (hn : n < 2 ^ 31) (hc : c = nI n - 1) : (0 ≤ v ∧ v ≤ c) ↔ (0 ≤ v ∧ v < nI n) := by rw [hc]; exact in_lt hn
/-- what a call tells, or finds -/
def oC (M : xMem) : Option Int32 → Option Int32 → xMem
  | some v, _ => telM M v
  | none, some f => refM M f
  | none, none => M
def oR (M : xMem) : Option Int32 → Option Int32 → xMem
  | some v, _ => mtel M v
  | none, some f => mref M f
  | none, none => M
abbrev aOut : Type := Int32 × Option Int32 × Option Int32
