/-! ===== the order of frames; all set anew ===== -/
theorem nI_dc {i : Nat} (h : 0 < i) : nI i + (-1) = nI (i - 1) := by rw [← Int32.sub_eq_add_neg]; exact nI_m1 h
def bef (wt : Nat → Nat) (a b : Nat) : Prop := wt b < wt a ∨ (wt a = wt b ∧ a < b)
def isOrd (wt : Nat → Nat) (n : Nat) (q : Nat → Nat) : Prop := (∀ i, i < n → q i < n) ∧ ∀ i j, i < j → j < n → bef wt (q i) (q j)
theorem bef_ne {wt : Nat → Nat} {a b : Nat} (h : bef wt a b) : a ≠ b := by rintro rfl; unfold bef at h; omega
theorem bef_as {wt : Nat → Nat} {a b : Nat} (h : bef wt a b) (h' : bef wt b a) : False := by unfold bef at h h'; omega
theorem ord_inj {wt : Nat → Nat} {n : Nat} {q : Nat → Nat} (h : isOrd wt n q) {i j : Nat} (hi : i < n) (hj : j < n) (e : q i = q j) : i = j := by
  rcases Nat.lt_trichotomy i j with z | z | z
  · exact absurd e (bef_ne (h.2 i j z hj))
  · exact z
  · exact absurd e.symm (bef_ne (h.2 j i z hi))
theorem ord_sur {wt : Nat → Nat} {n : Nat} {q : Nat → Nat} (h : isOrd wt n q) {g : Nat} (hg : g < n) : ∃ j, j < n ∧ q j = g := by
  apply Classical.byContradiction
  intro z
  have hno : ∀ j, j < n → q j ≠ g := fun j hj e => z ⟨j, hj, e⟩
  have h1 := pig (List.range (n + 1)) (List.range n) (fun i => if i = n then g else q i) List.nodup_range
    (fun a ha => by
      have := List.mem_range.mp ha
      show (if a = n then g else q a) ∈ List.range n
      by_cases e : a = n
      · rw [if_pos e]; exact List.mem_range.mpr hg
      · rw [if_neg e]; exact List.mem_range.mpr (h.1 a (by omega)))
    (fun a ha b hb e => by
      have ha := List.mem_range.mp ha
      have hb := List.mem_range.mp hb
      have e : (if a = n then g else q a) = (if b = n then g else q b) := e
      by_cases ea : a = n
      · by_cases eb : b = n
        · omega
        · rw [if_pos ea, if_neg eb] at e; exact absurd e.symm (hno b (by omega))
      · by_cases eb : b = n
        · rw [if_neg ea, if_pos eb] at e; exact absurd e (hno a (by omega))
        · rw [if_neg ea, if_neg eb] at e; exact ord_inj h (by omega) (by omega) e)
  rw [List.length_range, List.length_range] at h1
  omega
theorem ord_uniq {wt : Nat → Nat} {n : Nat} {q q' : Nat → Nat} (h : isOrd wt n q) (h' : isOrd wt n q') : ∀ i, i < n → q i = q' i := by
  intro i
  induction i using Nat.strongRecOn with
  | ind i ih =>
    intro hi
    obtain ⟨j, hj, ej⟩ := ord_sur h (h'.1 i hi)
    obtain ⟨k, hk, ek⟩ := ord_sur h' (h.1 i hi)
    rcases Nat.lt_trichotomy j i with z | z | z
    · have := ih j z hj; rw [ej] at this; have := ord_inj h' hi hj this; omega
    · rw [← ej, z]
    · rcases Nat.lt_trichotomy k i with y | y | y
      · have := ih k y hk; rw [ek] at this; have := ord_inj h hk hi this; omega
      · rw [← ek, y]
      · have a1 := h.2 i j z hj
        have a2 := h'.2 i k y hk
        rw [ej] at a1
        rw [ek] at a2
        exact (bef_as a1 a2).elim
def insq (q : Nat → Nat) (i f k : Nat) : Nat := if k < i then q k else if k = i then f else q (k - 1)
theorem ins_ord {wt : Nat → Nat} {f : Nat} {q : Nat → Nat} (h : isOrd wt f q) {i : Nat} (hi : i ≤ f) (h1 : ∀ j, j < i → wt f ≤ wt (q j)) (h2 : ∀ j, i ≤ j → j < f → wt (q j) < wt f) : isOrd wt (f + 1) (insq q i f) := by
  refine ⟨fun k hk => ?_, fun a b hab hb => ?_⟩
  · unfold insq
    by_cases e1 : k < i
    · rw [if_pos e1]; have := h.1 k (by omega); omega
    · rw [if_neg e1]
      by_cases e2 : k = i
      · rw [if_pos e2]; omega
      · rw [if_neg e2]; have := h.1 (k - 1) (by omega); omega
  · unfold insq
    by_cases a1 : a < i
    · rw [if_pos a1]
      by_cases b1 : b < i
      · rw [if_pos b1]; exact h.2 a b hab (by omega)
      · rw [if_neg b1]
        by_cases b2 : b = i
        · rw [if_pos b2]
          have := h1 a a1
          have := h.1 a (by omega)
          unfold bef; omega
        · rw [if_neg b2]; exact h.2 a (b - 1) (by omega) (by omega)
    · rw [if_neg a1, if_neg (show ¬ b < i by omega), if_neg (show ¬ b = i by omega)]
      by_cases a2 : a = i
      · rw [if_pos a2]
        exact Or.inl (h2 (b - 1) (by omega) (by omega))
      · rw [if_neg a2]; exact h.2 (a - 1) (b - 1) (by omega) (by omega)
theorem ord_mono {wt : Nat → Nat} {f : Nat} {q : Nat → Nat} (h : isOrd wt f q) {i j : Nat} (hij : i ≤ j) (hj : j < f) : wt (q j) ≤ wt (q i) := by
  by_cases e : i = j
  · rw [e]; exact Nat.le_refl _
  · have := h.2 i j (by omega) hj; unfold bef at this; omega
theorem ins_ex {wt : Nat → Nat} {f : Nat} {q : Nat → Nat} (h : isOrd wt f q) : ∀ i, i ≤ f → (∀ j, i ≤ j → j < f → wt (q j) < wt f) → ∃ i', i' ≤ f ∧ (∀ j, j < i' → wt f ≤ wt (q j)) ∧ ∀ j, i' ≤ j → j < f → wt (q j) < wt f
  | 0, _, h2 => ⟨0, Nat.zero_le _, fun j hj => absurd hj (Nat.not_lt_zero _), h2⟩
  | i + 1, hi, h2 => by
    by_cases e : wt (q i) < wt f
    · refine ins_ex h i (by omega) (fun j j1 j2 => ?_)
      by_cases ej : j = i
      · subst ej; exact e
      · exact h2 j (by omega) j2
    · refine ⟨i + 1, hi, fun j hj => ?_, h2⟩
      have := ord_mono h (show j ≤ i by omega) (by omega)
      omega
theorem ord_ex (wt : Nat → Nat) : ∀ n, ∃ q, isOrd wt n q
  | 0 => ⟨fun _ => 0, fun i hi => absurd hi (Nat.not_lt_zero _), fun i j _ hj => absurd hj (Nat.not_lt_zero _)⟩
  | n + 1 => by
    obtain ⟨q, hq⟩ := ord_ex wt n
    obtain ⟨i, h1, h2, h3⟩ := ins_ex hq n (Nat.le_refl _) (fun j j1 j2 => by omega)
    exact ⟨_, ins_ord hq h1 h2 h3⟩
noncomputable def qO (wt : Nat → Nat) (n : Nat) : Nat → Nat := Classical.choose (ord_ex wt n)
theorem qO_is (wt : Nat → Nat) (n : Nat) : isOrd wt n (qO wt n) := Classical.choose_spec (ord_ex wt n)
def wtG (order : Nat) (A D : Nat → Nat) (f : Nat) : Nat := if order = 1 then A f * D f else if order = 2 then nMx (A f) (D f) else 0
noncomputable def allL (rule W H : Nat) (A D T q : Nat → Nat) : Nat → gLay
  | 0 => fun _ => none
  | i + 1 => setG rule W H A D (T (q i)) (q i) (allL rule W H A D T q i)
theorem allL_c {rule W H : Nat} {A D T q q' : Nat → Nat} {n : Nat} (h : ∀ i, i < n → q i = q' i) : ∀ i, i ≤ n → allL rule W H A D T q i = allL rule W H A D T q' i
  | 0, _ => rfl
  | i + 1, hi => by rw [allL, allL, allL_c h i (by omega), h i (by omega)]
noncomputable def allG (rule order n W H : Nat) (A D T : Nat → Nat) : gLay := allL rule W H A D T (qO (wtG order A D) n) n
theorem allL_ok {rule W H n : Nat} {A D T q : Nat → Nat} (hq : ∀ i, i < n → q i < n) (hT : ∀ f, f < n → T f ≤ 2) (hW : W ≤ 16) (hH : H ≤ 16) : ∀ i, i ≤ n → lyOK n W H A D (allL rule W H A D T q i)
  | 0, _ => lyOK_none n W H A D
  | i + 1, hi => setG_ok (allL_ok hq hT hW hH i (by omega)) (hq i (by omega)) (hT _ (hq i (by omega))) hW hH
theorem allG_ok {rule order W H n : Nat} {A D T : Nat → Nat} (hT : ∀ f, f < n → T f ≤ 2) (hW : W ≤ 16) (hH : H ≤ 16) : lyOK n W H A D (allG rule order n W H A D T) := allL_ok (qO_is _ n).1 hT hW hH n (Nat.le_refl _)
theorem allL_no {rule W H : Nat} {A D T q : Nat → Nat} {g : Nat} : ∀ i, (∀ j, j < i → q j ≠ g) → allL rule W H A D T q i g = none
  | 0, _ => rfl
  | i + 1, h => by
    rw [allL, setG, uly_o (fun e => h i (by omega) e.symm)]
    exact allL_no i (fun j hj => h j (by omega))
/-- the ways a frame may lie, of both -/
def shT (M : xMem) (s n : Nat) (T : Nat → Nat) : Prop := ∀ f, f < n → T f ≤ 2 ∧ (M.1 (fA s f) 0 = 1 ∨ M.1 (fA s f) 0 = 3 → T f = 1) ∧ (¬ (M.1 (fA s f) 0 = 1 ∨ M.1 (fA s f) 0 = 3) → T f = 2)
def shU (M : xMem) (n : Nat) (T : Nat → Nat) : Prop := ∀ f, f < n → T f ≤ 2 ∧ (if mg M f 0 = 1 then (1 : Int32) else if mg M f 0 = 3 then 1 else 2) = nI (T f)
theorem shU_keep {M M1 : xMem} {n : Nat} {T : Nat → Nat} (h : shU M n T) (e : M1.1 81 = M.1 81) : shU M1 n T := by
  intro f hf
  have := h f hf
  unfold mg at *
  rw [e]
  exact this
def shX (s a : Nat) : Prop := a = s ∨ (s + 2 ≤ a ∧ a ≤ s + 9)
theorem shC_k2 {M M1 : xMem} {s n W H : Nat} {A D : Nat → Nat} (h : shC M s n W H A D) (hk : ∀ a, shX s a → M1.1 a = M.1 a) : shC M1 s n W H A D := by
  have e1 : M1.1 s = M.1 s := hk s (Or.inl rfl)
  refine ⟨by rw [e1]; exact h.1, by rw [e1]; exact h.2.1, by rw [e1]; exact h.2.2.1, h.2.2.2.1, h.2.2.2.2.1, h.2.2.2.2.2.1, fun f hf => ?_⟩
  have e2 : M1.1 (fA s f) = M.1 (fA s f) := hk _ (Or.inr (by have := h.2.2.2.1; show s + 2 ≤ s + 1 + 1 + f ∧ s + 1 + 1 + f ≤ s + 9; omega))
  unfold fAc fDn
  rw [e2]
  exact h.2.2.2.2.2.2 f hf
theorem shT_k2 {M M1 : xMem} {s n : Nat} {T : Nat → Nat} (h : shT M s n T) (h8 : n ≤ 8) (hk : ∀ a, shX s a → M1.1 a = M.1 a) : shT M1 s n T := by
  intro f hf
  have e2 : M1.1 (fA s f) = M.1 (fA s f) := hk _ (Or.inr (by show s + 2 ≤ s + 1 + 1 + f ∧ s + 1 + 1 + f ≤ s + 9; omega))
  rw [e2]
  exact h f hf
theorem wtG_le {order : Nat} {A D : Nat → Nat} {f : Nat} (hA : A f ≤ 22) (hD : D f ≤ 22) : wtG order A D f ≤ 484 := by
  unfold wtG
  have := Nat.mul_le_mul hA hD
  split
  · omega
  · split
    · exact nMx_le (by omega) (by omega)
    · omega

set_option maxRecDepth 100000 in
theorem c_X2_weightOf0 {E : xE} {M : xMem} {a : Nat} (ha : xob a 0) (hM : xNT ≤ xN M) : Cf E mX2_weightOf [.ref a, .int 0] M (some (.int (0))) M := by
  refine Ct.of (lo := [some (.ref a), some (.int 0)]) pln_X2 (Nat.le_of_ble_eq_true rfl) rfl (Nat.le_refl _) ?_
  refine px_iload_n dX2_weightOf_0 rfl rfl ?_
  refine px_lookup 47 dX2_weightOf_1 rfl rfl rfl ?_
  refine px_iconst dX2_weightOf_47 ic_0 ?_
  exact px_iret dX2_weightOf_48 rfl ⟨rfl, rfl⟩ (rfl)

set_option maxRecDepth 100000 in
theorem c_X2_weightOf1 {E : xE} {M : xMem} {a : Nat} (ha : xob a 0) (hM : xNT ≤ xN M) : Cf E mX2_weightOf [.ref a, .int 1] M (some (.int (fAc M a 0 * fDn M a 0))) M := by
  refine Ct.of (lo := [some (.ref a), some (.int 1)]) pln_X2 (Nat.le_of_ble_eq_true rfl) rfl (Nat.le_refl _) ?_
  refine px_iload_n dX2_weightOf_0 rfl rfl ?_
  refine px_lookup 28 dX2_weightOf_1 rfl rfl rfl ?_
  refine px_aload_n dX2_weightOf_28 rfl rfl ?_
  refine px_fV0i dX2_weightOf_29 kX2_weightOf_70 ha hM (Nat.le_of_ble_eq_true rfl) (c_X0_needsPlaces ha hM) ?_
  exact px_iret dX2_weightOf_32 rfl ⟨rfl, rfl⟩ (rfl)

set_option maxRecDepth 100000 in
theorem c_X2_weightOf2 {E : xE} {M : xMem} {a : Nat} (ha : xob a 0) (hM : xNT ≤ xN M) : Cf E mX2_weightOf [.ref a, .int 2] M (some (.int (if fAc M a 0 < fDn M a 0 then fDn M a 0 else fAc M a 0))) M := by
  refine Ct.of (lo := [some (.ref a), some (.int 2)]) pln_X2 (Nat.le_of_ble_eq_true rfl) rfl (Nat.le_refl _) ?_
  refine px_iload_n dX2_weightOf_0 rfl rfl ?_
  refine px_lookup 33 dX2_weightOf_1 rfl rfl rfl ?_
  refine px_aload_n dX2_weightOf_33 rfl rfl ?_
  refine px_iconst dX2_weightOf_34 ic_0 ?_
  refine px_fV1i dX2_weightOf_35 kX2_weightOf_75 ha hM (Nat.le_of_ble_eq_true rfl) (c_X0_needsAcross ha hM) ?_
  refine px_aload_n dX2_weightOf_38 rfl rfl ?_
  refine px_iconst dX2_weightOf_39 ic_0 ?_
  refine px_fV1i dX2_weightOf_40 kX2_weightOf_79 ha hM (Nat.le_of_ble_eq_true rfl) (c_X0_needsDown ha hM) ?_
  refine px_max dX2_weightOf_43 kX2_weightOf_82 (Nat.le_of_ble_eq_true rfl) ?_
  exact px_iret dX2_weightOf_46 rfl ⟨rfl, rfl⟩ (rfl)

theorem c_X2_weightOf {E : xE} {M : xMem} {s n W H f order : Nat} {A D : Nat → Nat} (hM : xNT ≤ xN M) (hs : xob s 7) (hsh : shC M s n W H A D) (hfn : f < n) (hod : order < 3) : Cf E mX2_weightOf [.ref (fA s f), .int (nI order)] M (some (.int (nI (wtG order A D f)))) M := by
  have hfo : xob (fA s f) 0 := ob_frame hs (by have := hsh.2.2.2.1; omega)
  obtain ⟨e1, e2, a1, a2, d1, d2⟩ := hsh.2.2.2.2.2.2 f hfn
  rcases (show order = 0 ∨ order = 1 ∨ order = 2 by omega) with rfl | rfl | rfl
  · exact c_X2_weightOf0 hfo hM
  · have k := c_X2_weightOf1 (E := E) hfo hM
    rw [e1, e2, pk_mul] at k
    exact k
  · have k := c_X2_weightOf2 (E := E) hfo hM
    rw [e1, e2, i_maxN (by omega) (by omega)] at k
    exact k
theorem wtM {M : xMem} {n W H f order : Nat} {A D : Nat → Nat} (hs : shM M n W H A D) (hfn : f < n) (hod : order < 3) : (if nI order = 0 then (0 : Int32) else if nI order = 1 then mNX M f 0 * mNY M f 0 else if mNX M f 0 ≤ mNY M f 0 then mNY M f 0 else mNX M f 0) = nI (wtG order A D f) := by
  obtain ⟨e1, e2, a1, a2, d1, d2⟩ := hs.2.2.2.2.2.2 f hfn
  have e3 : mNY M f 0 = nI (D f) := e2
  rcases (show order = 0 ∨ order = 1 ∨ order = 2 by omega) with rfl | rfl | rfl
  · rfl
  · rw [if_neg (by decide), if_pos (show nI 1 = 1 from rfl), e1, e3, pk_mul]; rfl
  · rw [if_neg (by decide), if_neg (by decide), e1, e3]
    show _ = nI (nMx (A f) (D f))
    by_cases z : nI (A f) ≤ nI (D f)
    · rw [if_pos z, nMx_b (by omega) (by omega) z]
    · rw [if_neg z, nMx_a (by omega) (by omega) z]

set_option maxRecDepth 100000 in
theorem l_fq_in {E : xE} {M : xMem} {s n W H order : Nat} {A D : Nat → Nat} (hM : xNT ≤ xN M) (hW : xWire M.2.1) (hs : xob s 7) (hsh : shC M s n W H A D) (hod : order < 3) {f : Nat} {q : Nat → Nat} (hfn : f < n) (hq : isOrd (wtG order A D) f q) (nxt : ∀ g q, isOrd (wtG order A D) (f + 1) q → (∀ k, k < f + 1 → g k = nI (q k)) → PR E mX2_fillQueue (xN M) 2 [some (.ref 24), some (.ref s), some (.int (nI order)), some (.int (nI (f + 1))), none, none] [] (wF M 28 g) (fun r m => r = none ∧ ∃ g q, m = wF M 28 g ∧ isOrd (wtG order A D) n q ∧ ∀ k, k < n → g k = nI (q k))) : ∀ i, i ≤ f → ∀ g : Nat → Int32, (∀ k, k < i → g k = nI (q k)) → (∀ k, i < k → k ≤ f → g k = nI (q (k - 1))) → (∀ j, i ≤ j → j < f → wtG order A D (q j) < wtG order A D f) → PR E mX2_fillQueue (xN M) 25 [some (.ref 24), some (.ref s), some (.int (nI order)), some (.int (nI f)), some (.int (nI (wtG order A D f))), some (.int (nI i))] [] (wF M 28 g) (fun r m => r = none ∧ ∃ g q, m = wF M 28 g ∧ isOrd (wtG order A D) n q ∧ ∀ k, k < n → g k = nI (q k)) := by
  have h8 : n ≤ 8 := hsh.2.2.2.1
  have h7 := xob_7 hs
  have hsg : ∀ g, shC (wF M 28 g) s n W H A D := fun g => shC_k2 hsh (fun a ha => by rw [xI_wF, if_neg (by unfold shX at ha; omega)])
  have hwt : ∀ f, f < n → wtG order A D f ≤ 484 := fun f hf => wtG_le (hsh.2.2.2.2.2.2 f hf).2.2.2.1 (hsh.2.2.2.2.2.2 f hf).2.2.2.2.2
  refine px_down (P := fun i => i ≤ f → ∀ g : Nat → Int32, (∀ k, k < i → g k = nI (q k)) → (∀ k, i < k → k ≤ f → g k = nI (q (k - 1))) → (∀ j, i ≤ j → j < f → wtG order A D (q j) < wtG order A D f) → PR E mX2_fillQueue (xN M) 25 [some (.ref 24), some (.ref s), some (.int (nI order)), some (.int (nI f)), some (.int (nI (wtG order A D f))), some (.int (nI i))] [] (wF M 28 g) (fun r m => r = none ∧ ∃ g q, m = wF M 28 g ∧ isOrd (wtG order A D) n q ∧ ∀ k, k < n → g k = nI (q k))) (fun i nx => ?_)
  intro hi g hg1 hg2 hg3
  refine px_iload dX2_fillQueue_25 rfl ?_
  refine px_if_le 75 dX2_fillQueue_27 rfl (fun h27 => ?_) (fun h27 => ?_)
  · refine px_aload_n dX2_fillQueue_75 rfl rfl ?_
    refine px_getR dX2_fillQueue_76 fX2_18 (xol rfl) hM rfl (wr_2_1 hW (xol rfl)) (Nat.succ_pos _) ?_
    refine px_iload dX2_fillQueue_79 rfl ?_
    refine px_iload_n dX2_fillQueue_81 rfl rfl ?_
    refine px_iast dX2_fillQueue_82 (xal (n := 8) rfl) hM (vp_in_nI (by omega) (by decide)) ?_
    have h1 : ∀ j, j < i → wtG order A D f ≤ wtG order A D (q j) := by
      intro j hj
      first
        | (exfalso; rw [show (0 : Int32) = nI 0 from rfl, nI_leI (by omega) (by omega)] at h27; omega)
        | (have h50' := h50; rw [nI_leI (by have := hwt f hfn; omega) (by have := hwt (q (i - 1)) (by omega); omega)] at h50'; have := ord_mono hq (show j ≤ i - 1 by omega) (by omega); omega)
    refine px_inc_3 dX2_fillQueue_83 rfl ic_1 ?_
    refine px_goto 2 dX2_fillQueue_86 rfl ?_
    rw [nI_1 f]
    refine px_forget (by repeat' constructor) (px_mem (by rw [nI_clamp (by omega)]; exact wI_wF _ _ _ _ _) (nxt _ (insq q i f) (ins_ord hq hi h1 hg3) (fun k hk => ?_)))
    show (if k = i then nI f else g k) = nI (insq q i f k)
    unfold insq
    by_cases e : k = i
    · rw [if_pos e, if_neg (by omega), if_pos e]
    · rw [if_neg e]
      by_cases e2 : k < i
      · rw [if_pos e2]; exact hg1 k e2
      · rw [if_neg e2, if_neg e]; exact hg2 k (by omega) (by omega)
  · have hpos : 0 < i := by rw [show (0 : Int32) = nI 0 from rfl, nI_leI (by omega) (by omega)] at h27; omega
    have hqi := hq.1 (i - 1) (by omega)
    have hnq : (nI (q (i - 1))).toNatClampNeg = q (i - 1) := nI_clamp (by omega)
    refine px_aload_n dX2_fillQueue_30 rfl rfl ?_
    refine px_getR dX2_fillQueue_31 fX2_32 hs hM rfl (wr_7_0 hW hs) (Nat.succ_pos _) ?_
    refine px_aload_n dX2_fillQueue_34 rfl rfl ?_
    refine px_getR dX2_fillQueue_35 fX2_18 (xol rfl) hM rfl (wr_2_1 hW (xol rfl)) (Nat.succ_pos _) ?_
    refine px_iload dX2_fillQueue_38 rfl ?_
    refine px_iconst dX2_fillQueue_40 ic_1 ?_
    refine px_isub dX2_fillQueue_41 ?_
    refine px_top (y := nI (i - 1)) (nI_m1 hpos) ?_
    refine px_iald dX2_fillQueue_42 (xal (n := 8) rfl) hM (vp_in_nI (by omega) (by decide)) ?_
    refine px_top (y := nI (q (i - 1))) (by rw [nI_clamp (by omega), xI_wF, if_pos rfl]; exact hg1 _ (by omega)) ?_
    refine px_aald (t0 := 6) dX2_fillQueue_43 (ar_7 hs) (by decide) (fun _ => rfl) hM (vp_in_nI (by omega) (by decide)) (show M.2.1 (s + 1) (nI (q (i - 1))).toNatClampNeg = s + 1 + 1 + q (i - 1) by rw [hnq]; exact wa_26 hW (ar_7 hs) (by omega)) (by omega) ?_
    refine px_iload_n dX2_fillQueue_44 rfl rfl ?_
    refine px_fS2i dX2_fillQueue_45 kX2_fillQueue_67 (Nat.le_of_ble_eq_true rfl) (c_X2_weightOf (s := s) (f := q (i - 1)) hM hs (hsg g) (by omega) hod) ?_
    refine px_iload dX2_fillQueue_48 rfl ?_
    refine px_icmp_ge 75 dX2_fillQueue_50 rfl (fun h50 => ?_) (fun h50 => ?_)
    · refine px_aload_n dX2_fillQueue_75 rfl rfl ?_
      refine px_getR dX2_fillQueue_76 fX2_18 (xol rfl) hM rfl (wr_2_1 hW (xol rfl)) (Nat.succ_pos _) ?_
      refine px_iload dX2_fillQueue_79 rfl ?_
      refine px_iload_n dX2_fillQueue_81 rfl rfl ?_
      refine px_iast dX2_fillQueue_82 (xal (n := 8) rfl) hM (vp_in_nI (by omega) (by decide)) ?_
      have h1 : ∀ j, j < i → wtG order A D f ≤ wtG order A D (q j) := by
        intro j hj
        first
          | (exfalso; rw [show (0 : Int32) = nI 0 from rfl, nI_leI (by omega) (by omega)] at h27; omega)
          | (have h50' := h50; rw [nI_leI (by have := hwt f hfn; omega) (by have := hwt (q (i - 1)) (by omega); omega)] at h50'; have := ord_mono hq (show j ≤ i - 1 by omega) (by omega); omega)
      refine px_inc_3 dX2_fillQueue_83 rfl ic_1 ?_
      refine px_goto 2 dX2_fillQueue_86 rfl ?_
      rw [nI_1 f]
      refine px_forget (by repeat' constructor) (px_mem (by rw [nI_clamp (by omega)]; exact wI_wF _ _ _ _ _) (nxt _ (insq q i f) (ins_ord hq hi h1 hg3) (fun k hk => ?_)))
      show (if k = i then nI f else g k) = nI (insq q i f k)
      unfold insq
      by_cases e : k = i
      · rw [if_pos e, if_neg (by omega), if_pos e]
      · rw [if_neg e]
        by_cases e2 : k < i
        · rw [if_pos e2]; exact hg1 k e2
        · rw [if_neg e2, if_neg e]; exact hg2 k (by omega) (by omega)
    · refine px_aload_n dX2_fillQueue_53 rfl rfl ?_
      refine px_getR dX2_fillQueue_54 fX2_18 (xol rfl) hM rfl (wr_2_1 hW (xol rfl)) (Nat.succ_pos _) ?_
      refine px_iload dX2_fillQueue_57 rfl ?_
      refine px_aload_n dX2_fillQueue_59 rfl rfl ?_
      refine px_getR dX2_fillQueue_60 fX2_18 (xol rfl) hM rfl (wr_2_1 hW (xol rfl)) (Nat.succ_pos _) ?_
      refine px_iload dX2_fillQueue_63 rfl ?_
      refine px_iconst dX2_fillQueue_65 ic_1 ?_
      refine px_isub dX2_fillQueue_66 ?_
      refine px_top (y := nI (i - 1)) (nI_m1 hpos) ?_
      refine px_iald dX2_fillQueue_67 (xal (n := 8) rfl) hM (vp_in_nI (by omega) (by decide)) ?_
      refine px_top (y := nI (q (i - 1))) (by rw [nI_clamp (by omega), xI_wF, if_pos rfl]; exact hg1 _ (by omega)) ?_
      refine px_iast dX2_fillQueue_68 (xal (n := 8) rfl) hM (vp_in_nI (by omega) (by decide)) ?_
      refine px_inc_5 dX2_fillQueue_69 rfl ic_m1 ?_
      refine px_goto 25 dX2_fillQueue_72 rfl ?_
      have hlt2 : wtG order A D (q (i - 1)) < wtG order A D f := by rw [nI_leI (by have := hwt f hfn; omega) (by have := hwt (q (i - 1)) (by omega); omega)] at h50; omega
      refine px_eq (lo' := [some (.ref 24), some (.ref s), some (.int (nI order)), some (.int (nI f)), some (.int (nI (wtG order A D f))), some (.int (nI (i - 1)))]) (by rw [nI_dc hpos]) (by rw [nI_clamp (by omega)]; exact wI_wF _ _ _ _ _) (nx hpos (by omega) _ (fun k hk => ?_) (fun k k1 k2 => ?_) (fun j j1 j2 => ?_))
      · show (if k = i then nI (q (i - 1)) else g k) = _
        rw [if_neg (by omega)]; exact hg1 k (by omega)
      · show (if k = i then nI (q (i - 1)) else g k) = _
        by_cases e : k = i
        · rw [if_pos e, e]
        · rw [if_neg e]; exact hg2 k (by omega) k2
      · by_cases e : j = i - 1
        · rw [e]; exact hlt2
        · exact hg3 j (by omega) j2

set_option maxRecDepth 100000 in
theorem l_X2_fillQueue {E : xE} {M : xMem} {s n W H order : Nat} {A D : Nat → Nat} (hM : xNT ≤ xN M) (hW : xWire M.2.1) (hs : xob s 7) (hsh : shC M s n W H A D) (hod : order < 3) : ∀ (g : Nat → Int32) (q : Nat → Nat), isOrd (wtG order A D) 0 q → (∀ k, k < 0 → g k = nI (q k)) → PR E mX2_fillQueue (xN M) 2 [some (.ref 24), some (.ref s), some (.int (nI order)), some (.int (nI 0)), none, none] [] (wF M 28 g) (fun r m => r = none ∧ ∃ g q, m = wF M 28 g ∧ isOrd (wtG order A D) n q ∧ ∀ k, k < n → g k = nI (q k)) := by
  have h8 : n ≤ 8 := hsh.2.2.2.1
  have h7 := xob_7 hs
  have hsg : ∀ g, shC (wF M 28 g) s n W H A D := fun g => shC_k2 hsh (fun a ha => by rw [xI_wF, if_neg (by unfold shX at ha; omega)])
  have hwt : ∀ f, f < n → wtG order A D f ≤ 484 := fun f hf => wtG_le (hsh.2.2.2.2.2.2 f hf).2.2.2.1 (hsh.2.2.2.2.2.2 f hf).2.2.2.2.2
  refine px_for (P := fun i => ∀ (g : Nat → Int32) (q : Nat → Nat), isOrd (wtG order A D) i q → (∀ k, k < i → g k = nI (q k)) → PR E mX2_fillQueue (xN M) 2 [some (.ref 24), some (.ref s), some (.int (nI order)), some (.int (nI i)), none, none] [] (wF M 28 g) (fun r m => r = none ∧ ∃ g q, m = wF M 28 g ∧ isOrd (wtG order A D) n q ∧ ∀ k, k < n → g k = nI (q k))) n (fun i hi nx => ?_) 0 (Nat.zero_le _)
  intro g q hq hg
  refine px_iload_n dX2_fillQueue_2 rfl rfl ?_
  refine px_aload_n dX2_fillQueue_3 rfl rfl ?_
  refine px_getI dX2_fillQueue_4 fX2_57 hs hM rfl ?_
  refine px_top (y := nI n) (hsg g).1 ?_
  refine px_icmp_ge 89 dX2_fillQueue_7 rfl (fun h7 => ?_) (fun h7 => ?_)
  · have hi2 : i = n := by rw [nI_leI (by omega) (by omega)] at h7; omega
    subst hi2
    exact px_ret dX2_fillQueue_89 rfl ⟨rfl, g, q, rfl, hq, hg⟩ (rfl)
  · have hlt : i < n := by rw [nI_leI (by omega) (by omega)] at h7; omega
    have hfi : vp_in (nI i) 8 := vp_in_nI (by omega) (by decide)
    have hnf : (nI i).toNatClampNeg = i := nI_clamp (by omega)
    refine px_aload_n dX2_fillQueue_10 rfl rfl ?_
    refine px_getR dX2_fillQueue_11 fX2_32 hs hM rfl (wr_7_0 hW hs) (Nat.succ_pos _) ?_
    refine px_iload_n dX2_fillQueue_14 rfl rfl ?_
    refine px_aald (t0 := 6) dX2_fillQueue_15 (ar_7 hs) (by decide) (fun _ => rfl) hM hfi (show M.2.1 (s + 1) (nI i).toNatClampNeg = s + 1 + 1 + i by rw [hnf]; exact wa_26 hW (ar_7 hs) (by omega)) (by omega) ?_
    refine px_iload_n dX2_fillQueue_16 rfl rfl ?_
    refine px_fS2i dX2_fillQueue_17 kX2_fillQueue_67 (Nat.le_of_ble_eq_true rfl) (c_X2_weightOf (s := s) (f := i) hM hs (hsg g) (by omega) hod) ?_
    refine px_si_4 dX2_fillQueue_20 rfl ?_
    refine px_iload_n dX2_fillQueue_22 rfl rfl ?_
    refine px_si_5 dX2_fillQueue_23 rfl ?_
    exact l_fq_in hM hW hs hsh hod hlt hq (fun g q a b => nx hlt g q a b) i (Nat.le_refl _) g hg (fun k k1 k2 => by omega) (fun j j1 j2 => by omega)

set_option maxRecDepth 100000 in
theorem c_X2_fillQueue {E : xE} {M : xMem} {s n W H order : Nat} {A D : Nat → Nat} (hM : xNT ≤ xN M) (hW : xWire M.2.1) (hs : xob s 7) (hsh : shC M s n W H A D) (hod : order < 3) : Ct E mX2_fillQueue [.ref 24, .ref s, .int (nI order)] M (xN M) (fun r m => r = none ∧ ∃ g q, m = wF M 28 g ∧ isOrd (wtG order A D) n q ∧ ∀ k, k < n → g k = nI (q k)) := by
  refine Ct.of (lo := [some (.ref 24), some (.ref s), some (.int (nI order)), none, none, none]) pln_X2 (Nat.le_of_ble_eq_true rfl) rfl (Nat.le_refl _) ?_
  refine px_iconst dX2_fillQueue_0 ic_0 ?_
  refine px_si_3 dX2_fillQueue_1 rfl ?_
  have k := l_X2_fillQueue (E := E) hM hW hs hsh hod (M.1 28) (fun _ => 0) ⟨fun i hi => absurd hi (Nat.not_lt_zero _), fun i j _ hj => absurd hj (Nat.not_lt_zero _)⟩ (fun k hk => absurd hk (Nat.not_lt_zero _))
  rw [wF_id] at k
  exact k
