/-! ===== steps: the calls on rows and texts ===== -/
theorem st_row {E : xE} {M : xMem} (h : InvJ M) (r n : Int32) : Stq E mX10_row mX11_row [.int r, .int n] M := by
  obtain ⟨s, d, n0, W, H, B, g, dd, S, P, K, hc, hr, ho, hp⟩ := id h
  have hM := hc.1.1
  have hW := hc.1.2.1
  have hz := hc.2.2.2.2.2
  have hmz := (rJ_1 hr).2.2
  have hR : (0 ≤ r ∧ r ≤ 5) ↔ (0 ≤ r ∧ r < 6) := in_l2 (n := 6) (c := 5) (by decide) rfl
  by_cases h1 : ¬ (0 ≤ r ∧ r < 6)
  · refine stp_o (v := -1) (x := none) (y := none) hc hr ho hp (CfC ?_) (fun m hm hr2 => CfR ?_)
    · have q := c_X10_row (E := E) (M := M) (r := r) (n := n) hM hW
      simp only [if_pos h1] at q
      exact q
    · have q := c_X11_row (E := E) (M := m) (r := r) (n := n) (rJ_1 hr2).1 (rJ_1 hr2).2.1
      simp only [hR] at q
      simp only [if_pos h1] at q
      exact q
  · skip
    by_cases h2 : ¬ n ≤ 40
    · refine stp_o (v := -1) (x := none) (y := none) hc hr ho hp (CfC ?_) (fun m hm hr2 => CfR ?_)
      · have q := c_X10_row (E := E) (M := M) (r := r) (n := n) hM hW
        simp only [if_neg h1, if_pos h2] at q
        exact q
      · have q := c_X11_row (E := E) (M := m) (r := r) (n := n) (rJ_1 hr2).1 (rJ_1 hr2).2.1
        simp only [hR] at q
        simp only [if_neg h1, if_pos h2] at q
        exact q
    · skip
      by_cases h3 : ¬ 0 ≤ n
      · refine stp_o (v := -3) (x := none) (y := some 5) hc hr ho hp (CfC ?_) (fun m hm hr2 => CfR ?_)
        · have q := c_X10_row (E := E) (M := M) (r := r) (n := n) hM hW
          simp only [if_neg h1, if_neg h2, if_pos h3] at q
          exact q
        · have q := c_X11_row (E := E) (M := m) (r := r) (n := n) (rJ_1 hr2).1 (rJ_1 hr2).2.1
          simp only [hR] at q
          simp only [if_neg h1, if_neg h2, if_pos h3] at q
          exact q
      · skip
        have hk : r.toNatClampNeg < 6 := r_lt (k := 6) rfl (Classical.not_not.mp h1)
        obtain ⟨q0, hq0, e0⟩ := le_nat (N := 40) (by decide) (Classical.not_not.mp h3) (Classical.not_not.mp h2)
        have qa := c_X10_row (E := E) (M := M) (r := r) (n := n) hM hW
        simp only [if_neg h1, if_neg h2, if_neg h3] at qa
        have qb := c_X11_row (E := E) (M := renM M (rA r) n 0) (r := r) (n := n) hM hW
        simp only [hR, if_neg h1, if_neg h2, if_neg h3] at qb
        subst e0
        exact stp_f qa qb (inv_ren h hk hq0)
theorem st_text {E : xE} {M : xMem} (h : InvJ M) (t n : Int32) : Stq E mX10_text mX11_text [.int t, .int n] M := by
  obtain ⟨s, d, n0, W, H, B, g, dd, S, P, K, hc, hr, ho, hp⟩ := id h
  have hM := hc.1.1
  have hW := hc.1.2.1
  have hz := hc.2.2.2.2.2
  have hmz := (rJ_1 hr).2.2
  have hR : (0 ≤ t ∧ t ≤ 3) ↔ (0 ≤ t ∧ t < 4) := in_l2 (n := 4) (c := 3) (by decide) rfl
  by_cases h1 : ¬ (0 ≤ t ∧ t < 4)
  · refine stp_o (v := -1) (x := none) (y := none) hc hr ho hp (CfC ?_) (fun m hm hr2 => CfR ?_)
    · have q := c_X10_text (E := E) (M := M) (t := t) (n := n) hM hW
      simp only [if_pos h1] at q
      exact q
    · have q := c_X11_text (E := E) (M := m) (t := t) (n := n) (rJ_1 hr2).1 (rJ_1 hr2).2.1
      simp only [hR] at q
      simp only [if_pos h1] at q
      exact q
  · skip
    by_cases h2 : ¬ n ≤ 120
    · refine stp_o (v := -1) (x := none) (y := none) hc hr ho hp (CfC ?_) (fun m hm hr2 => CfR ?_)
      · have q := c_X10_text (E := E) (M := M) (t := t) (n := n) hM hW
        simp only [if_neg h1, if_pos h2] at q
        exact q
      · have q := c_X11_text (E := E) (M := m) (t := t) (n := n) (rJ_1 hr2).1 (rJ_1 hr2).2.1
        simp only [hR] at q
        simp only [if_neg h1, if_pos h2] at q
        exact q
    · skip
      by_cases h3 : ¬ 0 ≤ n
      · refine stp_o (v := -3) (x := none) (y := some 5) hc hr ho hp (CfC ?_) (fun m hm hr2 => CfR ?_)
        · have q := c_X10_text (E := E) (M := M) (t := t) (n := n) hM hW
          simp only [if_neg h1, if_neg h2, if_pos h3] at q
          exact q
        · have q := c_X11_text (E := E) (M := m) (t := t) (n := n) (rJ_1 hr2).1 (rJ_1 hr2).2.1
          simp only [hR] at q
          simp only [if_neg h1, if_neg h2, if_pos h3] at q
          exact q
      · skip
        have hk : t.toNatClampNeg < 4 := r_lt (k := 4) rfl (Classical.not_not.mp h1)
        obtain ⟨q0, hq0, e0⟩ := le_nat (N := 120) (by decide) (Classical.not_not.mp h3) (Classical.not_not.mp h2)
        have qa := c_X10_text (E := E) (M := M) (t := t) (n := n) hM hW
        simp only [if_neg h1, if_neg h2, if_neg h3] at qa
        have qb := c_X11_text (E := E) (M := renM M (tA t) n 32) (t := t) (n := n) hM hW
        simp only [hR, if_neg h1, if_neg h2, if_neg h3] at qb
        subst e0
        exact stp_f qa qb (inv_rent h hk hq0)
theorem st_lay {E : xE} {M : xMem} (h : InvJ M) (r i v : Int32) : Stq E mX10_lay mX11_lay [.int r, .int i, .int v] M := by
  obtain ⟨s, d, n0, W, H, B, g, dd, S, P, K, hc, hr, ho, hp⟩ := id h
  have hM := hc.1.1
  have hW := hc.1.2.1
  have hz := hc.2.2.2.2.2
  have hmz := (rJ_1 hr).2.2
  have hR : (0 ≤ r ∧ r ≤ 5) ↔ (0 ≤ r ∧ r < 6) := in_l2 (n := 6) (c := 5) (by decide) rfl
  by_cases h1 : ¬ (0 ≤ r ∧ r < 6)
  · refine stp_o (v := -1) (x := none) (y := none) hc hr ho hp (CfC ?_) (fun m hm hr2 => CfR ?_)
    · have q := c_X10_lay (E := E) (M := M) (r := r) (i := i) (v := v) hM hW hz
      simp only [if_pos h1] at q
      exact q
    · have q := c_X11_lay (E := E) (M := m) (r := r) (i := i) (v := v) (rJ_1 hr2).1 (rJ_1 hr2).2.1 (rJ_1 hr2).2.2
      simp only [hR] at q
      simp only [if_pos h1] at q
      exact q
  · skip
    have hk : r.toNatClampNeg < 6 := r_lt (k := 6) rfl (Classical.not_not.mp h1)
    have hra : rA r = 42 + 2 * r.toNatClampNeg := rfl
    have hsz := hz.1 _ hk
    have hS : (¬ 0 ≤ M.1 (rA r) 1) ↔ M.1 (rA r) 1 = -1 := sz_m (N := 40) (by decide) hsz
    by_cases h2 : M.1 (rA r) 1 = -1
    · refine stp_o (v := -3) (x := none) (y := some 1) hc hr ho hp (CfC ?_) (fun m hm hr2 => CfR ?_)
      · have q := c_X10_lay (E := E) (M := M) (r := r) (i := i) (v := v) hM hW hz
        simp only [if_neg h1, if_pos h2] at q
        exact q
      · have q := c_X11_lay (E := E) (M := m) (r := r) (i := i) (v := v) (rJ_1 hr2).1 (rJ_1 hr2).2.1 (rJ_1 hr2).2.2
        have e76 : m.1 76 r.toNatClampNeg = M.1 (rA r) 1 := by rw [cS_n hm (by decide)]; exact (hp.2.2.2.1 _ hk).1.symm
        simp only [hR, e76, hS] at q
        simp only [if_neg h1, if_pos h2] at q
        exact q
    · skip
      have hI : (0 ≤ i ∧ i ≤ M.1 (rA r) 1 - 1) ↔ (0 ≤ i ∧ i < M.1 (rA r) 1) := sz_i (N := 40) (by decide) hsz h2
      by_cases h3 : ¬ (0 ≤ i ∧ i < M.1 (rA r) 1)
      · refine stp_o (v := -3) (x := none) (y := some 2) hc hr ho hp (CfC ?_) (fun m hm hr2 => CfR ?_)
        · have q := c_X10_lay (E := E) (M := M) (r := r) (i := i) (v := v) hM hW hz
          simp only [if_neg h1, if_neg h2, if_pos h3] at q
          exact q
        · have q := c_X11_lay (E := E) (M := m) (r := r) (i := i) (v := v) (rJ_1 hr2).1 (rJ_1 hr2).2.1 (rJ_1 hr2).2.2
          have e76 : m.1 76 r.toNatClampNeg = M.1 (rA r) 1 := by rw [cS_n hm (by decide)]; exact (hp.2.2.2.1 _ hk).1.symm
          simp only [hR, e76, hS, hI] at q
          simp only [if_neg h1, if_neg h2, if_pos h3] at q
          exact q
      · skip
        have hii := i_lt (Classical.not_not.mp h3).1 (Classical.not_not.mp h3).2
        rw [(hp.2.2.2.1 _ hk).1] at hii
        have qa := c_X10_lay (E := E) (M := M) (r := r) (i := i) (v := v) hM hW hz
        simp only [if_neg h1, if_neg h2, if_neg h3] at qa
        have o1 : ∀ a, 76 ≤ a → (telM (wI M (rA r + 1) i.toNatClampNeg v) (M.1 (rA r + 1) i.toNatClampNeg)).1 a = M.1 a := fun a ha => by
          funext j
          rw [xI_wI, if_neg (by omega), xI_wI, if_neg (by omega)]
        have qb := c_X11_lay (E := E) (M := telM (wI M (rA r + 1) i.toNatClampNeg v) (M.1 (rA r + 1) i.toNatClampNeg)) (r := r) (i := i) (v := v) hM hW (mszOK_k hmz (o1 76 (by decide)) (o1 79 (by decide)))
        have e76 : (telM (wI M (rA r + 1) i.toNatClampNeg v) (M.1 (rA r + 1) i.toNatClampNeg)).1 76 r.toNatClampNeg = M.1 (rA r) 1 := by rw [o1 76 (by decide)]; exact (hp.2.2.2.1 _ hk).1.symm
        simp only [hR, e76, hS, hI, if_neg h1, if_neg h2, if_neg h3] at qb
        exact stp_f qa qb (inv_lay h hk hii)
theorem st_at {E : xE} {M : xMem} (h : InvJ M) (r i : Int32) : Stq E mX10_at mX11_at [.int r, .int i] M := by
  obtain ⟨s, d, n0, W, H, B, g, dd, S, P, K, hc, hr, ho, hp⟩ := id h
  have hM := hc.1.1
  have hW := hc.1.2.1
  have hz := hc.2.2.2.2.2
  have hmz := (rJ_1 hr).2.2
  have hR : (0 ≤ r ∧ r ≤ 5) ↔ (0 ≤ r ∧ r < 6) := in_l2 (n := 6) (c := 5) (by decide) rfl
  by_cases h1 : ¬ (0 ≤ r ∧ r < 6)
  · refine stp_o (v := -1) (x := none) (y := none) hc hr ho hp (CfC ?_) (fun m hm hr2 => CfR ?_)
    · have q := c_X10_at (E := E) (M := M) (r := r) (i := i) hM hW hz
      simp only [if_pos h1] at q
      exact q
    · have q := c_X11_at (E := E) (M := m) (r := r) (i := i) (rJ_1 hr2).1 (rJ_1 hr2).2.1 (rJ_1 hr2).2.2
      simp only [hR] at q
      simp only [if_pos h1] at q
      exact q
  · skip
    have hk : r.toNatClampNeg < 6 := r_lt (k := 6) rfl (Classical.not_not.mp h1)
    have hra : rA r = 42 + 2 * r.toNatClampNeg := rfl
    have hsz := hz.1 _ hk
    have hS : (¬ 0 ≤ M.1 (rA r) 1) ↔ M.1 (rA r) 1 = -1 := sz_m (N := 40) (by decide) hsz
    by_cases h2 : M.1 (rA r) 1 = -1
    · refine stp_o (v := -3) (x := none) (y := some 1) hc hr ho hp (CfC ?_) (fun m hm hr2 => CfR ?_)
      · have q := c_X10_at (E := E) (M := M) (r := r) (i := i) hM hW hz
        simp only [if_neg h1, if_pos h2] at q
        exact q
      · have q := c_X11_at (E := E) (M := m) (r := r) (i := i) (rJ_1 hr2).1 (rJ_1 hr2).2.1 (rJ_1 hr2).2.2
        have e76 : m.1 76 r.toNatClampNeg = M.1 (rA r) 1 := by rw [cS_n hm (by decide)]; exact (hp.2.2.2.1 _ hk).1.symm
        simp only [hR, e76, hS] at q
        simp only [if_neg h1, if_pos h2] at q
        exact q
    · skip
      have hI : (0 ≤ i ∧ i ≤ M.1 (rA r) 1 - 1) ↔ (0 ≤ i ∧ i < M.1 (rA r) 1) := sz_i (N := 40) (by decide) hsz h2
      by_cases h3 : ¬ (0 ≤ i ∧ i < M.1 (rA r) 1)
      · refine stp_o (v := -3) (x := none) (y := some 2) hc hr ho hp (CfC ?_) (fun m hm hr2 => CfR ?_)
        · have q := c_X10_at (E := E) (M := M) (r := r) (i := i) hM hW hz
          simp only [if_neg h1, if_neg h2, if_pos h3] at q
          exact q
        · have q := c_X11_at (E := E) (M := m) (r := r) (i := i) (rJ_1 hr2).1 (rJ_1 hr2).2.1 (rJ_1 hr2).2.2
          have e76 : m.1 76 r.toNatClampNeg = M.1 (rA r) 1 := by rw [cS_n hm (by decide)]; exact (hp.2.2.2.1 _ hk).1.symm
          simp only [hR, e76, hS, hI] at q
          simp only [if_neg h1, if_neg h2, if_pos h3] at q
          exact q
      · skip
        have hii := i_lt (Classical.not_not.mp h3).1 (Classical.not_not.mp h3).2
        rw [(hp.2.2.2.1 _ hk).1] at hii
        refine stp_o (v := 1) (x := some (M.1 (rA r + 1) i.toNatClampNeg)) (y := none) hc hr ho hp (CfC ?_) (fun m hm hr2 => CfR ?_)
        · have q := c_X10_at (E := E) (M := M) (r := r) (i := i) hM hW hz
          simp only [if_neg h1, if_neg h2, if_neg h3] at q
          exact q
        · have q := c_X11_at (E := E) (M := m) (r := r) (i := i) (rJ_1 hr2).1 (rJ_1 hr2).2.1 (rJ_1 hr2).2.2
          have e76 : m.1 76 r.toNatClampNeg = M.1 (rA r) 1 := by rw [cS_n hm (by decide)]; exact (hp.2.2.2.1 _ hk).1.symm
          have e77 : m.1 77 (40 * r.toNatClampNeg + i.toNatClampNeg) = M.1 (rA r + 1) i.toNatClampNeg := by rw [cS_n hm (by decide)]; exact ((hp.2.2.2.1 _ hk).2 _ hii).symm
          simp only [hR, e76, hS, hI, if_neg h1, if_neg h2, if_neg h3, e77] at q
          exact q
theorem st_tear {E : xE} {M : xMem} (h : InvJ M) (r : Int32) : Stq E mX10_tear mX11_tear [.int r] M := by
  obtain ⟨s, d, n0, W, H, B, g, dd, S, P, K, hc, hr, ho, hp⟩ := id h
  have hM := hc.1.1
  have hW := hc.1.2.1
  have hz := hc.2.2.2.2.2
  have hmz := (rJ_1 hr).2.2
  have hR : (0 ≤ r ∧ r ≤ 5) ↔ (0 ≤ r ∧ r < 6) := in_l2 (n := 6) (c := 5) (by decide) rfl
  by_cases h1 : ¬ (0 ≤ r ∧ r < 6)
  · refine stp_o (v := -1) (x := none) (y := none) hc hr ho hp (CfC ?_) (fun m hm hr2 => CfR ?_)
    · have q := c_X10_tear (E := E) (M := M) (r := r) hM hW
      simp only [if_pos h1] at q
      exact q
    · have q := c_X11_tear (E := E) (M := m) (r := r) (rJ_1 hr2).1 (rJ_1 hr2).2.1
      simp only [hR] at q
      simp only [if_pos h1] at q
      exact q
  · skip
    have hk : r.toNatClampNeg < 6 := r_lt (k := 6) rfl (Classical.not_not.mp h1)
    have hra : rA r = 42 + 2 * r.toNatClampNeg := rfl
    have hsz := hz.1 _ hk
    have hS : (¬ 0 ≤ M.1 (rA r) 1) ↔ M.1 (rA r) 1 = -1 := sz_m (N := 40) (by decide) hsz
    by_cases h2 : M.1 (rA r) 1 = -1
    · refine stp_o (v := -3) (x := none) (y := some 1) hc hr ho hp (CfC ?_) (fun m hm hr2 => CfR ?_)
      · have q := c_X10_tear (E := E) (M := M) (r := r) hM hW
        simp only [if_neg h1, if_pos h2] at q
        exact q
      · have q := c_X11_tear (E := E) (M := m) (r := r) (rJ_1 hr2).1 (rJ_1 hr2).2.1
        have e76 : m.1 76 r.toNatClampNeg = M.1 (rA r) 1 := by rw [cS_n hm (by decide)]; exact (hp.2.2.2.1 _ hk).1.symm
        simp only [hR, e76, hS] at q
        simp only [if_neg h1, if_pos h2] at q
        exact q
    · skip
      have qa := c_X10_tear (E := E) (M := M) (r := r) hM hW
      simp only [if_neg h1, if_neg h2] at qa
      have qb := c_X11_tear (E := E) (M := wI M (rA r) 1 (-1)) (r := r) hM hW
      have e76 : (wI M (rA r) 1 (-1)).1 76 r.toNatClampNeg = M.1 (rA r) 1 := by rw [xI_wI, if_neg (by omega)]; exact (hp.2.2.2.1 _ hk).1.symm
      simp only [hR, e76, hS, if_neg h1, if_neg h2] at qb
      exact stp_f qa qb (inv_tear h hk)
theorem sumL_c {f f' : Nat → Int32} : ∀ n, (∀ i, i < n → f i = f' i) → sumL f n = sumL f' n
  | 0, _ => rfl
  | n + 1, h => by rw [sumL, sumL, sumL_c n (fun i hi => h i (by omega)), h n (by omega)]
theorem st_mean {E : xE} {M : xMem} (h : InvJ M) (r : Int32) : Stq E mX10_mean mX11_mean [.int r] M := by
  obtain ⟨s, d, n0, W, H, B, g, dd, S, P, K, hc, hr, ho, hp⟩ := id h
  have hM := hc.1.1
  have hW := hc.1.2.1
  have hz := hc.2.2.2.2.2
  have hmz := (rJ_1 hr).2.2
  have hR : (0 ≤ r ∧ r ≤ 5) ↔ (0 ≤ r ∧ r < 6) := in_l2 (n := 6) (c := 5) (by decide) rfl
  by_cases h1 : ¬ (0 ≤ r ∧ r < 6)
  · refine stp_o (v := -1) (x := none) (y := none) hc hr ho hp (CfC ?_) (fun m hm hr2 => CfR ?_)
    · have q := c_X10_mean (E := E) (M := M) (r := r) hM hW hz
      simp only [if_pos h1] at q
      exact q
    · have q := c_X11_mean (E := E) (M := m) (r := r) (rJ_1 hr2).1 (rJ_1 hr2).2.1 (rJ_1 hr2).2.2
      simp only [hR] at q
      simp only [if_pos h1] at q
      exact q
  · skip
    have hk : r.toNatClampNeg < 6 := r_lt (k := 6) rfl (Classical.not_not.mp h1)
    have hra : rA r = 42 + 2 * r.toNatClampNeg := rfl
    have hsz := hz.1 _ hk
    have hS : (¬ 0 ≤ M.1 (rA r) 1) ↔ M.1 (rA r) 1 = -1 := sz_m (N := 40) (by decide) hsz
    by_cases h2 : M.1 (rA r) 1 = -1
    · refine stp_o (v := -3) (x := none) (y := some 1) hc hr ho hp (CfC ?_) (fun m hm hr2 => CfR ?_)
      · have q := c_X10_mean (E := E) (M := M) (r := r) hM hW hz
        simp only [if_neg h1, if_pos h2] at q
        exact q
      · have q := c_X11_mean (E := E) (M := m) (r := r) (rJ_1 hr2).1 (rJ_1 hr2).2.1 (rJ_1 hr2).2.2
        have e76 : m.1 76 r.toNatClampNeg = M.1 (rA r) 1 := by rw [cS_n hm (by decide)]; exact (hp.2.2.2.1 _ hk).1.symm
        simp only [hR, e76, hS] at q
        simp only [if_neg h1, if_pos h2] at q
        exact q
    · skip
      by_cases h3 : M.1 (rA r) 1 = 0
      · refine stp_o (v := -3) (x := none) (y := some 4) hc hr ho hp (CfC ?_) (fun m hm hr2 => CfR ?_)
        · have q := c_X10_mean (E := E) (M := M) (r := r) hM hW hz
          simp only [if_neg h1, if_neg h2, if_pos h3] at q
          exact q
        · have q := c_X11_mean (E := E) (M := m) (r := r) (rJ_1 hr2).1 (rJ_1 hr2).2.1 (rJ_1 hr2).2.2
          have e76 : m.1 76 r.toNatClampNeg = M.1 (rA r) 1 := by rw [cS_n hm (by decide)]; exact (hp.2.2.2.1 _ hk).1.symm
          simp only [hR, e76, hS] at q
          simp only [if_neg h1, if_neg h2, if_pos h3] at q
          exact q
      · skip
        refine stp_o (v := 1) (x := some (sumL (M.1 (rA r + 1)) (M.1 (rA r) 1).toNatClampNeg / (M.1 (rA r) 1).toInt64).toInt32) (y := none) hc hr ho hp (CfC ?_) (fun m hm hr2 => CfR ?_)
        · have q := c_X10_mean (E := E) (M := M) (r := r) hM hW hz
          simp only [if_neg h1, if_neg h2, if_neg h3] at q
          exact q
        · have q := c_X11_mean (E := E) (M := m) (r := r) (rJ_1 hr2).1 (rJ_1 hr2).2.1 (rJ_1 hr2).2.2
          have e76 : m.1 76 r.toNatClampNeg = M.1 (rA r) 1 := by rw [cS_n hm (by decide)]; exact (hp.2.2.2.1 _ hk).1.symm
          have e77 : sumL (fun k => m.1 77 (40 * r.toNatClampNeg + k)) (M.1 (rA r) 1).toNatClampNeg = sumL (M.1 (rA r + 1)) (M.1 (rA r) 1).toNatClampNeg := sumL_c _ (fun k hk2 => by
            rw [(hp.2.2.2.1 _ hk).1] at hk2
            show m.1 77 (40 * r.toNatClampNeg + k) = M.1 (rA r + 1) k
            rw [cS_n hm (by decide)]; exact ((hp.2.2.2.1 _ hk).2 _ hk2).symm)
          simp only [hR, e76, hS, if_neg h1, if_neg h2, if_neg h3, e77] at q
          exact q
theorem st_put {E : xE} {M : xMem} (h : InvJ M) (t i v : Int32) : Stq E mX10_put mX11_put [.int t, .int i, .int v] M := by
  obtain ⟨s, d, n0, W, H, B, g, dd, S, P, K, hc, hr, ho, hp⟩ := id h
  have hM := hc.1.1
  have hW := hc.1.2.1
  have hz := hc.2.2.2.2.2
  have hmz := (rJ_1 hr).2.2
  have hR : (0 ≤ t ∧ t ≤ 3) ↔ (0 ≤ t ∧ t < 4) := in_l2 (n := 4) (c := 3) (by decide) rfl
  by_cases h1 : ¬ (0 ≤ t ∧ t < 4)
  · refine stp_o (v := -1) (x := none) (y := none) hc hr ho hp (CfC ?_) (fun m hm hr2 => CfR ?_)
    · have q := c_X10_put (E := E) (M := M) (t := t) (i := i) (v := v) hM hW hz
      simp only [if_pos h1] at q
      exact q
    · have q := c_X11_put (E := E) (M := m) (t := t) (i := i) (v := v) (rJ_1 hr2).1 (rJ_1 hr2).2.1 (rJ_1 hr2).2.2
      simp only [hR] at q
      simp only [if_pos h1] at q
      exact q
  · skip
    have hk : t.toNatClampNeg < 4 := r_lt (k := 4) rfl (Classical.not_not.mp h1)
    have hra : tA t = 54 + 2 * t.toNatClampNeg := rfl
    have hsz := hz.2 _ hk
    have hS : (¬ 0 ≤ M.1 (tA t) 1) ↔ M.1 (tA t) 1 = -1 := sz_m (N := 120) (by decide) hsz
    by_cases h2 : M.1 (tA t) 1 = -1
    · refine stp_o (v := -3) (x := none) (y := some 1) hc hr ho hp (CfC ?_) (fun m hm hr2 => CfR ?_)
      · have q := c_X10_put (E := E) (M := M) (t := t) (i := i) (v := v) hM hW hz
        simp only [if_neg h1, if_pos h2] at q
        exact q
      · have q := c_X11_put (E := E) (M := m) (t := t) (i := i) (v := v) (rJ_1 hr2).1 (rJ_1 hr2).2.1 (rJ_1 hr2).2.2
        have e76 : m.1 79 t.toNatClampNeg = M.1 (tA t) 1 := by rw [cS_n hm (by decide)]; exact (hp.2.2.2.2 _ hk).1.symm
        simp only [hR, e76, hS] at q
        simp only [if_neg h1, if_pos h2] at q
        exact q
    · skip
      have hI : (0 ≤ i ∧ i ≤ M.1 (tA t) 1 - 1) ↔ (0 ≤ i ∧ i < M.1 (tA t) 1) := sz_i (N := 120) (by decide) hsz h2
      by_cases h3 : ¬ (0 ≤ i ∧ i < M.1 (tA t) 1)
      · refine stp_o (v := -3) (x := none) (y := some 2) hc hr ho hp (CfC ?_) (fun m hm hr2 => CfR ?_)
        · have q := c_X10_put (E := E) (M := M) (t := t) (i := i) (v := v) hM hW hz
          simp only [if_neg h1, if_neg h2, if_pos h3] at q
          exact q
        · have q := c_X11_put (E := E) (M := m) (t := t) (i := i) (v := v) (rJ_1 hr2).1 (rJ_1 hr2).2.1 (rJ_1 hr2).2.2
          have e76 : m.1 79 t.toNatClampNeg = M.1 (tA t) 1 := by rw [cS_n hm (by decide)]; exact (hp.2.2.2.2 _ hk).1.symm
          simp only [hR, e76, hS, hI] at q
          simp only [if_neg h1, if_neg h2, if_pos h3] at q
          exact q
      · skip
        have hii := i_lt (Classical.not_not.mp h3).1 (Classical.not_not.mp h3).2
        rw [(hp.2.2.2.2 _ hk).1] at hii
        have qa := c_X10_put (E := E) (M := M) (t := t) (i := i) (v := v) hM hW hz
        simp only [if_neg h1, if_neg h2, if_neg h3] at qa
        have o1 : ∀ a, 76 ≤ a → (wI M (tA t + 1) i.toNatClampNeg v.toInt8.toInt32).1 a = M.1 a := fun a ha => by
          funext j
          rw [xI_wI, if_neg (by omega)]
        have qb := c_X11_put (E := E) (M := wI M (tA t + 1) i.toNatClampNeg v.toInt8.toInt32) (t := t) (i := i) (v := v) hM hW (mszOK_k hmz (o1 76 (by decide)) (o1 79 (by decide)))
        have e76 : (wI M (tA t + 1) i.toNatClampNeg v.toInt8.toInt32).1 79 t.toNatClampNeg = M.1 (tA t) 1 := by rw [o1 79 (by decide)]; exact (hp.2.2.2.2 _ hk).1.symm
        have e80 : (wI M (tA t + 1) i.toNatClampNeg v.toInt8.toInt32).1 80 (120 * t.toNatClampNeg + i.toNatClampNeg) = M.1 (tA t + 1) i.toNatClampNeg := by rw [o1 80 (by decide)]; exact ((hp.2.2.2.2 _ hk).2 _ hii).symm
        simp only [hR, e76, hS, hI, if_neg h1, if_neg h2, if_neg h3, e80] at qb
        exact stp_f qa qb (inv_put h hk hii)
theorem cp_in {x i n : Int32} {N : Nat} (hN : N ≤ 40) (e : x = nI N) (h0 : 0 ≤ n) (h : 0 ≤ i ∧ i ≤ x ∧ n ≤ x - i) : i.toNatClampNeg + n.toNatClampNeg ≤ x.toNatClampNeg := by
  subst e
  obtain ⟨a, ha, rfl⟩ := le_nat (by omega) h.1 h.2.1
  rw [pk_sub (by omega)] at h
  obtain ⟨b, hb, rfl⟩ := le_nat (by omega) h0 h.2.2
  rw [nI_clamp (by omega), nI_clamp (by omega), nI_clamp (by omega)]
  omega
theorem st_copy {E : xE} {M : xMem} (h : InvJ M) (r i to j n : Int32) : Stq E mX10_copy mX11_copy [.int r, .int i, .int to, .int j, .int n] M := by
  obtain ⟨s, d, n0, W, H, B, g, dd, S, P, K, hc, hr, ho, hp⟩ := id h
  have hM := hc.1.1
  have hW := hc.1.2.1
  have hz := hc.2.2.2.2.2
  have hmz := (rJ_1 hr).2.2
  have hR : (0 ≤ r ∧ r ≤ 5) ↔ (0 ≤ r ∧ r < 6) := in_l2 (n := 6) (c := 5) (by decide) rfl
  have hR2 : (0 ≤ to ∧ to ≤ 5) ↔ (0 ≤ to ∧ to < 6) := in_l2 (n := 6) (c := 5) (by decide) rfl
  by_cases h1 : ¬ (0 ≤ r ∧ r < 6)
  · refine stp_o (v := -1) (x := none) (y := none) hc hr ho hp (CfC ?_) (fun m hm hr2 => CfR ?_)
    · have q := c_X10_copy (E := E) (M := M) (r := r) (i := i) (to := to) (j := j) (n := n) hM hW hz
      simp only [if_pos h1] at q
      exact q
    · have q := c_X11_copy (E := E) (M := m) (r := r) (u := i) (to := to) (w := j) (n := n) (rJ_1 hr2).1 (rJ_1 hr2).2.1 (rJ_1 hr2).2.2
      simp only [hR, hR2] at q
      simp only [if_pos h1] at q
      exact q
  · skip
    by_cases h2 : ¬ (0 ≤ to ∧ to < 6)
    · refine stp_o (v := -1) (x := none) (y := none) hc hr ho hp (CfC ?_) (fun m hm hr2 => CfR ?_)
      · have q := c_X10_copy (E := E) (M := M) (r := r) (i := i) (to := to) (j := j) (n := n) hM hW hz
        simp only [if_neg h1, if_pos h2] at q
        exact q
      · have q := c_X11_copy (E := E) (M := m) (r := r) (u := i) (to := to) (w := j) (n := n) (rJ_1 hr2).1 (rJ_1 hr2).2.1 (rJ_1 hr2).2.2
        simp only [hR, hR2] at q
        simp only [if_neg h1, if_pos h2] at q
        exact q
    · skip
      by_cases h3 : ¬ 0 ≤ n
      · refine stp_o (v := -3) (x := none) (y := some 5) hc hr ho hp (CfC ?_) (fun m hm hr2 => CfR ?_)
        · have q := c_X10_copy (E := E) (M := M) (r := r) (i := i) (to := to) (j := j) (n := n) hM hW hz
          simp only [if_neg h1, if_neg h2, if_pos h3] at q
          exact q
        · have q := c_X11_copy (E := E) (M := m) (r := r) (u := i) (to := to) (w := j) (n := n) (rJ_1 hr2).1 (rJ_1 hr2).2.1 (rJ_1 hr2).2.2
          simp only [hR, hR2] at q
          simp only [if_neg h1, if_neg h2, if_pos h3] at q
          exact q
      · skip
        have hk : r.toNatClampNeg < 6 := r_lt (k := 6) rfl (Classical.not_not.mp h1)
        have hk2 : to.toNatClampNeg < 6 := r_lt (k := 6) rfl (Classical.not_not.mp h2)
        have hra : rA to = 42 + 2 * to.toNatClampNeg := rfl
        have hsz := hz.1 _ hk
        have hsz2 := hz.1 _ hk2
        have hS : M.1 (rA r) 1 < 0 ↔ M.1 (rA r) 1 = -1 := sz_l (N := 40) (by decide) hsz
        have hS2 : (¬ 0 ≤ M.1 (rA to) 1) ↔ M.1 (rA to) 1 = -1 := sz_m (N := 40) (by decide) hsz2
        by_cases h4 : M.1 (rA r) 1 = -1
        · refine stp_o (v := -3) (x := none) (y := some 1) hc hr ho hp (CfC ?_) (fun m hm hr2 => CfR ?_)
          · have q := c_X10_copy (E := E) (M := M) (r := r) (i := i) (to := to) (j := j) (n := n) hM hW hz
            simp only [if_neg h1, if_neg h2, if_neg h3, if_pos h4] at q
            exact q
          · have q := c_X11_copy (E := E) (M := m) (r := r) (u := i) (to := to) (w := j) (n := n) (rJ_1 hr2).1 (rJ_1 hr2).2.1 (rJ_1 hr2).2.2
            have e76 : m.1 76 r.toNatClampNeg = M.1 (rA r) 1 := by rw [cS_n hm (by decide)]; exact (hp.2.2.2.1 _ hk).1.symm
            have e762 : m.1 76 to.toNatClampNeg = M.1 (rA to) 1 := by rw [cS_n hm (by decide)]; exact (hp.2.2.2.1 _ hk2).1.symm
            simp only [hR, hR2, e76, e762, hS, hS2] at q
            simp only [if_neg h1, if_neg h2, if_neg h3, if_pos h4] at q
            exact q
        · skip
          by_cases h5 : M.1 (rA to) 1 = -1
          · refine stp_o (v := -3) (x := none) (y := some 1) hc hr ho hp (CfC ?_) (fun m hm hr2 => CfR ?_)
            · have q := c_X10_copy (E := E) (M := M) (r := r) (i := i) (to := to) (j := j) (n := n) hM hW hz
              simp only [if_neg h1, if_neg h2, if_neg h3, if_neg h4, if_pos h5] at q
              exact q
            · have q := c_X11_copy (E := E) (M := m) (r := r) (u := i) (to := to) (w := j) (n := n) (rJ_1 hr2).1 (rJ_1 hr2).2.1 (rJ_1 hr2).2.2
              have e76 : m.1 76 r.toNatClampNeg = M.1 (rA r) 1 := by rw [cS_n hm (by decide)]; exact (hp.2.2.2.1 _ hk).1.symm
              have e762 : m.1 76 to.toNatClampNeg = M.1 (rA to) 1 := by rw [cS_n hm (by decide)]; exact (hp.2.2.2.1 _ hk2).1.symm
              simp only [hR, hR2, e76, e762, hS, hS2] at q
              simp only [if_neg h1, if_neg h2, if_neg h3, if_neg h4, if_pos h5] at q
              exact q
          · skip
            by_cases h6 : ¬ (0 ≤ i ∧ i ≤ M.1 (rA r) 1 ∧ n ≤ M.1 (rA r) 1 - i)
            · refine stp_o (v := -3) (x := none) (y := some 2) hc hr ho hp (CfC ?_) (fun m hm hr2 => CfR ?_)
              · have q := c_X10_copy (E := E) (M := M) (r := r) (i := i) (to := to) (j := j) (n := n) hM hW hz
                simp only [if_neg h1, if_neg h2, if_neg h3, if_neg h4, if_neg h5, if_pos h6] at q
                exact q
              · have q := c_X11_copy (E := E) (M := m) (r := r) (u := i) (to := to) (w := j) (n := n) (rJ_1 hr2).1 (rJ_1 hr2).2.1 (rJ_1 hr2).2.2
                have e76 : m.1 76 r.toNatClampNeg = M.1 (rA r) 1 := by rw [cS_n hm (by decide)]; exact (hp.2.2.2.1 _ hk).1.symm
                have e762 : m.1 76 to.toNatClampNeg = M.1 (rA to) 1 := by rw [cS_n hm (by decide)]; exact (hp.2.2.2.1 _ hk2).1.symm
                simp only [hR, hR2, e76, e762, hS, hS2] at q
                simp only [if_neg h1, if_neg h2, if_neg h3, if_neg h4, if_neg h5, if_pos h6] at q
                exact q
            · skip
              by_cases h7 : ¬ (0 ≤ j ∧ j ≤ M.1 (rA to) 1 ∧ n ≤ M.1 (rA to) 1 - j)
              · refine stp_o (v := -3) (x := none) (y := some 2) hc hr ho hp (CfC ?_) (fun m hm hr2 => CfR ?_)
                · have q := c_X10_copy (E := E) (M := M) (r := r) (i := i) (to := to) (j := j) (n := n) hM hW hz
                  simp only [if_neg h1, if_neg h2, if_neg h3, if_neg h4, if_neg h5, if_neg h6, if_pos h7] at q
                  exact q
                · have q := c_X11_copy (E := E) (M := m) (r := r) (u := i) (to := to) (w := j) (n := n) (rJ_1 hr2).1 (rJ_1 hr2).2.1 (rJ_1 hr2).2.2
                  have e76 : m.1 76 r.toNatClampNeg = M.1 (rA r) 1 := by rw [cS_n hm (by decide)]; exact (hp.2.2.2.1 _ hk).1.symm
                  have e762 : m.1 76 to.toNatClampNeg = M.1 (rA to) 1 := by rw [cS_n hm (by decide)]; exact (hp.2.2.2.1 _ hk2).1.symm
                  simp only [hR, hR2, e76, e762, hS, hS2] at q
                  simp only [if_neg h1, if_neg h2, if_neg h3, if_neg h4, if_neg h5, if_neg h6, if_pos h7] at q
                  exact q
              · skip
                obtain ⟨N1, hN1, e1⟩ := hsz.resolve_left h4
                obtain ⟨N2, hN2, e2⟩ := hsz2.resolve_left h5
                have b1 := cp_in hN1 e1 (Classical.not_not.mp h3) (Classical.not_not.mp h6)
                have b2 := cp_in hN2 e2 (Classical.not_not.mp h3) (Classical.not_not.mp h7)
                rw [(hp.2.2.2.1 _ hk).1] at b1
                rw [(hp.2.2.2.1 _ hk2).1] at b2
                have qa := c_X10_copy (E := E) (M := M) (r := r) (i := i) (to := to) (j := j) (n := n) hM hW hz
                simp only [if_neg h1, if_neg h2, if_neg h3, if_neg h4, if_neg h5, if_neg h6, if_neg h7] at qa
                have o1 : ∀ a, 76 ≤ a → (wF M (rA to + 1) (va_cpy (M.1 (rA r + 1)) (M.1 (rA to + 1)) i.toNatClampNeg j.toNatClampNeg n.toNatClampNeg)).1 a = M.1 a := fun a ha => by
                  rw [xI_wF, if_neg (by omega)]
                have qb := c_X11_copy (E := E) (M := wF M (rA to + 1) (va_cpy (M.1 (rA r + 1)) (M.1 (rA to + 1)) i.toNatClampNeg j.toNatClampNeg n.toNatClampNeg)) (r := r) (u := i) (to := to) (w := j) (n := n) hM hW (mszOK_k hmz (o1 76 (by decide)) (o1 79 (by decide)))
                rw [o1 76 (by decide), o1 77 (by decide)] at qb
                have e76 : M.1 76 r.toNatClampNeg = M.1 (rA r) 1 := by skip; exact (hp.2.2.2.1 _ hk).1.symm
                have e762 : M.1 76 to.toNatClampNeg = M.1 (rA to) 1 := by skip; exact (hp.2.2.2.1 _ hk2).1.symm
                simp only [hR, hR2, e76, e762, hS, hS2, if_neg h1, if_neg h2, if_neg h3, if_neg h4, if_neg h5, if_neg h6, if_neg h7] at qb
                exact stp_f qa qb (inv_copy h hk hk2 b1 b2)
