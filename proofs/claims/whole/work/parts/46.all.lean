/-! ===== all set anew, of both ===== -/
/-- only a layout's spots, the room and the queue differ -/
def pkS (la : Nat) (M M1 : xMem) : Prop := M1.2 = M.2 ∧ ∀ a, a ≠ 25 → a ≠ 26 → a ≠ 27 → a ≠ 28 → a ≠ la + 1 → M1.1 a = M.1 a
theorem pkS.tr {la : Nat} {M M1 M2 : xMem} (h : pkS la M M1) (h' : pkS la M1 M2) : pkS la M M2 := ⟨h'.1.trans h.1, fun a a1 a2 a3 a4 a5 => (h'.2 a a1 a2 a3 a4 a5).trans (h.2 a a1 a2 a3 a4 a5)⟩
theorem rmS.p {la : Nat} {M M1 : xMem} (h : rmS M M1) : pkS la M M1 := ⟨h.1, fun a a1 a2 a3 _ _ => h.2 a a1 a2 a3⟩
theorem pkS.l (la : Nat) (M : xMem) (g : Nat → Int32) : pkS la M (wF M (la + 1) g) := ⟨rfl, fun a _ _ _ _ a5 => by rw [xI_wF, if_neg a5]⟩
theorem pkS.q (la : Nat) (M : xMem) (g : Nat → Int32) : pkS la M (wF M 28 g) := ⟨rfl, fun a _ _ _ a4 _ => by rw [xI_wF, if_neg a4]⟩
theorem pkS.m {la : Nat} {M m : xMem} (h : pkS la M m) : xN m = xN M := by show m.2.2.2 = M.2.2.2; rw [h.1]
theorem pkS.w {la : Nat} {M m : xMem} (h : pkS la M m) : m.2.1 = M.2.1 := by rw [h.1]
theorem pkS.x {la s : Nat} {M m : xMem} (hla : xob la 1) (hs : xob s 7) (h : pkS la M m) : ∀ a, shX s a → m.1 a = M.1 a := by
  intro a ha
  have h1 := xob_1 hla
  have h7 := xob_7 hs
  unfold shX at ha
  exact h.2 a (by omega) (by omega) (by omega) (by omega) (by omega)

set_option maxRecDepth 100000 in
theorem l_X2_setAllAnew {E : xE} {M : xMem} {s la n W H rule order : Nat} {A D T : Nat → Nat} (hM : xNT ≤ xN M) (hW : xWire M.2.1) (hs : xob s 7) (hla : xob la 1) (hsh : shC M s n W H A D) (hsT : shT M s n T) (hrl : M.1 la 1 = nI rule) (hru : rule < 4) {q : Nat → Nat} (hq : isOrd (wtG order A D) n q) : ∀ m, pkS la M m → lyC (m.1 (la + 1)) (allL rule W H A D T q 0) → (∀ k, k < n → m.1 28 k = nI (q k)) → PR E mX2_setAllAnew (xN M) 13 [some (.ref 24), some (.ref s), some (.ref la), some (.int (nI order)), some (.int (nI 0))] [] m (fun r m => r = none ∧ pkS la M m ∧ lyC (m.1 (la + 1)) (allL rule W H A D T q n)) := by
  have h8 : n ≤ 8 := hsh.2.2.2.1
  have hWH : W ≤ 16 ∧ H ≤ 16 := ⟨hsh.2.2.2.2.1, hsh.2.2.2.2.2.1⟩
  have h7 := xob_7 hs
  have h1 := xob_1 hla
  refine px_for (P := fun i => ∀ m, pkS la M m → lyC (m.1 (la + 1)) (allL rule W H A D T q i) → (∀ k, k < n → m.1 28 k = nI (q k)) → PR E mX2_setAllAnew (xN M) 13 [some (.ref 24), some (.ref s), some (.ref la), some (.int (nI order)), some (.int (nI i))] [] m (fun r m => r = none ∧ pkS la M m ∧ lyC (m.1 (la + 1)) (allL rule W H A D T q n))) n (fun i hi nx => ?_) 0 (Nat.zero_le _)
  intro m hk hl hg
  have hm : xNT ≤ xN m := by rw [hk.m]; exact hM
  have hw : xWire m.2.1 := by rw [hk.w]; exact hW
  have hmN := hk.m
  have hsh1 := shC_k2 hsh (hk.x hla hs)
  have hsT1 := shT_k2 hsT h8 (hk.x hla hs)
  have hrl1 : m.1 la 1 = nI rule := by rw [hk.2 la (by omega) (by omega) (by omega) (by omega) (by omega)]; exact hrl
  refine px_iload dX2_setAllAnew_13 rfl ?_
  refine px_aload_n dX2_setAllAnew_15 rfl rfl ?_
  refine px_getI dX2_setAllAnew_16 fX2_57 hs hm rfl ?_
  refine px_top (y := nI n) hsh1.1 ?_
  refine px_icmp_ge 53 dX2_setAllAnew_19 rfl (fun h19 => ?_) (fun h19 => ?_)
  · have hi2 : i = n := by rw [nI_leI (by omega) (by omega)] at h19; omega
    subst hi2
    exact px_ret dX2_setAllAnew_53 rfl ⟨rfl, hk, hl⟩ (hmN)
  · have hlt : i < n := by rw [nI_leI (by omega) (by omega)] at h19; omega
    have hqi := hq.1 i hlt
    have hTq := hsT1 (q i) hqi
    have hok := allL_ok (rule := rule) (A := A) (D := D) (T := T) hq.1 (fun f hf => (hsT f hf).1) hWH.1 hWH.2 i hi
    refine px_aload_n dX2_setAllAnew_22 rfl rfl ?_
    refine px_getR dX2_setAllAnew_23 fX2_60 hla hm rfl (wr_1_0 hw hla) (Nat.succ_pos _) ?_
    refine px_aload_n dX2_setAllAnew_26 rfl rfl ?_
    refine px_getR dX2_setAllAnew_27 fX2_18 (xol rfl) hm rfl (wr_2_1 hw (xol rfl)) (Nat.succ_pos _) ?_
    refine px_iload dX2_setAllAnew_30 rfl ?_
    refine px_iald dX2_setAllAnew_32 (xal (n := 8) rfl) hm (vp_in_nI (by omega) (by decide)) ?_
    refine px_top (y := nI (q i)) (by rw [nI_clamp (by omega)]; exact hg i hlt) ?_
    refine px_aload_n dX2_setAllAnew_33 rfl rfl ?_
    refine px_aload_n dX2_setAllAnew_34 rfl rfl ?_
    refine px_aload_n dX2_setAllAnew_35 rfl rfl ?_
    refine px_aload_n dX2_setAllAnew_36 rfl rfl ?_
    refine px_getR dX2_setAllAnew_37 fX2_18 (xol rfl) hm rfl (wr_2_1 hw (xol rfl)) (Nat.succ_pos _) ?_
    refine px_iload dX2_setAllAnew_40 rfl ?_
    refine px_iald dX2_setAllAnew_42 (xal (n := 8) rfl) hm (vp_in_nI (by omega) (by decide)) ?_
    refine px_top (y := nI (q i)) (by rw [nI_clamp (by omega)]; exact hg i hlt) ?_
    refine px_gV3 dX2_setAllAnew_43 kX2_setAllAnew_63 (xol rfl) hm (Nat.le_of_ble_eq_true rfl) (c_X2_spotFor (f := q i) (T := T (q i)) (lay := allL rule W H A D T q i) hm hw hs hla hsh1 hl hok hqi hrl1 hru hTq.1 hTq.2) (fun r43 M43 hq43 hn43 => ?_)
    obtain ⟨rfl, q1⟩ := hq43
    have hm : xNT ≤ xN M43 := by rw [hn43]; exact hm
    have hw : xWire M43.2.1 := by rw [q1.w]; exact hw
    refine px_iast dX2_setAllAnew_46 (ar_1 hla) hm (vp_in_nI (by omega) (by decide)) ?_
    refine px_inc_4 dX2_setAllAnew_47 rfl ic_1 ?_
    refine px_goto 13 dX2_setAllAnew_50 rfl ?_
    rw [nI_1 i]
    have hnq : (nI (q i)).toNatClampNeg = q i := nI_clamp (by omega)
    have hk2 : pkS la M (wI M43 (la + 1) (nI (q i)).toNatClampNeg (spC (spG rule W H A D (T (q i)) (q i) (allL rule W H A D T q i)))) := by
      rw [wI_eq]; exact (hk.tr q1.p).tr (pkS.l la M43 _)
    refine nx hlt _ hk2 ?_ (fun k hk => ?_)
    · rw [wI_eq, xI_wF, if_pos rfl, hnq, q1.2 (la + 1) (by omega) (by omega) (by omega)]
      exact upC_sp _ hl
    · rw [wI_eq, xI_wF, if_neg (by omega), q1.2 28 (by omega) (by omega) (by omega)]
      exact hg k hk

set_option maxRecDepth 100000 in
theorem c_X2_setAllAnew {E : xE} {M : xMem} {s la n W H rule order : Nat} {A D T : Nat → Nat} (hM : xNT ≤ xN M) (hW : xWire M.2.1) (hs : xob s 7) (hla : xob la 1) (hsh : shC M s n W H A D) (hsT : shT M s n T) (hrl : M.1 la 1 = nI rule) (hru : rule < 4) (hod : order < 3) : Ct E mX2_setAllAnew [.ref 24, .ref s, .ref la, .int (nI order)] M (xN M) (fun r m => r = none ∧ pkS la M m ∧ lyC (m.1 (la + 1)) (allG rule order n W H A D T)) := by
  have h8 : n ≤ 8 := hsh.2.2.2.1
  have hWH : W ≤ 16 ∧ H ≤ 16 := ⟨hsh.2.2.2.2.1, hsh.2.2.2.2.2.1⟩
  have h7 := xob_7 hs
  have h1 := xob_1 hla
  refine Ct.of (lo := [some (.ref 24), some (.ref s), some (.ref la), some (.int (nI order)), none]) pln_X2 (Nat.le_of_ble_eq_true rfl) rfl (Nat.le_refl _) ?_
  refine px_aload_n dX2_setAllAnew_0 rfl rfl ?_
  refine px_fV0v dX2_setAllAnew_1 kX2_setAllAnew_50 hla hM (Nat.le_of_ble_eq_true rfl) (c_X1_liftAll hM hW hla) ?_
  refine px_aload_n dX2_setAllAnew_4 rfl rfl ?_
  refine px_aload_n dX2_setAllAnew_5 rfl rfl ?_
  refine px_iload_n dX2_setAllAnew_6 rfl rfl ?_
  refine px_gV2 dX2_setAllAnew_7 kX2_setAllAnew_53 (xol rfl) hM (Nat.le_of_ble_eq_true rfl) (c_X2_fillQueue (M := (wF M (la + 1) (fun k => if k < 8 then -9 else M.1 (la + 1) k))) (n := n) (W := W) (H := H) (A := A) (D := D) hM hW hs (shC_k2 hsh ((pkS.l la M _).x hla hs)) hod) (fun r7 M7 hq7 hn7 => ?_)
  obtain ⟨rfl, g, q, rfl, hq, hg⟩ := hq7
  refine px_iconst dX2_setAllAnew_10 ic_0 ?_
  refine px_si_4 dX2_setAllAnew_11 rfl ?_
  refine px_q ?_ (l_X2_setAllAnew hM hW hs hla hsh hsT hrl hru hq _ ((pkS.l la M _).tr (pkS.q la _ g)) ?_ (fun k hk => ?_))
  · rintro r m ⟨e1, e2, e3⟩
    refine ⟨e1, e2, ?_⟩
    unfold allG
    rw [← allL_c (ord_uniq hq (qO_is _ n)) n (Nat.le_refl _)]
    exact e3
  · rw [xI_wF, if_neg (by omega), xI_wF, if_pos rfl]; exact lfC_ly _
  · rw [xI_wF, if_pos rfl]; exact hg k hk

/-- only the reference's row of frames and its scratch differ -/
def mPk (M M1 : xMem) : Prop := M1.2 = M.2 ∧ (∀ a, a ≠ 74 → a ≠ 83 → a ≠ 85 → a ≠ 86 → a ≠ 87 → a ≠ 88 → a ≠ 89 → M1.1 a = M.1 a) ∧ (∀ k, k ≠ 27 → (k < 32 ∨ 35 < k) → M1.1 74 k = M.1 74 k) ∧ M1.1 83 32 = M.1 83 32
theorem mPk.tr {M M1 M2 : xMem} (h : mPk M M1) (h' : mPk M1 M2) : mPk M M2 := ⟨h'.1.trans h.1, fun a a1 a2 a3 a4 a5 a6 a7 => (h'.2.1 a a1 a2 a3 a4 a5 a6 a7).trans (h.2.1 a a1 a2 a3 a4 a5 a6 a7), fun k k1 k2 => (h'.2.2.1 k k1 k2).trans (h.2.2.1 k k1 k2), h'.2.2.2.trans h.2.2.2⟩
theorem mSc2.p {M M1 : xMem} (h : mSc2 M M1) : mPk M M1 := ⟨h.1, fun a a1 _ a3 a4 a5 a6 a7 => h.2.1 a a1 a3 a4 a5 a6 a7, h.2.2, by rw [h.now]⟩
theorem mPk.n (M : xMem) (g : Nat → Int32) (e : g 32 = M.1 83 32) : mPk M (wF M 83 g) := ⟨rfl, fun a _ a2 _ _ _ _ _ => by rw [xI_wF, if_neg a2], fun k _ _ => rfl, by rw [xI_wF, if_pos rfl]; exact e⟩
theorem mPk.m {M m : xMem} (h : mPk M m) : xN m = xN M := by show m.2.2.2 = M.2.2.2; rw [h.1]
theorem mPk.w {M m : xMem} (h : mPk M m) : m.2.1 = M.2.1 := by rw [h.1]
theorem mPk.giv {M m : xMem} (h : mPk M m) : m.1 81 = M.1 81 := h.2.1 81 (by decide) (by decide) (by decide) (by decide) (by decide) (by decide) (by decide)
theorem mPk.sh {M m : xMem} {n W H : Nat} {A D : Nat → Nat} (h : mPk M m) (hs : shM M n W H A D) : shM m n W H A D := shM_keep hs h.giv (fun k k1 k2 => h.2.2.1 k (by omega) (by omega))
theorem uly_id {lay : gLay} {f : Nat} (h : lay f = none) : uly lay f none = lay := by
  funext g
  by_cases e : g = f
  · subst e; rw [uly_s, h]
  · exact uly_o e
theorem b_t1 {x : Int32} {n : Nat} (hn : n < 32) : ((x >>> (nI n &&& 31)) &&& 1) = 1 ↔ bt x n = true := by
  have hb : ∀ i, i < 32 → bt ((x >>> (nI n &&& 31)) &&& 1) i = (bt x n && decide (i = 0)) := by
    intro i hi
    rw [b_and, b_one]
    by_cases e : i = 0
    · subst e; rw [b_sshr n hn x hi, if_pos (by omega), Nat.add_zero]
    · simp [e]
  constructor
  · intro h
    have := hb 0 (by decide)
    rw [h, b_one] at this
    simpa using this.symm
  · intro h
    refine b_ext (fun i hi => ?_)
    rw [hb i hi, h, b_one]
    simp
def dnO (dn : Int32) (q : Nat → Nat) (i : Nat) : Prop := ∀ k, k < 8 → (bt dn k = true ↔ ∃ j, j < i ∧ q j = k)
theorem dnO_s {dn : Int32} {q : Nat → Nat} {i : Nat} (h : dnO dn q i) (hq : q i < 8) : dnO (dn ||| (1 <<< (nI (q i) &&& 31))) q (i + 1) := by
  intro k hk
  rw [b_or, b_shl (q i) (by omega) 1 (by omega), b_one]
  constructor
  · intro z
    simp only [Bool.or_eq_true, Bool.and_eq_true, decide_eq_true_eq] at z
    rcases z with z | ⟨z1, z2⟩
    · obtain ⟨j, hj, e⟩ := (h k hk).mp z
      exact ⟨j, by omega, e⟩
    · exact ⟨i, by omega, by omega⟩
  · rintro ⟨j, hj, e⟩
    simp only [Bool.or_eq_true, Bool.and_eq_true, decide_eq_true_eq]
    by_cases ej : j = i
    · subst ej; exact Or.inr ⟨by omega, by omega⟩
    · exact Or.inl ((h k hk).mpr ⟨j, by omega, e⟩)
def selI (wt : Nat → Nat) (q : Nat → Nat) (i k : Nat) (v : Int32) : Prop := (v = -9 ∧ ∀ k', k' < k → ∃ j, j < i ∧ q j = k') ∨ ∃ g, g < k ∧ v = nI g ∧ (¬ ∃ j, j < i ∧ q j = g) ∧ ∀ k', k' < k → (¬ ∃ j, j < i ∧ q j = k') → k' = g ∨ bef wt g k'
theorem sel_skip {wt q : Nat → Nat} {i k : Nat} {v : Int32} (h : selI wt q i k v) (hd : ∃ j, j < i ∧ q j = k) : selI wt q i (k + 1) v := by
  rcases h with ⟨h1, h2⟩ | ⟨g, h1, h2, h3, h4⟩
  · refine Or.inl ⟨h1, fun k' hk' => ?_⟩
    by_cases e : k' = k
    · rw [e]; exact hd
    · exact h2 k' (by omega)
  · refine Or.inr ⟨g, by omega, h2, h3, fun k' hk' hn => ?_⟩
    by_cases e : k' = k
    · rw [e] at hn; exact absurd hd hn
    · exact h4 k' (by omega) hn
theorem sel_first {wt q : Nat → Nat} {i k : Nat} {v : Int32} (hk : k < 2 ^ 30) (h : selI wt q i k v) (hd : ¬ ∃ j, j < i ∧ q j = k) (hv : v = -9) : selI wt q i (k + 1) (nI k) := by
  rcases h with ⟨h1, h2⟩ | ⟨g, h1, h2, h3, h4⟩
  · refine Or.inr ⟨k, by omega, rfl, hd, fun k' hk' hn => ?_⟩
    by_cases e : k' = k
    · exact Or.inl e
    · exact absurd (h2 k' (by omega)) hn
  · exact absurd (h2 ▸ hv) (nI_ne9 (by omega))
theorem sel_keep {wt q : Nat → Nat} {i k g : Nat} (hg : g < k) (hk : k < 2 ^ 30) (h : selI wt q i k (nI g)) (hw : wt k ≤ wt g) : selI wt q i (k + 1) (nI g) := by
  rcases h with ⟨h1, h2⟩ | ⟨g', h1, h2, h3, h4⟩
  · exact absurd h1 (nI_ne9 (by omega))
  · rw [nI_eq (by omega) (by omega)] at h2
    subst h2
    refine Or.inr ⟨g, by omega, rfl, h3, fun k' hk' hn => ?_⟩
    by_cases e : k' = k
    · rw [e]; exact Or.inr (by unfold bef; omega)
    · exact h4 k' (by omega) hn
theorem sel_new {wt q : Nat → Nat} {i k g : Nat} (hg : g < k) (hk : k < 2 ^ 30) (h : selI wt q i k (nI g)) (hd : ¬ ∃ j, j < i ∧ q j = k) (hw : wt g < wt k) : selI wt q i (k + 1) (nI k) := by
  rcases h with ⟨h1, h2⟩ | ⟨g', h1, h2, h3, h4⟩
  · exact absurd h1 (nI_ne9 (by omega))
  · rw [nI_eq (by omega) (by omega)] at h2
    subst h2
    refine Or.inr ⟨k, by omega, rfl, hd, fun k' hk' hn => ?_⟩
    by_cases e : k' = k
    · exact Or.inl e
    · rcases h4 k' (by omega) hn with z | z
      · rw [z]; exact Or.inr (Or.inl hw)
      · unfold bef at z; exact Or.inr (by unfold bef; omega)
theorem sel_end {wt q : Nat → Nat} {n i : Nat} {v : Int32} (hq : isOrd wt n q) (hi : i < n) (h : selI wt q i n v) : v = nI (q i) := by
  have hnd : ¬ ∃ j, j < i ∧ q j = q i := by
    rintro ⟨j, hj, e⟩
    have := ord_inj hq (by omega) hi e
    omega
  rcases h with ⟨h1, h2⟩ | ⟨g, h1, h2, h3, h4⟩
  · exact absurd (h2 (q i) (hq.1 i hi)) hnd
  · obtain ⟨j, hj, ej⟩ := ord_sur hq h1
    have hij : i ≤ j := by
      apply Classical.byContradiction
      intro z
      exact h3 ⟨j, by omega, ej⟩
    rcases h4 (q i) (hq.1 i hi) hnd with z | z
    · rw [h2, z]
    · by_cases e : i = j
      · rw [h2, ← ej, e]
      · have := hq.2 i j (by omega) hj
        rw [ej] at this
        exact (bef_as z this).elim
theorem sel_g {wt q : Nat → Nat} {i k : Nat} {v : Int32} (h : selI wt q i k v) (hv : ¬ v = -9) : ∃ g, g < k ∧ v = nI g := by
  rcases h with ⟨h1, h2⟩ | ⟨g, h1, h2, h3, h4⟩
  · exact absurd h1 hv
  · exact ⟨g, h1, h2⟩
theorem spP_n {rule W H : Nat} {A D : Nat → Nat} {T f : Nat} {lay : gLay} (hT : T ≤ 2) (hW : W ≤ 16) (hH : H ≤ 16) (h : spP (spG rule W H A D T f lay) = -9) : spG rule W H A D T f lay = none := by
  cases hc : spG rule W H A D T f lay with
  | none => rfl
  | some q => rw [hc] at h; exact absurd h (nI_ne9 (by have := (spG_in (p := q.1) (x := q.2.1) (y := q.2.2.1) (t := q.2.2.2) hT hW hH hc).1; omega))
theorem spP_s {v : Option (Nat × Nat × Nat × Nat)} (h : ¬ spP v = -9) : ∃ p x y t, v = some (p, x, y, t) := by
  cases v with
  | none => exact absurd rfl h
  | some q => exact ⟨q.1, q.2.1, q.2.2.1, q.2.2.2, rfl⟩

set_option maxRecDepth 100000 in
theorem l_sel {E : xE} {ne : Nat} {m : xMem} {n W H i order : Nat} {dn : Int32} {A D q : Nat → Nat} {Q : Option Value → xMem → Prop} (hm : xNT ≤ xN m) (hw : xWire m.2.1) (hs : shM m n W H A D) (hod : order < 3) (hdn : dnO dn q i) (kk : ∀ v, selI (wtG order A D) q i n v → PR E mX11_setsAll ne 80 [some (.ref 74), some (.int (nI order)), some (.int dn), some (.int (nI i)), some (.int v), some (.int (nI n))] [] m Q) : ∀ v, selI (wtG order A D) q i 0 v → PR E mX11_setsAll ne 23 [some (.ref 74), some (.int (nI order)), some (.int dn), some (.int (nI i)), some (.int v), some (.int (nI 0))] [] m Q := by
  have h8 : n ≤ 8 := hs.2.2.2.1
  refine px_for (P := fun k => ∀ v, selI (wtG order A D) q i k v → PR E mX11_setsAll ne 23 [some (.ref 74), some (.int (nI order)), some (.int dn), some (.int (nI i)), some (.int v), some (.int (nI k))] [] m Q) n (fun k hk nx => ?_) 0 (Nat.zero_le _)
  intro v hv
  refine px_iload dX11_setsAll_23 rfl ?_
  refine px_aload_n dX11_setsAll_25 rfl rfl ?_
  refine px_getI dX11_setsAll_26 fX11_179 (xol rfl) hm rfl ?_
  refine px_top (y := nI n) hs.1 ?_
  refine px_icmp_ge 80 dX11_setsAll_29 rfl (fun h29 => ?_) (fun h29 => ?_)
  · have hi2 : k = n := by rw [nI_leI (by omega) (by omega)] at h29; omega
    subst hi2
    exact kk v hv
  · have hlt : k < n := by rw [nI_leI (by omega) (by omega)] at h29; omega
    have hdk := (b_t1 (x := dn) (n := k) (by omega)).trans (hdn k (by omega))
    refine px_iload_n dX11_setsAll_32 rfl rfl ?_
    refine px_iload dX11_setsAll_33 rfl ?_
    refine px_fS2i dX11_setsAll_35 kX11_setsAll_280 (Nat.le_of_ble_eq_true rfl) (c_X11_has) ?_
    refine px_zif_ne 70 dX11_setsAll_38 rfl (fun h38 => ?_) (fun h38 => ?_)
    · refine px_iload dX11_setsAll_70 rfl ?_
      refine px_si_4 dX11_setsAll_72 rfl ?_
      refine px_inc_5 dX11_setsAll_74 rfl ic_1 ?_
      refine px_goto 23 dX11_setsAll_77 rfl ?_
      first
        | (rw [nI_1 k]; exact nx hlt _ (sel_skip hv (hdk.mp h38)))
        | (rw [nI_1 k]; exact nx hlt _ (sel_first (by omega) hv (fun z => h38 (hdk.mpr z)) h45))
        | (rw [nI_1 k]; exact nx hlt _ (sel_keep hg (by omega) hv (by rw [nI_leI (by omega) (by omega)] at h62; exact h62)))
        | (rw [nI_1 k]; exact nx hlt _ (sel_new hg (by omega) hv (fun z => h38 (hdk.mpr z)) (by rw [nI_leI (by omega) (by omega)] at h62; omega)))
    · refine px_iload dX11_setsAll_41 rfl ?_
      refine px_bipush dX11_setsAll_43 bp_m9 ?_
      refine px_icmp_eq 65 dX11_setsAll_45 rfl (fun h45 => ?_) (fun h45 => ?_)
      · refine px_iload dX11_setsAll_65 rfl ?_
        refine px_goto 72 dX11_setsAll_67 rfl ?_
        refine px_si_4 dX11_setsAll_72 rfl ?_
        refine px_inc_5 dX11_setsAll_74 rfl ic_1 ?_
        refine px_goto 23 dX11_setsAll_77 rfl ?_
        first
          | (rw [nI_1 k]; exact nx hlt _ (sel_skip hv (hdk.mp h38)))
          | (rw [nI_1 k]; exact nx hlt _ (sel_first (by omega) hv (fun z => h38 (hdk.mpr z)) h45))
          | (rw [nI_1 k]; exact nx hlt _ (sel_keep hg (by omega) hv (by rw [nI_leI (by omega) (by omega)] at h62; exact h62)))
          | (rw [nI_1 k]; exact nx hlt _ (sel_new hg (by omega) hv (fun z => h38 (hdk.mpr z)) (by rw [nI_leI (by omega) (by omega)] at h62; omega)))
      · obtain ⟨g, hg, rfl⟩ := sel_g hv h45
        have hbk := hs.2.2.2.2.2.2 k hlt
        have hbg := hs.2.2.2.2.2.2 g (by omega)
        have hwk := wtG_le (order := order) hbk.2.2.2.1 hbk.2.2.2.2.2
        have hwg := wtG_le (order := order) hbg.2.2.2.1 hbg.2.2.2.2.2
        refine px_aload_n dX11_setsAll_48 rfl rfl ?_
        refine px_iload dX11_setsAll_49 rfl ?_
        refine px_iload_n dX11_setsAll_51 rfl rfl ?_
        refine px_fV2i dX11_setsAll_52 kX11_setsAll_283 (xol rfl) hm (Nat.le_of_ble_eq_true rfl) (c_X11_weight (f := k) (by omega) hm hw) ?_
        refine px_top (y := nI (wtG order A D k)) (wtM hs hlt hod) ?_
        refine px_aload_n dX11_setsAll_55 rfl rfl ?_
        refine px_iload dX11_setsAll_56 rfl ?_
        refine px_iload_n dX11_setsAll_58 rfl rfl ?_
        refine px_fV2i dX11_setsAll_59 kX11_setsAll_283 (xol rfl) hm (Nat.le_of_ble_eq_true rfl) (c_X11_weight (f := g) (by omega) hm hw) ?_
        refine px_top (y := nI (wtG order A D g)) (wtM hs (by omega) hod) ?_
        refine px_icmp_le 70 dX11_setsAll_62 rfl (fun h62 => ?_) (fun h62 => ?_)
        · refine px_iload dX11_setsAll_70 rfl ?_
          refine px_si_4 dX11_setsAll_72 rfl ?_
          refine px_inc_5 dX11_setsAll_74 rfl ic_1 ?_
          refine px_goto 23 dX11_setsAll_77 rfl ?_
          first
            | (rw [nI_1 k]; exact nx hlt _ (sel_skip hv (hdk.mp h38)))
            | (rw [nI_1 k]; exact nx hlt _ (sel_first (by omega) hv (fun z => h38 (hdk.mpr z)) h45))
            | (rw [nI_1 k]; exact nx hlt _ (sel_keep hg (by omega) hv (by rw [nI_leI (by omega) (by omega)] at h62; exact h62)))
            | (rw [nI_1 k]; exact nx hlt _ (sel_new hg (by omega) hv (fun z => h38 (hdk.mpr z)) (by rw [nI_leI (by omega) (by omega)] at h62; omega)))
        · refine px_iload dX11_setsAll_65 rfl ?_
          refine px_goto 72 dX11_setsAll_67 rfl ?_
          refine px_si_4 dX11_setsAll_72 rfl ?_
          refine px_inc_5 dX11_setsAll_74 rfl ic_1 ?_
          refine px_goto 23 dX11_setsAll_77 rfl ?_
          first
            | (rw [nI_1 k]; exact nx hlt _ (sel_skip hv (hdk.mp h38)))
            | (rw [nI_1 k]; exact nx hlt _ (sel_first (by omega) hv (fun z => h38 (hdk.mpr z)) h45))
            | (rw [nI_1 k]; exact nx hlt _ (sel_keep hg (by omega) hv (by rw [nI_leI (by omega) (by omega)] at h62; exact h62)))
            | (rw [nI_1 k]; exact nx hlt _ (sel_new hg (by omega) hv (fun z => h38 (hdk.mpr z)) (by rw [nI_leI (by omega) (by omega)] at h62; omega)))

set_option maxRecDepth 100000 in
theorem l_X11_setsAll {E : xE} {M : xMem} {n W H rule order : Nat} {A D T : Nat → Nat} (hM : xNT ≤ xN M) (hW : xWire M.2.1) (hs : shM M n W H A D) (hsU : shU M n T) (hrl : M.1 83 32 = nI rule) (hru : rule < 4) (hod : order < 3) {q : Nat → Nat} (hq : isOrd (wtG order A D) n q) : ∀ (m : xMem) (dn : Int32), mPk M m → lyM (m.1 83) (allL rule W H A D T q 0) → dnO dn q 0 → PR E mX11_setsAll (xN M) 8 [some (.ref 74), some (.int (nI order)), some (.int dn), some (.int (nI 0)), none, none] [] m (fun r m => r = none ∧ mPk M m ∧ lyM (m.1 83) (allL rule W H A D T q n)) := by
  have h8 : n ≤ 8 := hs.2.2.2.1
  have hWH : W ≤ 16 ∧ H ≤ 16 := ⟨hs.2.2.2.2.1, hs.2.2.2.2.2.1⟩
  refine px_for (P := fun i => ∀ (m : xMem) (dn : Int32), mPk M m → lyM (m.1 83) (allL rule W H A D T q i) → dnO dn q i → PR E mX11_setsAll (xN M) 8 [some (.ref 74), some (.int (nI order)), some (.int dn), some (.int (nI i)), none, none] [] m (fun r m => r = none ∧ mPk M m ∧ lyM (m.1 83) (allL rule W H A D T q n))) n (fun i hi nx => ?_) 0 (Nat.zero_le _)
  intro m dn hk hl hdn
  have hm : xNT ≤ xN m := by rw [hk.m]; exact hM
  have hw : xWire m.2.1 := by rw [hk.w]; exact hW
  have hmN := hk.m
  have hs1 := hk.sh hs
  have hsU1 := shU_keep hsU hk.giv
  have hrl1 : m.1 83 32 = nI rule := hk.2.2.2.trans hrl
  refine px_iload_n dX11_setsAll_8 rfl rfl ?_
  refine px_aload_n dX11_setsAll_9 rfl rfl ?_
  refine px_getI dX11_setsAll_10 fX11_179 (xol rfl) hm rfl ?_
  refine px_top (y := nI n) hs1.1 ?_
  refine px_icmp_ge 116 dX11_setsAll_13 rfl (fun h13 => ?_) (fun h13 => ?_)
  · have hi2 : i = n := by rw [nI_leI (by omega) (by omega)] at h13; omega
    subst hi2
    exact px_ret dX11_setsAll_116 rfl ⟨rfl, hk, hl⟩ (hmN)
  · have hlt : i < n := by rw [nI_leI (by omega) (by omega)] at h13; omega
    have hqi := hq.1 i hlt
    refine px_bipush dX11_setsAll_16 bp_m9 ?_
    refine px_si_4 dX11_setsAll_18 rfl ?_
    refine px_iconst dX11_setsAll_20 ic_0 ?_
    refine px_si_5 dX11_setsAll_21 rfl ?_
    refine l_sel hm hw hs1 hod hdn (fun v hv => ?_) (-9) (Or.inl ⟨rfl, fun k hk => absurd hk (Nat.not_lt_zero _)⟩)
    have hve := sel_end hq hlt hv
    subst hve
    refine px_iload_n dX11_setsAll_80 rfl rfl ?_
    refine px_iconst dX11_setsAll_81 ic_1 ?_
    refine px_iload dX11_setsAll_82 rfl ?_
    refine px_ishl dX11_setsAll_84 ?_
    refine px_ior dX11_setsAll_85 ?_
    refine px_si_2 dX11_setsAll_86 rfl ?_
    have hTq := hsU1 (q i) hqi
    have hok := allL_ok (rule := rule) (A := A) (D := D) (T := T) hq.1 (fun f hf => (hsU f hf).1) hWH.1 hWH.2 i hi
    refine px_aload_n dX11_setsAll_87 rfl rfl ?_
    refine px_iload dX11_setsAll_88 rfl ?_
    refine px_gV1 dX11_setsAll_90 kX11_setsAll_286 (xol rfl) hm (Nat.le_of_ble_eq_true rfl) (c_X11_findsPage (f := q i) (T := T (q i)) (lay := allL rule W H A D T q i) hm hw hs1 hl hok hqi hrl1 hru hTq.1 hTq.2) (fun r90 M90 hq90 hn90 => ?_)
    obtain ⟨rfl, q1, q2⟩ := hq90
    have hm : xNT ≤ xN M90 := by rw [hn90]; exact hm
    have hw : xWire M90.2.1 := by rw [q1.w]; exact hw
    refine px_si_5 dX11_setsAll_93 rfl ?_
    refine px_iload dX11_setsAll_95 rfl ?_
    refine px_bipush dX11_setsAll_97 bp_m9 ?_
    refine px_icmp_eq 110 dX11_setsAll_99 rfl (fun h99 => ?_) (fun h99 => ?_)
    · refine px_inc_3 dX11_setsAll_110 rfl ic_1 ?_
      refine px_goto 8 dX11_setsAll_113 rfl ?_
      first
        | (rw [nI_1 i]; refine px_forget (by repeat' constructor) (nx hlt M90 _ (hk.tr q1.p) ?_ (dnO_s hdn (by omega))); have e := spP_n hTq.1 hWH.1 hWH.2 h99; rw [allL, setG, e, uly_id (allL_no i (fun j hj ej => by have := ord_inj hq (by omega) hlt ej; omega)), q1.now]; exact hl)
        | (rw [nI_1 i]; refine px_forget (by repeat' constructor) (nx hlt _ _ ((hk.tr q1.p).tr (mPk.n M90 _ (upR_32 (by omega)))) ?_ (dnO_s hdn (by omega))); rw [xI_wF, if_pos rfl, allL, setG, hsp, q1.now]; exact upR_so hl)
    · obtain ⟨p, x, y, t, hsp⟩ := spP_s h99
      obtain ⟨kb, hkb, e32, e33, e86, e87⟩ := q2 p x y t hsp
      refine px_aload_n dX11_setsAll_102 rfl rfl ?_
      refine px_iload dX11_setsAll_103 rfl ?_
      refine px_iload dX11_setsAll_105 rfl ?_
      refine px_top (y := nI p) (by rw [hsp]; rfl) ?_
      refine px_fV2v dX11_setsAll_107 kX11_setsAll_289 (xol rfl) hm (Nat.le_of_ble_eq_true rfl) (c_X11_sets (M := M90) (f := q i) (k := kb) (vx := nI x) (vy := nI y) (vt := nI t) (by omega) hkb e32 e33 e86 e87 hm hw) ?_
      refine px_inc_3 dX11_setsAll_110 rfl ic_1 ?_
      refine px_goto 8 dX11_setsAll_113 rfl ?_
      first
        | (rw [nI_1 i]; refine px_forget (by repeat' constructor) (nx hlt M90 _ (hk.tr q1.p) ?_ (dnO_s hdn (by omega))); have e := spP_n hTq.1 hWH.1 hWH.2 h99; rw [allL, setG, e, uly_id (allL_no i (fun j hj ej => by have := ord_inj hq (by omega) hlt ej; omega)), q1.now]; exact hl)
        | (rw [nI_1 i]; refine px_forget (by repeat' constructor) (nx hlt _ _ ((hk.tr q1.p).tr (mPk.n M90 _ (upR_32 (by omega)))) ?_ (dnO_s hdn (by omega))); rw [xI_wF, if_pos rfl, allL, setG, hsp, q1.now]; exact upR_so hl)

set_option maxRecDepth 100000 in
theorem c_X11_setsAll {E : xE} {M : xMem} {n W H rule order : Nat} {A D T : Nat → Nat} (hM : xNT ≤ xN M) (hW : xWire M.2.1) (hs : shM M n W H A D) (hsU : shU M n T) (hrl : M.1 83 32 = nI rule) (hru : rule < 4) (hod : order < 3) : Ct E mX11_setsAll [.ref 74, .int (nI order)] M (xN M) (fun r m => r = none ∧ mPk M m ∧ lyM (m.1 83) (allG rule order n W H A D T)) := by
  refine Ct.of (lo := [some (.ref 74), some (.int (nI order)), none, none, none, none]) pln_X11 (Nat.le_of_ble_eq_true rfl) rfl (Nat.le_refl _) ?_
  refine px_aload_n dX11_setsAll_0 rfl rfl ?_
  refine px_fV0v dX11_setsAll_1 kX11_setsAll_182 (xol rfl) hM (Nat.le_of_ble_eq_true rfl) (c_X11_liftsAll hM hW) ?_
  refine px_iconst dX11_setsAll_4 ic_0 ?_
  refine px_si_2 dX11_setsAll_5 rfl ?_
  refine px_iconst dX11_setsAll_6 ic_0 ?_
  refine px_si_3 dX11_setsAll_7 rfl ?_
  exact l_X11_setsAll hM hW hs hsU hrl hru hod (qO_is _ n) _ 0 (mPk.n M _ (lfF_32 _)) (lfF_ly _) (fun k hk => ⟨fun z => (by rw [b_0] at z; cases z), fun ⟨j, hj, _⟩ => absurd hj (Nat.not_lt_zero _)⟩)
