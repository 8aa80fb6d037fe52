/-! ===== deeds ===== -/
def cD (M m : xMem) : Prop := m.2 = M.2 ∧ ∀ a, (a < 6 ∨ 9 < a) → (a < 25 ∨ 30 < a) → m.1 a = M.1 a
def rD (M m : xMem) : Prop := m.2 = M.2 ∧ (∀ a, a ≠ 74 → a ≠ 83 → (a < 85 ∨ 90 < a) → m.1 a = M.1 a) ∧ ∀ k, k ≠ 27 → k ≠ 36 → (k < 32 ∨ 35 < k) → m.1 74 k = M.1 74 k
theorem cD.rf (M : xMem) : cD M M := ⟨rfl, fun _ _ _ => rfl⟩
theorem rD.rf (M : xMem) : rD M M := ⟨rfl, fun _ _ _ _ => rfl, fun _ _ _ _ => rfl⟩
theorem cD.tr {M M1 M2 : xMem} (h : cD M M1) (h' : cD M1 M2) : cD M M2 := ⟨h'.1.trans h.1, fun a a1 a2 => (h'.2 a a1 a2).trans (h.2 a a1 a2)⟩
theorem rD.tr {M M1 M2 : xMem} (h : rD M M1) (h' : rD M1 M2) : rD M M2 := ⟨h'.1.trans h.1, fun a a1 a2 a3 => (h'.2.1 a a1 a2 a3).trans (h.2.1 a a1 a2 a3), fun k k1 k2 k3 => (h'.2.2 k k1 k2 k3).trans (h.2.2 k k1 k2 k3)⟩
theorem rmS.d {M m : xMem} (h : rmS M m) : cD M m := ⟨h.1, fun a _ a2 => h.2 a (by omega) (by omega) (by omega)⟩
theorem mSc2.d {M m : xMem} (h : mSc2 M m) : rD M m := ⟨h.1, fun a a1 _ a3 => h.2.1 a a1 (by omega) (by omega) (by omega) (by omega) (by omega), fun k k1 _ k3 => h.2.2 k k1 k3⟩
theorem mPk.d {M m : xMem} (h : mPk M m) : rD M m := ⟨h.1, fun a a1 a2 a3 => h.2.1 a a1 a2 (by omega) (by omega) (by omega) (by omega) (by omega), fun k k1 _ k3 => h.2.2.1 k k1 k3⟩
theorem pkS.d {M m : xMem} (h : pkS 7 M m) : cD M m := ⟨h.1, fun a a1 a2 => h.2 a (by omega) (by omega) (by omega) (by omega) (by omega)⟩
theorem cD.m {M m : xMem} (h : cD M m) : xN m = xN M := by show m.2.2.2 = M.2.2.2; rw [h.1]
theorem cD.w {M m : xMem} (h : cD M m) : m.2.1 = M.2.1 := by rw [h.1]
theorem rD.m {M m : xMem} (h : rD M m) : xN m = xN M := by show m.2.2.2 = M.2.2.2; rw [h.1]
theorem rD.w {M m : xMem} (h : rD M m) : m.2.1 = M.2.1 := by rw [h.1]
theorem cD.wI {M : xMem} {a j : Nat} {v : Int32} (ha : 6 ≤ a ∧ a ≤ 9) : cD M (wI M a j v) := ⟨rfl, fun b b1 _ => by funext k; rw [xI_wI, if_neg (fun z => by omega)]⟩
theorem cD.wF {M : xMem} {a : Nat} {v : Nat → Int32} (ha : 6 ≤ a ∧ a ≤ 9) : cD M (wF M a v) := ⟨rfl, fun b b1 _ => by rw [xI_wF, if_neg (by omega)]⟩
theorem rD.wF {M : xMem} {a : Nat} {v : Nat → Int32} (ha : a = 83 ∨ a = 90) : rD M (wF M a v) := ⟨rfl, fun b b1 b2 b3 => by rw [xI_wF, if_neg (by omega)], fun k _ _ _ => by rw [xI_wF, if_neg (by omega)]⟩
theorem rD.wI {M : xMem} {a j : Nat} {v : Int32} (ha : a = 83 ∨ a = 90) : rD M (wI M a j v) := ⟨rfl, fun b b1 b2 b3 => by funext k; rw [xI_wI, if_neg (fun z => by omega)], fun k _ _ _ => by rw [xI_wI, if_neg (fun z => by omega)]⟩
theorem rDw36 {M : xMem} {v : Int32} : rD M (wI M 74 36 v) := ⟨rfl, fun b b1 b2 b3 => by funext k; rw [xI_wI, if_neg (fun z => b1 z.1)], fun k _ k2 _ => by rw [xI_wI, if_neg (fun z => k2 z.2)]⟩
theorem rD.cp {M : xMem} {a p n : Nat} {f : Nat → Int32} (ha : a = 83 ∨ a = 90) : rD M (mcpM M a p f n) := rD.wF ha
theorem cD.beg (M : xMem) (dd : Nat) : cD M (stBeg M 6 dd) := (cD.wF (by omega)).tr ((cD.wI (by omega)).tr (cD.wI (by omega)))
theorem rDrem (M : xMem) (dd : Nat) : rD M (wI (mcpM M 90 (33 * dd) (M.1 83) 33) 74 36 (nI (dd + 1))) := (rD.cp (a := 90) (by omega)).tr rDw36
theorem cSh_k {M m : xMem} {s n W H B : Nat} {g : Nat → Nat → Nat} (h : cSh M s n W H B g) (e : ∀ a, shX s a → m.1 a = M.1 a) (h8 : n ≤ 8) : cSh m s n W H B g := by
  refine ⟨?_, ?_, ?_, ?_, fun f hf j hj => ?_⟩
  · rw [e s (Or.inl rfl)]; exact h.1
  · rw [e s (Or.inl rfl)]; exact h.2.1
  · rw [e s (Or.inl rfl)]; exact h.2.2.1
  · rw [e s (Or.inl rfl)]; exact h.2.2.2.1
  · rw [e (fA s f) (Or.inr ⟨by show s + 2 ≤ s + 1 + 1 + f; omega, by show s + 1 + 1 + f ≤ s + 9; omega⟩)]; exact h.2.2.2.2 f hf j hj
theorem mSh_k {M m : xMem} {n W H B : Nat} {g : Nat → Nat → Nat} (h : mSh M n W H B g) (e1 : m.1 81 = M.1 81) (e : ∀ k, 8 ≤ k → k ≤ 11 → m.1 74 k = M.1 74 k) : mSh m n W H B g := by
  refine ⟨?_, ?_, ?_, ?_, fun f hf j hj => ?_⟩
  · rw [e 11 (by omega) (by omega)]; exact h.1
  · rw [e 8 (by omega) (by omega)]; exact h.2.1
  · rw [e 9 (by omega) (by omega)]; exact h.2.2.1
  · rw [e 10 (by omega) (by omega)]; exact h.2.2.2.1
  · rw [e1]; exact h.2.2.2.2 f hf j hj
theorem cD.sh {M m : xMem} {s n W H B : Nat} {g : Nat → Nat → Nat} (hs : xob s 7) (h : cD M m) (h0 : cSh M s n W H B g) (h8 : n ≤ 8) : cSh m s n W H B g := cSh_k h0 (fun a ha => h.2 a (by have := xob_7 hs; unfold shX at ha; omega) (by have := xob_7 hs; unfold shX at ha; omega)) h8
theorem rD.sh {M m : xMem} {n W H B : Nat} {g : Nat → Nat → Nat} (h : rD M m) (h0 : mSh M n W H B g) : mSh m n W H B g := mSh_k h0 (h.2.1 81 (by decide) (by decide) (by decide)) (fun k k1 k2 => h.2.2 k (by omega) (by omega) (by omega))
theorem stC_k {M m : xMem} {a dd : Nat} {S : gLay × Nat} {P : Nat → gLay × Nat} (h : stC M a dd S P) (e : ∀ b, a ≤ b → b ≤ a + 3 → m.1 b = M.1 b) : stC m a dd S P := by
  unfold stC at *
  rw [e a (by omega) (by omega), e (a + 1) (by omega) (by omega), e (a + 2) (by omega) (by omega), e (a + 3) (by omega) (by omega)]
  exact h
theorem stC_ly {M m : xMem} {a dd r : Nat} {S : gLay × Nat} {P : Nat → gLay × Nat} {lay : gLay} (h : stC M a dd S P) (e0 : m.1 a = M.1 a) (e3 : m.1 (a + 3) = M.1 (a + 3)) (hl : lyC (m.1 (a + 2)) lay) (hr : m.1 (a + 1) 1 = nI r) : stC m a dd (lay, r) P := ⟨by rw [e0]; exact h.1, h.2.1, hl, hr, fun i hi => by rw [e3]; exact h.2.2.2.2 i hi⟩
theorem stM_k {M m : xMem} {dd : Nat} {S : gLay × Nat} {P : Nat → gLay × Nat} (h : stM M dd S P) (e1 : m.1 74 36 = M.1 74 36) (e2 : m.1 83 = M.1 83) (e3 : m.1 90 = M.1 90) : stM m dd S P := by
  unfold stM at *
  rw [e1, e2, e3]; exact h
theorem rRow_0 {g : Nat → Int32} {S : gLay × Nat} : rRow g 0 S ↔ lyM g S.1 ∧ g 32 = nI S.2 := by
  unfold rRow
  simp only [Nat.zero_add]
theorem stM_ly {M m : xMem} {dd r : Nat} {S : gLay × Nat} {P : Nat → gLay × Nat} {lay : gLay} (h : stM M dd S P) (e1 : m.1 74 36 = M.1 74 36) (e3 : m.1 90 = M.1 90) (hl : lyM (m.1 83) lay) (hr : m.1 83 32 = nI r) : stM m dd (lay, r) P := ⟨by rw [e1]; exact h.1, h.2.1, rRow_0.mpr ⟨hl, hr⟩, fun i hi => by rw [e3]; exact h.2.2.2 i hi⟩
theorem psh_s (P : Nat → gLay × Nat) (dd : Nat) (S : gLay × Nat) : psh P dd S dd = S := if_pos rfl
theorem psh_o {P : Nat → gLay × Nat} {dd i : Nat} {S : gLay × Nat} (h : i ≠ dd) : psh P dd S i = P i := if_neg h
theorem stBeg_st {M : xMem} {a dd : Nat} {S : gLay × Nat} {P : Nat → gLay × Nat} (h : stC M a dd S P) (hlt : dd < 40) : stC (stBeg M a dd) a (dd + 1) S (psh P dd S) := by
  refine ⟨wI_self _ _ _ _, by omega, ?_, ?_, fun i hi => ?_⟩
  · rw [show (stBeg M a dd).1 (a + 2) = M.1 (a + 2) from by funext k; rw [xI_wI, if_neg (fun z => by omega), xI_wI, if_neg (fun z => by omega), xI_wF, if_neg (by omega)]]
    exact h.2.2.1
  · rw [xI_wI, if_neg (fun z => by omega), xI_wI, if_neg (fun z => by omega), xI_wF, if_neg (by omega)]
    exact h.2.2.2.1
  · have e3 : ∀ k, (stBeg M a dd).1 (a + 3) k = if k = dd * 9 + 8 then M.1 (a + 1) 1 else va_cpy (M.1 (a + 1 + 1)) (M.1 (a + 3)) 0 (dd * 9) 8 k := by
      intro k
      rw [xI_wI, if_neg (fun z => by omega), xI_wI, xI_wF, if_pos rfl]
      by_cases e : k = dd * 9 + 8
      · rw [if_pos ⟨rfl, e⟩, if_pos e]
      · rw [if_neg (fun z => e z.2), if_neg e]
    by_cases e : i = dd
    · subst e
      rw [psh_s]
      refine ⟨lyC_c h.2.2.1 (fun k hk => ?_), ?_⟩
      · rw [e3, if_neg (by omega), pk_cpy_in (by omega) (by omega)]
        exact congrArg _ (by omega)
      · rw [e3, if_pos rfl]; exact h.2.2.2.1
    · rw [psh_o e]
      refine cRow_c (h.2.2.2.2 i (by omega)) (fun k hk => ?_)
      rw [e3, if_neg (by omega), pk_cpy_out (by omega)]
theorem stM_rem {M : xMem} {dd : Nat} {S : gLay × Nat} {P : Nat → gLay × Nat} (h : stM M dd S P) (hlt : dd < 40) : stM (wI (mcpM M 90 (33 * dd) (M.1 83) 33) 74 36 (nI (dd + 1))) (dd + 1) S (psh P dd S) := by
  have e83 : (wI (mcpM M 90 (33 * dd) (M.1 83) 33) 74 36 (nI (dd + 1))).1 83 = M.1 83 := by funext k; rw [xI_wI, if_neg (fun z => by omega), mcp_at _ _ _ _ _ (by decide)]
  have e90 : ∀ k, (wI (mcpM M 90 (33 * dd) (M.1 83) 33) 74 36 (nI (dd + 1))).1 90 k = if 33 * dd ≤ k ∧ k < 33 * dd + 33 then M.1 83 (k - 33 * dd) else M.1 90 k := by
    intro k; rw [xI_wI, if_neg (fun z => by omega)]; rfl
  refine ⟨wI_self _ _ _ _, by omega, by rw [e83]; exact h.2.2.1, fun i hi => ?_⟩
  by_cases e : i = dd
  · subst e
    rw [psh_s]
    refine rRow_c h.2.2.1 (fun k hk => ?_)
    rw [e90, if_pos (by omega)]
    exact congrArg _ (by omega)
  · rw [psh_o e]
    refine rRow_c (h.2.2.2 i (by omega)) (fun k hk => ?_)
    rw [e90, if_neg (by omega)]
theorem cD_rem {M m : xMem} (h : rD M m) : m.1 81 = M.1 81 := h.2.1 81 (by decide) (by decide) (by decide)
abbrev aDeed : Type := Int32 × Nat × (gLay × Nat) × (Nat → gLay × Nat)
noncomputable def dSt (n W H : Nat) (A D T : Nat → Nat) (dd : Nat) (S : gLay × Nat) (P : Nat → gLay × Nat) (f : Nat) : Option (Nat × Nat × Nat × Nat) → aDeed
  | none => (-6, dd, S, P)
  | some q => if dd = 40 then (-2, dd, S, P) else (nI q.1, dd + 1, (uly S.1 f (some q), S.2), psh P dd S)
noncomputable def aSet (n W H : Nat) (A D T : Nat → Nat) (dd : Nat) (S : gLay × Nat) (P : Nat → gLay × Nat) (v : Int32) : aDeed := if ¬ (0 ≤ v ∧ v < nI n) then (-1, dd, S, P) else if ¬ S.1 v.toNatClampNeg = none then (-4, dd, S, P) else dSt n W H A D T dd S P v.toNatClampNeg (spG S.2 W H A D (T v.toNatClampNeg) v.toNatClampNeg S.1)
def aLft (n : Nat) (dd : Nat) (S : gLay × Nat) (P : Nat → gLay × Nat) (v : Int32) : aDeed := if ¬ (0 ≤ v ∧ v < nI n) then (-1, dd, S, P) else if S.1 v.toNatClampNeg = none then (-4, dd, S, P) else if dd = 40 then (-2, dd, S, P) else (nI (pgL (uly S.1 v.toNatClampNeg none) 8), dd + 1, (uly S.1 v.toNatClampNeg none, S.2), psh P dd S)
noncomputable def aAll (n W H : Nat) (A D T : Nat → Nat) (dd : Nat) (S : gLay × Nat) (P : Nat → gLay × Nat) (v : Int32) : aDeed := if ¬ (0 ≤ v ∧ v < 3) then (-1, dd, S, P) else if n = 0 then (-1, dd, S, P) else if dd = 40 then (-2, dd, S, P) else (nI (pgL (allG S.2 v.toNatClampNeg n W H A D T) 8), dd + 1, (allG S.2 v.toNatClampNeg n W H A D T, S.2), psh P dd S)
def aRul (n : Nat) (dd : Nat) (S : gLay × Nat) (P : Nat → gLay × Nat) (v : Int32) : aDeed := if ¬ (0 ≤ v ∧ v < 4) then (-1, dd, S, P) else if n = 0 then (-4, dd, S, P) else if nI S.2 = v then (-4, dd, S, P) else if dd = 40 then (-2, dd, S, P) else (nI S.2, dd + 1, (S.1, v.toNatClampNeg), psh P dd S)
theorem full_c {dd : Nat} (h : dd ≤ 40) : zb ((40 : Int32) ≤ nI dd) = zb (dd = 40) := zb_c (by rw [show (40 : Int32) = nI 40 from rfl, nI_leI (by omega) (by omega)]; omega)
theorem no_c {n : Nat} (h : n ≤ 8) : zb (nI n = 0) = zb (n = 0) := zb_c (nI_lit (show (0 : Int32) = nI 0 from rfl) (by omega) (by decide))
theorem n0_i {n : Nat} (h : n ≤ 8) : nI n = 0 ↔ n = 0 := nI_lit (show (0 : Int32) = nI 0 from rfl) (by omega) (by decide)
theorem d40_i {n : Nat} (h : n ≤ 40) : nI n = 40 ↔ n = 40 := nI_lit (show (40 : Int32) = nI 40 from rfl) (by omega) (by decide)

set_option maxRecDepth 100000 in
theorem c_X10_set {E : xE} {M : xMem} {s n W H B dd : Nat} {g : Nat → Nat → Nat} {S : gLay × Nat} {P : Nat → gLay × Nat} (hc : cHy M s n W H B g dd S P) {v : Int32} : Ct E mX10_set [.ref 1, .int v] M (xN M) (fun r m => r = some (.int (aSet n W H (aA B g) (aD B g) (aT g) dd S P v).1) ∧ cD M m ∧ stC m 6 (aSet n W H (aA B g) (aD B g) (aT g) dd S P v).2.1 (aSet n W H (aA B g) (aD B g) (aT g) dd S P v).2.2.1 (aSet n W H (aA B g) (aD B g) (aT g) dd S P v).2.2.2) := by
  have hc0 := hc
  obtain ⟨hM, hW, hs, hcu, hsh, hok, hst, hly, hru⟩ := hc
  have hp0 : 0 < s := hs.1
  have h8 : n ≤ 8 := hok.1
  have hb : lyB S.1 := (hsh.s hok).b hly
  have hl : lyC (M.1 8) S.1 := hst.2.2.1
  have hpg := pgL_le hb 8
  have hd4 : dd ≤ 40 := hst.2.1
  have hsC := hsh.s hok
  have hsT := hsh.t hok
  have h7 := xob_7 hs
  refine Ct.of (lo := [some (.ref 1), some (.int v), none]) pln_X10 (Nat.le_of_ble_eq_true rfl) rfl (Nat.le_refl _) ?_
  refine px_iload_n dX10_set_0 rfl rfl ?_
  refine px_aload_n dX10_set_1 rfl rfl ?_
  refine px_getR dX10_set_2 fX10_71 (xol rfl) hM rfl (by assumption) (by assumption) ?_
  refine px_getI dX10_set_5 fX10_140 hs hM rfl ?_
  refine px_top (y := nI n) hsh.1 ?_
  refine px_fS2i dX10_set_8 kX10_set_84 (Nat.le_of_ble_eq_true rfl) (c_X10_isBelow) ?_
  refine px_zif_ne 16 dX10_set_11 rfl (fun h11 => ?_) (fun h11 => ?_)
  · obtain ⟨f, hf, rfl⟩ := in_nat (by omega) h11
    have hnf : (nI f).toNatClampNeg = f := nI_clamp (by omega)
    have hfi : vp_in (nI f) 8 := vp_in_nI (by omega) (by decide)
    refine px_aload_n dX10_set_16 rfl rfl ?_
    refine px_getR dX10_set_17 fX10_32 (xol rfl) hM rfl (wr_10_4 hW (xol rfl)) (Nat.succ_pos _) ?_
    refine px_getR dX10_set_20 fX10_163 (xol rfl) hM rfl (wr_8_0 hW (xol rfl)) (Nat.succ_pos _) ?_
    refine px_iload_n dX10_set_23 rfl rfl ?_
    refine px_fV1i dX10_set_24 kX10_set_166 (xol rfl) hM (Nat.le_of_ble_eq_true rfl) (c_X1_isSet (a := 7) (xol rfl) hM hW hfi) ?_
    refine px_top (y := zb (¬ S.1 f = none)) (lyC_is hl hb (by omega)) ?_
    refine px_zif_eq 33 dX10_set_27 rfl (fun h27 => ?_) (fun h27 => ?_)
    · refine px_aload_n dX10_set_33 rfl rfl ?_
      refine px_getR dX10_set_34 fX10_53 (xol rfl) hM rfl (wr_10_7 hW (xol rfl)) (Nat.succ_pos _) ?_
      refine px_aload_n dX10_set_37 rfl rfl ?_
      refine px_getR dX10_set_38 fX10_71 (xol rfl) hM rfl (by assumption) (by assumption) ?_
      refine px_aload_n dX10_set_41 rfl rfl ?_
      refine px_getR dX10_set_42 fX10_32 (xol rfl) hM rfl (wr_10_4 hW (xol rfl)) (Nat.succ_pos _) ?_
      refine px_getR dX10_set_45 fX10_163 (xol rfl) hM rfl (wr_8_0 hW (xol rfl)) (Nat.succ_pos _) ?_
      refine px_iload_n dX10_set_48 rfl rfl ?_
      refine px_gV3 dX10_set_49 kX10_set_194 (xol rfl) hM (Nat.le_of_ble_eq_true rfl) (c_X2_spotFor (la := 7) (T := aT g f) hM hW hs (xol rfl) hsC hl hly hf hst.2.2.2.1 hru (hsT f hf).1 (hsT f hf).2) (fun r49 M49 hq49 hn49 => ?_)
      obtain ⟨rfl, q1⟩ := hq49
      have hm : xNT ≤ xN M49 := by rw [hn49]; exact hM
      have hw : xWire M49.2.1 := by rw [q1.w]; exact hW
      have eS : aSet n W H (aA B g) (aD B g) (aT g) dd S P (nI f) = dSt n W H (aA B g) (aD B g) (aT g) dd S P f (spG S.2 W H (aA B g) (aD B g) (aT g f) f S.1) := by
        unfold aSet; rw [if_neg (fun z => z h11), hnf, if_neg h27]
      have hst1 : stC M49 6 dd S P := stC_k hst (fun b b1 b2 => q1.2 b (by omega) (by omega) (by omega))
      refine px_si_2 dX10_set_52 rfl ?_
      refine px_iload_n dX10_set_53 rfl rfl ?_
      refine px_bipush dX10_set_54 bp_m9 ?_
      refine px_icmp_ne 62 dX10_set_56 rfl (fun h56 => ?_) (fun h56 => ?_)
      · obtain ⟨q, eN⟩ : ∃ q, spG S.2 W H (aA B g) (aD B g) (aT g f) f S.1 = some q := by
          cases hz : spG S.2 W H (aA B g) (aD B g) (aT g f) f S.1 with
          | none => rw [hz] at h56; exact absurd rfl h56
          | some q => exact ⟨q, rfl⟩
        rw [eN] at eS
        refine px_aload_n dX10_set_62 rfl rfl ?_
        refine px_getR dX10_set_63 fX10_32 (xol rfl) hm rfl (wr_10_4 hw (xol rfl)) (Nat.succ_pos _) ?_
        refine px_fV0i dX10_set_66 kX10_set_198 (xol rfl) hm (Nat.le_of_ble_eq_true rfl) (c_X8_isFull (a := 6) (xol rfl) hm) ?_
        refine px_top (y := zb (dd = 40)) (by rw [hst1.1]; exact full_c hd4) ?_
        refine px_zif_eq 75 dX10_set_69 rfl (fun h69 => ?_) (fun h69 => ?_)
        · have hlt : dd < 40 := by omega
          have hst2 := stBeg_st hst1 hlt
          have hq := spG_in (p := q.1) (x := q.2.1) (y := q.2.2.1) (t := q.2.2.2) (hsT f hf).1 hok.2.1 hok.2.2.1 eN
          have hG := gNC_le hsC (t := q.2.2.2) hf
          have hW16 := hok.2.1
          have hH16 := hok.2.2.1
          refine px_aload_n dX10_set_75 rfl rfl ?_
          refine px_getR dX10_set_76 fX10_32 (xol rfl) hm rfl (wr_10_4 hw (xol rfl)) (Nat.succ_pos _) ?_
          refine px_fV0v dX10_set_79 kX10_set_201 (xol rfl) hm (Nat.le_of_ble_eq_true rfl) (c_X8_beginDeed (a := 6) (dd := dd) (xol rfl) hm hw hst1.1 hlt) ?_
          refine px_aload_n dX10_set_82 rfl rfl ?_
          refine px_getR dX10_set_83 fX10_32 (xol rfl) hm rfl (wr_10_4 hw (xol rfl)) (Nat.succ_pos _) ?_
          refine px_getR dX10_set_86 fX10_163 (xol rfl) hm rfl (wr_8_0 hw (xol rfl)) (Nat.succ_pos _) ?_
          refine px_getR dX10_set_89 fX10_204 (xol rfl) hm rfl (wr_1_0 hw (xol rfl)) (Nat.succ_pos _) ?_
          refine px_iload_n dX10_set_92 rfl rfl ?_
          refine px_iload_n dX10_set_93 rfl rfl ?_
          refine px_iast dX10_set_94 (ar_1 (xol rfl)) hm hfi ?_
          refine px_aload_n dX10_set_95 rfl rfl ?_
          refine px_getR dX10_set_96 fX10_32 (xol rfl) hm rfl (wr_10_4 hw (xol rfl)) (Nat.succ_pos _) ?_
          refine px_getR dX10_set_99 fX10_163 (xol rfl) hm rfl (wr_8_0 hw (xol rfl)) (Nat.succ_pos _) ?_
          refine px_iload_n dX10_set_102 rfl rfl ?_
          refine px_fV1i dX10_set_103 kX10_set_207 (xol rfl) hm (Nat.le_of_ble_eq_true rfl) (c_X1_pageOf (a := 7) (xol rfl) hm hw hfi) ?_
          refine px_top (y := nI q.1) (by rw [hnf, xI_wI, if_pos ⟨rfl, rfl⟩, eN]; exact (sp_dec (by omega) (by omega) (by omega) hq.2.1).1) ?_
          exact px_iret dX10_set_106 rfl (by rw [eS, dSt, if_neg h69]; refine ⟨rfl, (q1.d.tr (cD.beg M49 dd)).tr (cD.wI (by omega)), stC_ly hst2 (by funext k; rw [xI_wI, if_neg (fun z => by omega)]) (by funext k; rw [xI_wI, if_neg (fun z => by omega)]) ?_ (by rw [xI_wI, if_neg (fun z => by omega)]; exact hst2.2.2.2.1)⟩; refine lyC_c (upC_sp (f := f) (some q) hst2.2.2.1) (fun k hk => ?_); rw [xI_wI, hnf, eN]; by_cases z : k = f; (rw [if_pos ⟨rfl, z⟩, if_pos z]); (rw [if_neg (fun y => z y.2), if_neg z])) (by first | rfl | exact hn49)
        · refine px_bipush dX10_set_72 bp_m2 ?_
          exact px_iret dX10_set_74 rfl (by rw [eS, dSt, if_pos h69]; exact ⟨rfl, q1.d, hst1⟩) (by first | rfl | exact hn49)
      · have eN : spG S.2 W H (aA B g) (aD B g) (aT g f) f S.1 = none := by
          cases hz : spG S.2 W H (aA B g) (aD B g) (aT g f) f S.1 with
          | none => rfl
          | some q => rw [hz] at h56; exact absurd h56 (nI_ne9 (by have := spG_in (p := q.1) (x := q.2.1) (y := q.2.2.1) (t := q.2.2.2) (hsT f hf).1 hok.2.1 hok.2.2.1 hz; have := hok.2.1; have := hok.2.2.1; omega))
        refine px_bipush dX10_set_59 bp_m6 ?_
        exact px_iret dX10_set_61 rfl (by rw [eS, eN, dSt]; exact ⟨rfl, q1.d, hst1⟩) (by first | rfl | exact hn49)
    · refine px_bipush dX10_set_30 bp_m4 ?_
      exact px_iret dX10_set_32 rfl (by rw [show aSet n W H (aA B g) (aD B g) (aT g) dd S P (nI f) = (-4, dd, S, P) from by unfold aSet; rw [if_neg (fun z => z h11), hnf, if_pos h27]]; exact ⟨rfl, cD.rf M, hst⟩) (by first | rfl | exact hn49)
  · refine px_iconst dX10_set_14 ic_m1 ?_
    exact px_iret dX10_set_15 rfl (by rw [show aSet n W H (aA B g) (aD B g) (aT g) dd S P v = (-1, dd, S, P) from if_pos h11]; exact ⟨rfl, cD.rf M, hst⟩) (by first | rfl | exact hn49)

set_option maxRecDepth 100000 in
theorem c_X11_set {E : xE} {M : xMem} {n W H B dd : Nat} {g : Nat → Nat → Nat} {S : gLay × Nat} {P : Nat → gLay × Nat} (hc : rHy M n W H B g dd S P) {v : Int32} : Ct E mX11_set [.ref 74, .int v] M (xN M) (fun r m => r = some (.int (aSet n W H (aA B g) (aD B g) (aT g) dd S P v).1) ∧ rD M m ∧ stM m (aSet n W H (aA B g) (aD B g) (aT g) dd S P v).2.1 (aSet n W H (aA B g) (aD B g) (aT g) dd S P v).2.2.1 (aSet n W H (aA B g) (aD B g) (aT g) dd S P v).2.2.2) := by
  have hc0 := hc
  obtain ⟨hM, hW, hsh, hok, hst, hly, hru⟩ := hc
  have h8 : n ≤ 8 := hok.1
  have hb : lyB S.1 := (hsh.s hok).b hly
  have hl : lyM (M.1 83) S.1 := lyM_c hst.2.2.1.1 (fun k _ => by rw [Nat.zero_add])
  have hpg := pgL_le hb 8
  have hd4 : dd ≤ 40 := hst.2.1
  have hsM := hsh.s hok
  have hsU := hsh.u hok
  refine Ct.of (lo := [some (.ref 74), some (.int v), none]) pln_X11 (Nat.le_of_ble_eq_true rfl) rfl (Nat.le_refl _) ?_
  refine px_aload_n dX11_set_0 rfl rfl ?_
  refine px_iload_n dX11_set_1 rfl rfl ?_
  refine px_fV1i dX11_set_2 kX11_set_223 (xol rfl) hM (Nat.le_of_ble_eq_true rfl) (c_X11_isFrame hM) ?_
  refine px_top (y := zb (0 ≤ v ∧ v < nI n)) (by rw [hsh.1]; exact in_m (by omega)) ?_
  refine px_zif_ne 10 dX11_set_5 rfl (fun h5 => ?_) (fun h5 => ?_)
  · obtain ⟨f, hf, rfl⟩ := in_nat (by omega) h5
    have hnf : (nI f).toNatClampNeg = f := nI_clamp (by omega)
    have hfi : vp_in (nI f) 8 := vp_in_nI (by omega) (by decide)
    refine px_aload_n dX11_set_10 rfl rfl ?_
    refine px_iload_n dX11_set_11 rfl rfl ?_
    refine px_fV1i dX11_set_12 kX11_set_232 (xol rfl) hM (Nat.le_of_ble_eq_true rfl) (c_X11_isSet (by omega) hM hW) ?_
    refine px_top (y := zb (¬ S.1 f = none)) (lyM_is hl hb (by omega)) ?_
    refine px_zif_eq 21 dX11_set_15 rfl (fun h15 => ?_) (fun h15 => ?_)
    · refine px_aload_n dX11_set_21 rfl rfl ?_
      refine px_iload_n dX11_set_22 rfl rfl ?_
      refine px_gV1 dX11_set_23 kX11_set_286 (xol rfl) hM (Nat.le_of_ble_eq_true rfl) (c_X11_findsPage (T := aT g f) hM hW hsM hl hly hf (rRow_0.mp hst.2.2.1).2 hru (hsU f hf).1 (hsU f hf).2) (fun r23 M23 hq23 hn23 => ?_)
      obtain ⟨rfl, q1, q2⟩ := hq23
      have hm : xNT ≤ xN M23 := by rw [hn23]; exact hM
      have hw : xWire M23.2.1 := by rw [q1.w]; exact hW
      have eS : aSet n W H (aA B g) (aD B g) (aT g) dd S P (nI f) = dSt n W H (aA B g) (aD B g) (aT g) dd S P f (spG S.2 W H (aA B g) (aD B g) (aT g f) f S.1) := by
        unfold aSet; rw [if_neg (fun z => z h5), hnf, if_neg h15]
      have hst1 : stM M23 dd S P := stM_k hst (q1.2.2 36 (by decide) (by decide)) q1.now (q1.2.1 90 (by decide) (by decide) (by decide) (by decide) (by decide) (by decide))
      refine px_si_2 dX11_set_26 rfl ?_
      refine px_iload_n dX11_set_27 rfl rfl ?_
      refine px_bipush dX11_set_28 bp_m9 ?_
      refine px_icmp_ne 36 dX11_set_30 rfl (fun h30 => ?_) (fun h30 => ?_)
      · obtain ⟨p, x, y, t, eN⟩ := spP_s h30
        rw [eN] at eS
        obtain ⟨k, hk4, e32, e33, e86, e87⟩ := q2 p x y t eN
        have hst2 := hst1
        refine px_aload_n dX11_set_36 rfl rfl ?_
        refine px_getI dX11_set_37 fX11_185 (xol rfl) hm rfl ?_
        refine px_bipush dX11_set_40 bp_40 ?_
        have e36 := hst1.1
        refine px_icmp_ne 48 dX11_set_42 rfl (fun h42 => ?_) (fun h42 => ?_)
        · have h40 : ¬ dd = 40 := fun z => h42 (by rw [e36]; exact (d40_i hd4).mpr z)
          have hlt : dd < 40 := by omega
          have hst2 := stM_rem hst1 hlt
          refine px_aload_n dX11_set_48 rfl rfl ?_
          refine px_fV0v dX11_set_49 kX11_set_293 (xol rfl) hm (Nat.le_of_ble_eq_true rfl) (c_X11_remember (dd := dd) hm hw hst1.1 hlt) ?_
          refine px_aload_n dX11_set_52 rfl rfl ?_
          refine px_iload_n dX11_set_53 rfl rfl ?_
          refine px_iload_n dX11_set_54 rfl rfl ?_
          refine px_top (y := nI p) (by rw [eN]; rfl) ?_
          refine px_fV2v dX11_set_55 kX11_set_289 (xol rfl) hm (Nat.le_of_ble_eq_true rfl) (c_X11_sets (pg := nI p) (vx := nI x) (vy := nI y) (vt := nI t) (by omega) hk4 e32 e33 e86 e87 hm hw) ?_
          refine px_iload_n dX11_set_58 rfl rfl ?_
          refine px_top (y := nI p) (by rw [eN]; rfl) ?_
          exact px_iret dX11_set_59 rfl (by rw [eS, dSt, if_neg h40]; exact ⟨rfl, (q1.d.tr (rDrem M23 dd)).tr (rD.wF (a := 83) (by omega)), stM_ly hst2 rfl rfl (upR_so (rRow_0.mp hst2.2.2.1).1) (by rw [xI_wF, if_pos rfl, upR_32 (by omega)]; exact (rRow_0.mp hst2.2.2.1).2)⟩) (by first | rfl | exact hn23)
        · refine px_bipush dX11_set_45 bp_m2 ?_
          exact px_iret dX11_set_47 rfl (by rw [eS, dSt, if_pos ((d40_i hd4).mp (by rw [← e36]; exact h42))]; exact ⟨rfl, q1.d, hst1⟩) (by first | rfl | exact hn23)
      · have eN := spP_n (hsU f hf).1 hok.2.1 hok.2.2.1 h30
        refine px_bipush dX11_set_33 bp_m6 ?_
        exact px_iret dX11_set_35 rfl (by rw [eS, eN, dSt]; exact ⟨rfl, q1.d, hst1⟩) (by first | rfl | exact hn23)
    · refine px_bipush dX11_set_18 bp_m4 ?_
      exact px_iret dX11_set_20 rfl (by rw [show aSet n W H (aA B g) (aD B g) (aT g) dd S P (nI f) = (-4, dd, S, P) from by unfold aSet; rw [if_neg (fun z => z h5), hnf, if_pos h15]]; exact ⟨rfl, rD.rf M, hst⟩) (by first | rfl | exact hn23)
  · refine px_iconst dX11_set_8 ic_m1 ?_
    exact px_iret dX11_set_9 rfl (by rw [show aSet n W H (aA B g) (aD B g) (aT g) dd S P v = (-1, dd, S, P) from if_pos h5]; exact ⟨rfl, rD.rf M, hst⟩) (by first | rfl | exact hn23)

set_option maxRecDepth 100000 in
theorem c_X10_lift {E : xE} {M : xMem} {s n W H B dd : Nat} {g : Nat → Nat → Nat} {S : gLay × Nat} {P : Nat → gLay × Nat} (hc : cHy M s n W H B g dd S P) {v : Int32} : Ct E mX10_lift [.ref 1, .int v] M (xN M) (fun r m => r = some (.int (aLft n dd S P v).1) ∧ cD M m ∧ stC m 6 (aLft n dd S P v).2.1 (aLft n dd S P v).2.2.1 (aLft n dd S P v).2.2.2) := by
  have hc0 := hc
  obtain ⟨hM, hW, hs, hcu, hsh, hok, hst, hly, hru⟩ := hc
  have hp0 : 0 < s := hs.1
  have h8 : n ≤ 8 := hok.1
  have hb : lyB S.1 := (hsh.s hok).b hly
  have hl : lyC (M.1 8) S.1 := hst.2.2.1
  have hpg := pgL_le hb 8
  have hd4 : dd ≤ 40 := hst.2.1
  have hsC := hsh.s hok
  have hsT := hsh.t hok
  have h7 := xob_7 hs
  refine Ct.of (lo := [some (.ref 1), some (.int v)]) pln_X10 (Nat.le_of_ble_eq_true rfl) rfl (Nat.le_refl _) ?_
  refine px_iload_n dX10_lift_0 rfl rfl ?_
  refine px_aload_n dX10_lift_1 rfl rfl ?_
  refine px_getR dX10_lift_2 fX10_71 (xol rfl) hM rfl (by assumption) (by assumption) ?_
  refine px_getI dX10_lift_5 fX10_140 hs hM rfl ?_
  refine px_top (y := nI n) hsh.1 ?_
  refine px_fS2i dX10_lift_8 kX10_lift_84 (Nat.le_of_ble_eq_true rfl) (c_X10_isBelow) ?_
  refine px_zif_ne 16 dX10_lift_11 rfl (fun h11 => ?_) (fun h11 => ?_)
  · obtain ⟨f, hf, rfl⟩ := in_nat (by omega) h11
    have hnf : (nI f).toNatClampNeg = f := nI_clamp (by omega)
    have hfi : vp_in (nI f) 8 := vp_in_nI (by omega) (by decide)
    refine px_aload_n dX10_lift_16 rfl rfl ?_
    refine px_getR dX10_lift_17 fX10_32 (xol rfl) hM rfl (wr_10_4 hW (xol rfl)) (Nat.succ_pos _) ?_
    refine px_getR dX10_lift_20 fX10_163 (xol rfl) hM rfl (wr_8_0 hW (xol rfl)) (Nat.succ_pos _) ?_
    refine px_iload_n dX10_lift_23 rfl rfl ?_
    refine px_fV1i dX10_lift_24 kX10_lift_166 (xol rfl) hM (Nat.le_of_ble_eq_true rfl) (c_X1_isSet (a := 7) (xol rfl) hM hW hfi) ?_
    refine px_top (y := zb (¬ S.1 f = none)) (lyC_is hl hb (by omega)) ?_
    refine px_zif_ne 33 dX10_lift_27 rfl (fun h27 => ?_) (fun h27 => ?_)
    · refine px_aload_n dX10_lift_33 rfl rfl ?_
      refine px_getR dX10_lift_34 fX10_32 (xol rfl) hM rfl (wr_10_4 hW (xol rfl)) (Nat.succ_pos _) ?_
      refine px_fV0i dX10_lift_37 kX10_lift_198 (xol rfl) hM (Nat.le_of_ble_eq_true rfl) (c_X8_isFull (a := 6) (xol rfl) hM) ?_
      refine px_top (y := zb (dd = 40)) (by rw [hst.1]; exact full_c hd4) ?_
      refine px_zif_eq 46 dX10_lift_40 rfl (fun h40 => ?_) (fun h40 => ?_)
      · have hlt : dd < 40 := by omega
        have hst2 := stBeg_st hst hlt
        have hly2 := uly_none (f := f) hly
        have hl2 : lyC ((wI (stBeg M 6 dd) 8 (nI f).toNatClampNeg (-9)).1 8) (uly S.1 f none) := lyC_c (upC_no (f := f) hst2.2.2.1) (fun k hk => by rw [xI_wI, hnf]; by_cases z : k = f; (rw [if_pos ⟨rfl, z⟩, if_pos z]); (rw [if_neg (fun y => z y.2), if_neg z]))
        refine px_aload_n dX10_lift_46 rfl rfl ?_
        refine px_getR dX10_lift_47 fX10_32 (xol rfl) hM rfl (wr_10_4 hW (xol rfl)) (Nat.succ_pos _) ?_
        refine px_fV0v dX10_lift_50 kX10_lift_201 (xol rfl) hM (Nat.le_of_ble_eq_true rfl) (c_X8_beginDeed (a := 6) (dd := dd) (xol rfl) hM hW hst.1 hlt) ?_
        refine px_aload_n dX10_lift_53 rfl rfl ?_
        refine px_getR dX10_lift_54 fX10_32 (xol rfl) hM rfl (wr_10_4 hW (xol rfl)) (Nat.succ_pos _) ?_
        refine px_getR dX10_lift_57 fX10_163 (xol rfl) hM rfl (wr_8_0 hW (xol rfl)) (Nat.succ_pos _) ?_
        refine px_getR dX10_lift_60 fX10_204 (xol rfl) hM rfl (wr_1_0 hW (xol rfl)) (Nat.succ_pos _) ?_
        refine px_iload_n dX10_lift_63 rfl rfl ?_
        refine px_bipush dX10_lift_64 bp_m9 ?_
        refine px_iast dX10_lift_66 (ar_1 (xol rfl)) hM hfi ?_
        refine px_aload_n dX10_lift_67 rfl rfl ?_
        refine px_getR dX10_lift_68 fX10_32 (xol rfl) hM rfl (wr_10_4 hW (xol rfl)) (Nat.succ_pos _) ?_
        refine px_getR dX10_lift_71 fX10_163 (xol rfl) hM rfl (wr_8_0 hW (xol rfl)) (Nat.succ_pos _) ?_
        refine px_fV0i dX10_lift_74 kX10_lift_210 (xol rfl) hM (Nat.le_of_ble_eq_true rfl) (c_X1_pages (la := 7) hM hW (xol rfl) hl2 (hsC.b hly2)) ?_
        exact px_iret dX10_lift_77 rfl (by rw [show aLft n dd S P (nI f) = (nI (pgL (uly S.1 f none) 8), dd + 1, (uly S.1 f none, S.2), psh P dd S) from by unfold aLft; rw [if_neg (fun z => z h11), hnf, if_neg h27, if_neg h40]]; exact ⟨rfl, (cD.beg M dd).tr (cD.wI (by omega)), stC_ly hst2 (by funext k; rw [xI_wI, if_neg (fun z => by omega)]) (by funext k; rw [xI_wI, if_neg (fun z => by omega)]) hl2 (by rw [xI_wI, if_neg (fun z => by omega)]; exact hst2.2.2.2.1)⟩) (rfl)
      · refine px_bipush dX10_lift_43 bp_m2 ?_
        exact px_iret dX10_lift_45 rfl (by rw [show aLft n dd S P (nI f) = (-2, dd, S, P) from by unfold aLft; rw [if_neg (fun z => z h11), hnf, if_neg h27, if_pos h40]]; exact ⟨rfl, cD.rf M, hst⟩) (rfl)
    · refine px_bipush dX10_lift_30 bp_m4 ?_
      exact px_iret dX10_lift_32 rfl (by rw [show aLft n dd S P (nI f) = (-4, dd, S, P) from by unfold aLft; rw [if_neg (fun z => z h11), hnf, if_pos (Classical.byContradiction h27)]]; exact ⟨rfl, cD.rf M, hst⟩) (rfl)
  · refine px_iconst dX10_lift_14 ic_m1 ?_
    exact px_iret dX10_lift_15 rfl (by rw [show aLft n dd S P v = (-1, dd, S, P) from if_pos h11]; exact ⟨rfl, cD.rf M, hst⟩) (rfl)

set_option maxRecDepth 100000 in
theorem c_X11_lift {E : xE} {M : xMem} {n W H B dd : Nat} {g : Nat → Nat → Nat} {S : gLay × Nat} {P : Nat → gLay × Nat} (hc : rHy M n W H B g dd S P) {v : Int32} : Ct E mX11_lift [.ref 74, .int v] M (xN M) (fun r m => r = some (.int (aLft n dd S P v).1) ∧ rD M m ∧ stM m (aLft n dd S P v).2.1 (aLft n dd S P v).2.2.1 (aLft n dd S P v).2.2.2) := by
  have hc0 := hc
  obtain ⟨hM, hW, hsh, hok, hst, hly, hru⟩ := hc
  have h8 : n ≤ 8 := hok.1
  have hb : lyB S.1 := (hsh.s hok).b hly
  have hl : lyM (M.1 83) S.1 := lyM_c hst.2.2.1.1 (fun k _ => by rw [Nat.zero_add])
  have hpg := pgL_le hb 8
  have hd4 : dd ≤ 40 := hst.2.1
  have hsM := hsh.s hok
  have hsU := hsh.u hok
  refine Ct.of (lo := [some (.ref 74), some (.int v)]) pln_X11 (Nat.le_of_ble_eq_true rfl) rfl (Nat.le_refl _) ?_
  refine px_aload_n dX11_lift_0 rfl rfl ?_
  refine px_iload_n dX11_lift_1 rfl rfl ?_
  refine px_fV1i dX11_lift_2 kX11_lift_223 (xol rfl) hM (Nat.le_of_ble_eq_true rfl) (c_X11_isFrame hM) ?_
  refine px_top (y := zb (0 ≤ v ∧ v < nI n)) (by rw [hsh.1]; exact in_m (by omega)) ?_
  refine px_zif_ne 10 dX11_lift_5 rfl (fun h5 => ?_) (fun h5 => ?_)
  · obtain ⟨f, hf, rfl⟩ := in_nat (by omega) h5
    have hnf : (nI f).toNatClampNeg = f := nI_clamp (by omega)
    have hfi : vp_in (nI f) 8 := vp_in_nI (by omega) (by decide)
    refine px_aload_n dX11_lift_10 rfl rfl ?_
    refine px_iload_n dX11_lift_11 rfl rfl ?_
    refine px_fV1i dX11_lift_12 kX11_lift_232 (xol rfl) hM (Nat.le_of_ble_eq_true rfl) (c_X11_isSet (by omega) hM hW) ?_
    refine px_top (y := zb (¬ S.1 f = none)) (lyM_is hl hb (by omega)) ?_
    refine px_zif_ne 21 dX11_lift_15 rfl (fun h15 => ?_) (fun h15 => ?_)
    · refine px_aload_n dX11_lift_21 rfl rfl ?_
      refine px_getI dX11_lift_22 fX11_185 (xol rfl) hM rfl ?_
      refine px_bipush dX11_lift_25 bp_40 ?_
      have e36 := hst.1
      refine px_icmp_ne 33 dX11_lift_27 rfl (fun h27 => ?_) (fun h27 => ?_)
      · have h40 : ¬ dd = 40 := fun z => h27 (by rw [e36]; exact (d40_i hd4).mpr z)
        have hlt : dd < 40 := by omega
        have hst2 := stM_rem hst hlt
        have hly2 := uly_none (f := f) hly
        have hb2 := hsM.b hly2
        refine px_aload_n dX11_lift_33 rfl rfl ?_
        refine px_fV0v dX11_lift_34 kX11_lift_293 (xol rfl) hM (Nat.le_of_ble_eq_true rfl) (c_X11_remember (dd := dd) hM hW hst.1 hlt) ?_
        refine px_aload_n dX11_lift_37 rfl rfl ?_
        refine px_iload_n dX11_lift_38 rfl rfl ?_
        refine px_fV1v dX11_lift_39 kX11_lift_296 (xol rfl) hM (Nat.le_of_ble_eq_true rfl) (c_X11_lifts (f := f) (by omega) hM hW) ?_
        refine px_aload_n dX11_lift_42 rfl rfl ?_
        refine px_fV0i dX11_lift_43 kX11_lift_270 (xol rfl) hM (Nat.le_of_ble_eq_true rfl) (c_X11_pageMany (N := n) hM hW h8 hsh.1) ?_
        refine px_top (y := nI (pgL (uly S.1 f none) 8)) (Eq.trans (pgF_L (upR_no (rRow_0.mp hst2.2.2.1).1) hb2 n h8) (by rw [(L_more hly2.1 8 h8).1])) ?_
        exact px_iret dX11_lift_46 rfl (by rw [show aLft n dd S P (nI f) = (nI (pgL (uly S.1 f none) 8), dd + 1, (uly S.1 f none, S.2), psh P dd S) from by unfold aLft; rw [if_neg (fun z => z h5), hnf, if_neg h15, if_neg h40]]; exact ⟨rfl, (rDrem M dd).tr (rD.wF (a := 83) (by omega)), stM_ly hst2 rfl rfl (upR_no (rRow_0.mp hst2.2.2.1).1) (by rw [xI_wF, if_pos rfl, upR_32 (by omega)]; exact (rRow_0.mp hst2.2.2.1).2)⟩) (rfl)
      · refine px_bipush dX11_lift_30 bp_m2 ?_
        exact px_iret dX11_lift_32 rfl (by rw [show aLft n dd S P (nI f) = (-2, dd, S, P) from by unfold aLft; rw [if_neg (fun z => z h5), hnf, if_neg h15, if_pos ((d40_i hd4).mp (by rw [← e36]; exact h27))]]; exact ⟨rfl, rD.rf M, hst⟩) (rfl)
    · refine px_bipush dX11_lift_18 bp_m4 ?_
      exact px_iret dX11_lift_20 rfl (by rw [show aLft n dd S P (nI f) = (-4, dd, S, P) from by unfold aLft; rw [if_neg (fun z => z h5), hnf, if_pos (Classical.byContradiction h15)]]; exact ⟨rfl, rD.rf M, hst⟩) (rfl)
  · refine px_iconst dX11_lift_8 ic_m1 ?_
    exact px_iret dX11_lift_9 rfl (by rw [show aLft n dd S P v = (-1, dd, S, P) from if_pos h5]; exact ⟨rfl, rD.rf M, hst⟩) (rfl)
