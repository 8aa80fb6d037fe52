/-! ===== undo, keep, on ===== -/
abbrev aKep : Type := Option (Nat × (gLay × Nat) × (Nat → gLay × Nat))
def kpC (M : xMem) (K : Nat → aKep) : Prop := ∀ k, k < 3 → (K k = none → M.1 5 k = 0) ∧ ∀ q, K k = some q → M.1 5 k = 1 ∧ stC M (62 + 4 * k) q.1 q.2.1 q.2.2
def kpM (M : xMem) (K : Nat → aKep) : Prop := ∀ k, k < 3 → (K k = none → M.1 91 k = -1) ∧ ∀ q, K k = some q → ktM M k q.1 q.2.1 q.2.2
def kSet (K : Nat → aKep) (k : Nat) (q : Nat × (gLay × Nat) × (Nat → gLay × Nat)) : Nat → aKep := fun j => if j = k then some q else K j
def aUnd (dd : Nat) (S : gLay × Nat) (P : Nat → gLay × Nat) (v : Int32) : aDeed := if ¬ (0 ≤ v ∧ v ≤ nI dd) then (-1, dd, S, P) else (nI (dd - v.toNatClampNeg), v.toNatClampNeg, if v.toNatClampNeg < dd then P v.toNatClampNeg else S, P)
def aKee (n dd : Nat) (S : gLay × Nat) (P : Nat → gLay × Nat) (K : Nat → aKep) (v : Int32) : Int32 × (Nat → aKep) := if ¬ (0 ≤ v ∧ v < 3) then (-1, K) else if n = 0 then (-4, K) else (nI dd, kSet K v.toNatClampNeg (dd, S, P))
def onQ (dd : Nat) (S : gLay × Nat) (P : Nat → gLay × Nat) : aKep → Int32 × Option Int32 × Nat × (gLay × Nat) × (Nat → gLay × Nat)
  | none => (-3, some 1, dd, S, P)
  | some q => (nI q.1, none, q)
def aOn (dd : Nat) (S : gLay × Nat) (P : Nat → gLay × Nat) (K : Nat → aKep) (v : Int32) : Int32 × Option Int32 × Nat × (gLay × Nat) × (Nat → gLay × Nat) := if ¬ (0 ≤ v ∧ v < 3) then (-1, none, dd, S, P) else onQ dd S P (K v.toNatClampNeg)
def cK (M m : xMem) : Prop := m.2 = M.2 ∧ ∀ a, a ≠ 5 → (a < 62 ∨ 73 < a) → m.1 a = M.1 a
def rK (M m : xMem) : Prop := m.2 = M.2 ∧ ∀ a, a ≠ 91 → a ≠ 92 → m.1 a = M.1 a
theorem cK.rf (M : xMem) : cK M M := ⟨rfl, fun _ _ _ => rfl⟩
theorem rK.rf (M : xMem) : rK M M := ⟨rfl, fun _ _ _ => rfl⟩
theorem tk_c {M : xMem} {a b dd c : Nat} (h : c < a ∨ a + 3 < c) : (stTake M a b dd).1 c = M.1 c := by
  funext k
  rw [xI_wI, if_neg (fun z => by omega), xI_wF, if_neg (by omega), xI_wI, if_neg (fun z => by omega), xI_wF, if_neg (by omega)]
theorem stTake_st {M : xMem} {a b dd : Nat} {S : gLay × Nat} {P : Nat → gLay × Nat} (h : stC M b dd S P) : stC (stTake M a b dd) a dd S P := by
  refine ⟨wI_self _ _ _ _, h.2.1, ?_, ?_, fun i hi => ?_⟩
  · refine lyC_c h.2.2.1 (fun k hk => ?_)
    rw [xI_wI, if_neg (fun z => by omega), xI_wF, if_neg (by omega), xI_wI, if_neg (fun z => by omega), xI_wF, if_pos rfl, pk_cpy_in (by omega) (by omega)]
    exact congrArg _ (by omega)
  · rw [xI_wI, if_neg (fun z => by omega), xI_wF, if_neg (by omega), xI_wI, if_pos ⟨rfl, rfl⟩]
    exact h.2.2.2.1
  · refine cRow_c (h.2.2.2.2 i hi) (fun k hk => ?_)
    rw [xI_wI, if_neg (fun z => by omega), xI_wF, if_pos rfl, pk_cpy_in (by omega) (by omega)]
    exact congrArg _ (by omega)
theorem stBack_st {M : xMem} {a dd n : Nat} {S : gLay × Nat} {P : Nat → gLay × Nat} (h : stC M a dd S P) (hn : n < dd) : stC (stBack M a n) a n (P n) P := by
  have h4 := h.2.1
  refine ⟨wI_self _ _ _ _, by omega, ?_, ?_, fun i hi => ?_⟩
  · refine lyC_c (h.2.2.2.2 n hn).1 (fun k hk => ?_)
    rw [xI_wI, if_neg (fun z => by omega), xI_wI, if_neg (fun z => by omega), xI_wF, if_pos rfl, pk_cpy_in (by omega) (by omega)]
    exact congrArg _ (by omega)
  · rw [xI_wI, if_neg (fun z => by omega), xI_wI, if_pos ⟨rfl, rfl⟩]
    exact (h.2.2.2.2 n hn).2
  · refine cRow_c (h.2.2.2.2 i (by omega)) (fun k hk => ?_)
    rw [xI_wI, if_neg (fun z => by omega), xI_wI, if_neg (fun z => by omega), xI_wF, if_neg (by omega)]
theorem cDtake (M : xMem) (b dd : Nat) : cD M (stTake M 6 b dd) := ⟨rfl, fun a a1 _ => tk_c (by omega)⟩
theorem cDback (M : xMem) (n : Nat) : cD M (stBack M 6 n) := ⟨rfl, fun a a1 _ => by funext k; rw [xI_wI, if_neg (fun z => by omega), xI_wI, if_neg (fun z => by omega), xI_wF, if_neg (by omega)]⟩
theorem kp_keep {M : xMem} {K : Nat → aKep} {k dd : Nat} {S : gLay × Nat} {P : Nat → gLay × Nat} (h : kpC M K) (hk : k < 3) (hs : stC M 6 dd S P) : kpC (wI (stTake M (62 + 4 * k) 6 dd) 5 k 1) (kSet K k (dd, S, P)) := by
  intro j hj
  have e5 : ∀ i, i ≠ k → (wI (stTake M (62 + 4 * k) 6 dd) 5 k 1).1 5 i = M.1 5 i := fun i hi => by
    rw [xI_wI, if_neg (fun z => hi z.2), tk_c (by omega)]
  have ec : ∀ c, 62 ≤ c → (wI (stTake M (62 + 4 * k) 6 dd) 5 k 1).1 c = (stTake M (62 + 4 * k) 6 dd).1 c := fun c hc => by funext i; rw [xI_wI, if_neg (fun z => by omega)]
  by_cases e : j = k
  · subst e
    refine ⟨fun z => absurd z (by unfold kSet; rw [if_pos rfl]; exact fun y => (by cases y)), fun q hq => ?_⟩
    unfold kSet at hq
    rw [if_pos rfl] at hq
    have e := Option.some.inj hq
    rw [← e]
    exact ⟨wI_self _ _ _ _, stC_k (stTake_st hs) (fun b b1 b2 => ec b (by omega))⟩
  · unfold kSet
    rw [if_neg e]
    refine ⟨fun z => by rw [e5 j e]; exact (h j hj).1 z, fun q hq => ?_⟩
    obtain ⟨h1, h2⟩ := (h j hj).2 q hq
    exact ⟨by rw [e5 j e]; exact h1, stC_k h2 (fun b b1 b2 => by rw [ec b (by omega), tk_c (by omega)])⟩
theorem ktM_c {M m : xMem} {k dd : Nat} {S : gLay × Nat} {P : Nat → gLay × Nat} (h : ktM M k dd S P) (e1 : m.1 91 k = M.1 91 k) (e2 : ∀ j, 1353 * k ≤ j → j < 1353 * (k + 1) → m.1 92 j = M.1 92 j) : ktM m k dd S P := by
  have h4 := h.2.1
  exact ⟨by rw [e1]; exact h.1, h4, rRow_c h.2.2.1 (fun i hi => e2 _ (by omega) (by omega)), fun i hi => rRow_c (h.2.2.2 i hi) (fun j hj => e2 _ (by omega) (by omega))⟩
theorem mp_keep {M : xMem} {K : Nat → aKep} {k dd : Nat} {S : gLay × Nat} {P : Nat → gLay × Nat} (h : kpM M K) (hk : k < 3) (hs : stM M dd S P) : kpM (mcpM (mcpM (wI M 91 k (nI dd)) 92 (1353 * k) (M.1 83) 33) 92 (1353 * k + 33) (M.1 90) (33 * dd)) (kSet K k (dd, S, P)) := by
  intro j hj
  have h4 := hs.2.1
  have e92 : ∀ i, (mcpM (mcpM (wI M 91 k (nI dd)) 92 (1353 * k) (M.1 83) 33) 92 (1353 * k + 33) (M.1 90) (33 * dd)).1 92 i = if 1353 * k + 33 ≤ i ∧ i < 1353 * k + 33 + 33 * dd then M.1 90 (i - (1353 * k + 33)) else if 1353 * k ≤ i ∧ i < 1353 * k + 33 then M.1 83 (i - 1353 * k) else M.1 92 i := fun i => rfl
  have e91 : ∀ i, (mcpM (mcpM (wI M 91 k (nI dd)) 92 (1353 * k) (M.1 83) 33) 92 (1353 * k + 33) (M.1 90) (33 * dd)).1 91 i = if i = k then nI dd else M.1 91 i := fun i => by
    rw [mcp_at _ _ _ _ _ (by decide), mcp_at _ _ _ _ _ (by decide), xI_wI]
    by_cases z : i = k
    · rw [if_pos ⟨rfl, z⟩, if_pos z]
    · rw [if_neg (fun y => z y.2), if_neg z]
  by_cases e : j = k
  · subst e
    refine ⟨fun z => absurd z (by unfold kSet; rw [if_pos rfl]; exact fun y => (by cases y)), fun q hq => ?_⟩
    unfold kSet at hq
    rw [if_pos rfl] at hq
    have e := Option.some.inj hq
    rw [← e]
    refine ⟨by rw [e91, if_pos rfl], h4, rRow_c hs.2.2.1 (fun i hi => ?_), fun i hi => rRow_c (hs.2.2.2 i hi) (fun l hl => ?_)⟩
    · rw [e92, if_neg (by omega), if_pos (by omega)]
      exact congrArg _ (by omega)
    · rw [e92, if_pos (by omega)]
      exact congrArg _ (by omega)
  · unfold kSet
    rw [if_neg e]
    refine ⟨fun z => by rw [e91, if_neg e]; exact (h j hj).1 z, fun q hq => ktM_c ((h j hj).2 q hq) (by rw [e91, if_neg e]) (fun i i1 i2 => ?_)⟩
    rw [e92, if_neg (by omega), if_neg (by omega)]
theorem stM_on {M : xMem} {k dd : Nat} {S : gLay × Nat} {P : Nat → gLay × Nat} (h : ktM M k dd S P) : stM (mcpM (mcpM (wI M 74 36 (nI dd)) 83 0 (fun j => M.1 92 (1353 * k + j)) 33) 90 0 (fun j => M.1 92 (1353 * k + 33 + j)) (33 * dd)) dd S P := by
  refine ⟨rfl, h.2.1, rRow_c h.2.2.1 (fun i hi => ?_), fun i hi => rRow_c (h.2.2.2 i hi) (fun j hj => ?_)⟩
  · show (if 0 ≤ 0 + i ∧ 0 + i < 0 + 33 then M.1 92 (1353 * k + (0 + i - 0)) else _) = _
    rw [if_pos (by omega)]
    exact congrArg _ (by omega)
  · show (if 0 ≤ 33 * i + j ∧ 33 * i + j < 0 + 33 * dd then M.1 92 (1353 * k + 33 + (33 * i + j - 0)) else _) = _
    rw [if_pos (by omega)]
    exact congrArg _ (by omega)
theorem stM_und {M : xMem} {dd n : Nat} {S : gLay × Nat} {P : Nat → gLay × Nat} (h : stM M dd S P) (hn : n < dd) : stM (wI (mcpM M 83 0 (fun k => M.1 90 (33 * n + k)) 33) 74 36 (nI n)) n (P n) P := by
  have h4 := h.2.1
  refine ⟨wI_self _ _ _ _, by omega, rRow_c (h.2.2.2 n hn) (fun i hi => ?_), fun i hi => h.2.2.2 i (by omega)⟩
  show (if 0 ≤ 0 + i ∧ 0 + i < 0 + 33 then M.1 90 (33 * n + (0 + i - 0)) else _) = _
  rw [if_pos (by omega)]
  exact congrArg _ (by omega)

set_option maxRecDepth 100000 in
theorem c_X10_undo {E : xE} {M : xMem} {s n W H B dd : Nat} {g : Nat → Nat → Nat} {S : gLay × Nat} {P : Nat → gLay × Nat} (hc : cHy M s n W H B g dd S P) {v : Int32} : Ct E mX10_undo [.ref 1, .int v] M (xN M) (fun r m => r = some (.int (aUnd dd S P v).1) ∧ cD M m ∧ stC m 6 (aUnd dd S P v).2.1 (aUnd dd S P v).2.2.1 (aUnd dd S P v).2.2.2) := by
  have hc0 := hc
  obtain ⟨hM, hW, hs, hcu, hsh, hok, hst, hly, hru⟩ := hc
  have hp0 : 0 < s := hs.1
  have h8 : n ≤ 8 := hok.1
  have hb : lyB S.1 := (hsh.s hok).b hly
  have hl : lyC (M.1 8) S.1 := hst.2.2.1
  have hpg := pgL_le hb 8
  have hd4 : dd ≤ 40 := hst.2.1
  have h7 := xob_7 hs
  refine Ct.of (lo := [some (.ref 1), some (.int v), none]) pln_X10 (Nat.le_of_ble_eq_true rfl) rfl (Nat.le_refl _) ?_
  refine px_iload_n dX10_undo_0 rfl rfl ?_
  refine px_if_lt 15 dX10_undo_1 rfl (fun h1 => ?_) (fun h1 => ?_)
  · refine px_iconst dX10_undo_15 ic_m1 ?_
    exact px_iret dX10_undo_16 rfl (by rw [show aUnd dd S P v = (-1, dd, S, P) from if_pos (fun z => by first | exact absurd h1 (n_le z.1) | exact h12 z.2)]; exact ⟨rfl, cD.rf M, hst⟩) (by first | rfl | (split <;> rfl))
  · refine px_iload_n dX10_undo_4 rfl rfl ?_
    refine px_aload_n dX10_undo_5 rfl rfl ?_
    refine px_getR dX10_undo_6 fX10_32 (xol rfl) hM rfl (wr_10_4 hW (xol rfl)) (Nat.succ_pos _) ?_
    refine px_getI dX10_undo_9 fX10_220 (xol rfl) hM rfl ?_
    refine px_top (y := nI dd) hst.1 ?_
    refine px_icmp_le 17 dX10_undo_12 rfl (fun h12 => ?_) (fun h12 => ?_)
    · have g1 : 0 ≤ v ∧ v ≤ nI dd := ⟨Int32.not_lt.mp h1, h12⟩
      obtain ⟨j, hj, rfl⟩ : ∃ j : Nat, j ≤ dd ∧ v = nI j := by
        obtain ⟨j, hj, e⟩ := nI_of (n_le g1.1)
        subst e
        have := g1.2
        rw [nI_leI hj (by omega)] at this
        exact ⟨j, this, rfl⟩
      have hnj : (nI j).toNatClampNeg = j := nI_clamp (by omega)
      refine px_aload_n dX10_undo_17 rfl rfl ?_
      refine px_getR dX10_undo_18 fX10_32 (xol rfl) hM rfl (wr_10_4 hW (xol rfl)) (Nat.succ_pos _) ?_
      refine px_getI dX10_undo_21 fX10_220 (xol rfl) hM rfl ?_
      refine px_top (y := nI dd) hst.1 ?_
      refine px_iload_n dX10_undo_24 rfl rfl ?_
      refine px_isub dX10_undo_25 ?_
      refine px_top (y := nI (dd - j)) (pk_sub hj) ?_
      refine px_si_2 dX10_undo_26 rfl ?_
      refine px_aload_n dX10_undo_27 rfl rfl ?_
      refine px_getR dX10_undo_28 fX10_32 (xol rfl) hM rfl (wr_10_4 hW (xol rfl)) (Nat.succ_pos _) ?_
      refine px_iload_n dX10_undo_31 rfl rfl ?_
      refine px_fV1v dX10_undo_32 kX10_undo_223 (xol rfl) hM (Nat.le_of_ble_eq_true rfl) (c_X8_goBackTo (a := 6) (dd := dd) (n := j) (xol rfl) hM hW hst.1 hd4 hj) ?_
      refine px_iload_n dX10_undo_35 rfl rfl ?_
      exact px_iret dX10_undo_36 rfl (by rw [show aUnd dd S P (nI j) = (nI (dd - j), j, if j < dd then P j else S, P) from by unfold aUnd; rw [if_neg (fun z => z g1), hnj]]; by_cases z : j < dd; (rw [if_pos z, if_pos z]; exact ⟨rfl, cDback M j, stBack_st hst z⟩); (rw [if_neg z, if_neg z]; have e : j = dd := (by omega); rw [e]; exact ⟨rfl, cD.rf M, hst⟩)) (by first | rfl | (split <;> rfl))
    · refine px_iconst dX10_undo_15 ic_m1 ?_
      exact px_iret dX10_undo_16 rfl (by rw [show aUnd dd S P v = (-1, dd, S, P) from if_pos (fun z => by first | exact absurd h1 (n_le z.1) | exact h12 z.2)]; exact ⟨rfl, cD.rf M, hst⟩) (by first | rfl | (split <;> rfl))

theorem c_X11_undo2 {E : xE} {M : xMem} {n W H B dd : Nat} {g : Nat → Nat → Nat} {S : gLay × Nat} {P : Nat → gLay × Nat} (hc : rHy M n W H B g dd S P) {v : Int32} : Ct E mX11_undo [.ref 74, .int v] M (xN M) (fun r m => r = some (.int (aUnd dd S P v).1) ∧ rD M m ∧ stM m (aUnd dd S P v).2.1 (aUnd dd S P v).2.2.1 (aUnd dd S P v).2.2.2) := by
  obtain ⟨hM, hW, hsh, hok, hst, hly, hru⟩ := hc
  refine Ct.imp (c_X11_undo hM hW hst.1 hst.2.1) ?_
  rintro r m ⟨rfl, rfl⟩ -
  have hd4 := hst.2.1
  unfold aUnd
  by_cases g1 : 0 ≤ v ∧ v ≤ nI dd
  · simp only [g1, not_true_eq_false, if_false, and_self]
    obtain ⟨j, hj, rfl⟩ : ∃ j : Nat, j ≤ dd ∧ v = nI j := by
      obtain ⟨j, hj, e⟩ := nI_of (n_le g1.1)
      subst e
      have := g1.2
      rw [nI_leI hj (by omega)] at this
      exact ⟨j, this, rfl⟩
    have hnj : (nI j).toNatClampNeg = j := nI_clamp (by omega)
    rw [hnj]
    by_cases z : j < dd
    · rw [if_pos z, if_pos z]
      exact ⟨trivial, (rD.cp (a := 83) (by omega)).tr rDw36, stM_und hst z⟩
    · rw [if_neg z, if_neg z]
      have e : j = dd := by omega
      rw [e]
      exact ⟨trivial, rDw36, ⟨wI_self _ _ _ _, hd4, hst.2.2.1, hst.2.2.2⟩⟩
  · simp only [g1, not_false_eq_true, if_true]
    exact ⟨trivial, rD.rf M, hst⟩

set_option maxRecDepth 100000 in
theorem c_X10_keep {E : xE} {M : xMem} {s n W H B dd : Nat} {g : Nat → Nat → Nat} {S : gLay × Nat} {P : Nat → gLay × Nat} (hc : cHy M s n W H B g dd S P) {K : Nat → aKep} (hK : kpC M K) {v : Int32} : Ct E mX10_keep [.ref 1, .int v] M (xN M) (fun r m => r = some (.int (aKee n dd S P K v).1) ∧ cK M m ∧ kpC m (aKee n dd S P K v).2) := by
  have hc0 := hc
  obtain ⟨hM, hW, hs, hcu, hsh, hok, hst, hly, hru⟩ := hc
  have hp0 : 0 < s := hs.1
  have h8 : n ≤ 8 := hok.1
  have hb : lyB S.1 := (hsh.s hok).b hly
  have hl : lyC (M.1 8) S.1 := hst.2.2.1
  have hpg := pgL_le hb 8
  have hd4 : dd ≤ 40 := hst.2.1
  have h7 := xob_7 hs
  refine Ct.of (lo := [some (.ref 1), some (.int v)]) pln_X10 (Nat.le_of_ble_eq_true rfl) rfl (Nat.le_refl _) ?_
  refine px_iload_n dX10_keep_0 rfl rfl ?_
  refine px_iconst dX10_keep_1 ic_3 ?_
  refine px_fS2i dX10_keep_2 kX10_keep_84 (Nat.le_of_ble_eq_true rfl) (c_X10_isBelow) ?_
  refine px_zif_ne 10 dX10_keep_5 rfl (fun h5 => ?_) (fun h5 => ?_)
  · obtain ⟨k, hk, rfl⟩ := in_nat (n := 3) (by decide) (show 0 ≤ v ∧ v < nI 3 from h5)
    have hnk : (nI k).toNatClampNeg = k := nI_clamp (by omega)
    have hki : vp_in (nI k) 3 := vp_in_nI hk (by decide)
    refine px_aload_n dX10_keep_10 rfl rfl ?_
    refine px_fV0i dX10_keep_11 kX10_keep_141 (xol rfl) hM (Nat.le_of_ble_eq_true rfl) (c_X10_hasNoSheet hM hs hcu hp0) ?_
    refine px_top (y := zb (n = 0)) (by rw [hsh.1]; exact no_c h8) ?_
    refine px_zif_eq 20 dX10_keep_14 rfl (fun h14 => ?_) (fun h14 => ?_)
    · refine px_aload_n dX10_keep_20 rfl rfl ?_
      refine px_getR dX10_keep_21 fX10_23 (xol rfl) hM rfl (wr_10_2 hW (xol rfl)) (Nat.succ_pos _) ?_
      refine px_iload_n dX10_keep_24 rfl rfl ?_
      refine px_aald (t0 := 5) dX10_keep_25 (xal (n := 3) rfl) (by decide) (fun _ => rfl) hM hki (show M.2.1 4 (nI k).toNatClampNeg = 62 + 4 * k by rw [hnk]; exact wa_4 hW hk) (by omega) ?_
      refine px_aload_n dX10_keep_26 rfl rfl ?_
      refine px_getR dX10_keep_27 fX10_32 (xol rfl) hM rfl (wr_10_4 hW (xol rfl)) (Nat.succ_pos _) ?_
      refine px_fV1v dX10_keep_30 kX10_keep_226 (ob_kept hk) hM (Nat.le_of_ble_eq_true rfl) (c_X8_takeOver (a := 62 + 4 * k) (b := 6) (dd := dd) (ob_kept hk) (xol rfl) (by omega) hM hW hst.1 hd4) ?_
      refine px_aload_n dX10_keep_33 rfl rfl ?_
      refine px_getR dX10_keep_34 fX10_27 (xol rfl) hM rfl (wr_10_3 hW (xol rfl)) (Nat.succ_pos _) ?_
      refine px_iload_n dX10_keep_37 rfl rfl ?_
      refine px_iconst dX10_keep_38 ic_1 ?_
      refine px_zast dX10_keep_39 (xal (n := 3) rfl) hM hki ?_
      refine px_aload_n dX10_keep_40 rfl rfl ?_
      refine px_getR dX10_keep_41 fX10_32 (xol rfl) hM rfl (wr_10_4 hW (xol rfl)) (Nat.succ_pos _) ?_
      
      refine px_getI dX10_keep_44 fX10_220 (xol rfl) hM rfl ?_
      refine px_top (y := nI dd) (by rw [xI_wI, if_neg (fun z => by omega), tk_c (by omega)]; exact hst.1) ?_
      exact px_iret dX10_keep_47 rfl (by rw [show aKee n dd S P K (nI k) = (nI dd, kSet K k (dd, S, P)) from by simp only [aKee, h5, h14, hnk, not_true_eq_false, not_false_eq_true, if_true, if_false, and_self, true_and, and_true, ite_true, ite_false, reduceIte, eq_self]]; refine ⟨rfl, ⟨rfl, fun a a1 a2 => ?_⟩, ?_⟩; (funext i; rw [xI_wI, if_neg (fun z => a1 z.1), tk_c (by omega)]); (rw [hnk]; exact kp_keep hK hk hst)) (rfl)
    · refine px_bipush dX10_keep_17 bp_m4 ?_
      exact px_iret dX10_keep_19 rfl (by rw [show aKee n dd S P K (nI k) = (-4, K) from by simp only [aKee, h5, h14, not_true_eq_false, not_false_eq_true, if_true, if_false, and_self, true_and, and_true, ite_true, ite_false, reduceIte, eq_self]]; exact ⟨rfl, cK.rf M, hK⟩) (rfl)
  · refine px_iconst dX10_keep_8 ic_m1 ?_
    exact px_iret dX10_keep_9 rfl (by rw [show aKee n dd S P K v = (-1, K) from if_pos h5]; exact ⟨rfl, cK.rf M, hK⟩) (rfl)

theorem c_X11_keep2 {E : xE} {M : xMem} {n W H B dd : Nat} {g : Nat → Nat → Nat} {S : gLay × Nat} {P : Nat → gLay × Nat} (hc : rHy M n W H B g dd S P) {K : Nat → aKep} (hK : kpM M K) {v : Int32} : Ct E mX11_keep [.ref 74, .int v] M (xN M) (fun r m => r = some (.int (aKee n dd S P K v).1) ∧ rK M m ∧ kpM m (aKee n dd S P K v).2) := by
  obtain ⟨hM, hW, hsh, hok, hst, hly, hru⟩ := hc
  refine Ct.imp (c_X11_keep hM hW hst.1 hst.2.1) ?_
  rintro r m ⟨rfl, rfl⟩ -
  have h8 : n ≤ 8 := hok.1
  rw [show M.1 74 11 = nI n from hsh.1]
  have ec : (0 ≤ v ∧ v ≤ 2) ↔ (0 ≤ v ∧ v < 3) := in_l2 (n := 3) (by decide) (by decide)
  unfold aKee
  simp only [ec, n0_i h8]
  by_cases g1 : 0 ≤ v ∧ v < 3
  · simp only [g1, not_true_eq_false, if_false, and_self]
    by_cases g2 : n = 0
    · simp only [g2, if_true]; exact ⟨trivial, rK.rf M, hK⟩
    · simp only [g2, if_false]
      obtain ⟨k, hk, rfl⟩ := in_nat (n := 3) (by decide) (show 0 ≤ v ∧ v < nI 3 from g1)
      have hnk : (nI k).toNatClampNeg = k := nI_clamp (by omega)
      have hki : vp_in (nI k) 3 := vp_in_nI hk (by decide)
      rw [hnk]
      exact ⟨trivial, ⟨rfl, fun a a1 a2 => by rw [mcp_at _ _ _ _ _ a2, mcp_at _ _ _ _ _ a2]; funext i; rw [xI_wI, if_neg (fun z => a1 z.1)]⟩, mp_keep hK hk hst⟩
  · simp only [g1, not_false_eq_true, if_true]
    exact ⟨trivial, rK.rf M, hK⟩

set_option maxRecDepth 100000 in
theorem c_X10_on {E : xE} {M : xMem} {s n W H B dd : Nat} {g : Nat → Nat → Nat} {S : gLay × Nat} {P : Nat → gLay × Nat} (hc : cHy M s n W H B g dd S P) {K : Nat → aKep} (hK : kpC M K) {v : Int32} : Ct E mX10_on [.ref 1, .int v] M (xN M) (fun r m => r = some (.int (aOn dd S P K v).1) ∧ cD (oC M none (aOn dd S P K v).2.1) m ∧ stC m 6 (aOn dd S P K v).2.2.1 (aOn dd S P K v).2.2.2.1 (aOn dd S P K v).2.2.2.2) := by
  have hc0 := hc
  obtain ⟨hM, hW, hs, hcu, hsh, hok, hst, hly, hru⟩ := hc
  have hp0 : 0 < s := hs.1
  have h8 : n ≤ 8 := hok.1
  have hb : lyB S.1 := (hsh.s hok).b hly
  have hl : lyC (M.1 8) S.1 := hst.2.2.1
  have hpg := pgL_le hb 8
  have hd4 : dd ≤ 40 := hst.2.1
  have h7 := xob_7 hs
  refine Ct.of (lo := [some (.ref 1), some (.int v)]) pln_X10 (Nat.le_of_ble_eq_true rfl) rfl (Nat.le_refl _) ?_
  refine px_iload_n dX10_on_0 rfl rfl ?_
  refine px_iconst dX10_on_1 ic_3 ?_
  refine px_fS2i dX10_on_2 kX10_on_84 (Nat.le_of_ble_eq_true rfl) (c_X10_isBelow) ?_
  refine px_zif_ne 10 dX10_on_5 rfl (fun h5 => ?_) (fun h5 => ?_)
  · obtain ⟨k, hk, rfl⟩ := in_nat (n := 3) (by decide) (show 0 ≤ v ∧ v < nI 3 from h5)
    have hnk : (nI k).toNatClampNeg = k := nI_clamp (by omega)
    have hki : vp_in (nI k) 3 := vp_in_nI hk (by decide)
    refine px_aload_n dX10_on_10 rfl rfl ?_
    refine px_getR dX10_on_11 fX10_27 (xol rfl) hM rfl (wr_10_3 hW (xol rfl)) (Nat.succ_pos _) ?_
    refine px_iload_n dX10_on_14 rfl rfl ?_
    refine px_zald dX10_on_15 (xal (n := 3) rfl) hM hki ?_
    refine px_if_ne 25 dX10_on_16 rfl (fun h16 => ?_) (fun h16 => ?_)
    · obtain ⟨q, eK⟩ : ∃ q, K k = some q := by
        cases hz : K k with
        | none => rw [hnk, (hK k hk).1 hz] at h16; exact absurd rfl h16
        | some q => exact ⟨q, rfl⟩
      have hq := ((hK k hk).2 q eK).2
      refine px_aload_n dX10_on_25 rfl rfl ?_
      refine px_getR dX10_on_26 fX10_32 (xol rfl) hM rfl (wr_10_4 hW (xol rfl)) (Nat.succ_pos _) ?_
      refine px_aload_n dX10_on_29 rfl rfl ?_
      refine px_getR dX10_on_30 fX10_23 (xol rfl) hM rfl (wr_10_2 hW (xol rfl)) (Nat.succ_pos _) ?_
      refine px_iload_n dX10_on_33 rfl rfl ?_
      refine px_aald (t0 := 5) dX10_on_34 (xal (n := 3) rfl) (by decide) (fun _ => rfl) hM hki (show M.2.1 4 (nI k).toNatClampNeg = 62 + 4 * k by rw [hnk]; exact wa_4 hW hk) (by omega) ?_
      refine px_fV1v dX10_on_35 kX10_on_226 (xol rfl) hM (Nat.le_of_ble_eq_true rfl) (c_X8_takeOver (a := 6) (b := 62 + 4 * k) (dd := q.1) (xol rfl) (ob_kept hk) (by omega) hM hW hq.1 hq.2.1) ?_
      refine px_aload_n dX10_on_38 rfl rfl ?_
      refine px_getR dX10_on_39 fX10_32 (xol rfl) hM rfl (wr_10_4 hW (xol rfl)) (Nat.succ_pos _) ?_
      refine px_getI dX10_on_42 fX10_220 (xol rfl) hM rfl ?_
      refine px_top (y := nI q.1) (wI_self _ _ _ _) ?_
      exact px_iret dX10_on_45 rfl (by rw [show aOn dd S P K (nI k) = (nI q.1, none, q) from by unfold aOn; rw [if_neg (fun z => z h5), hnk, eK]; rfl]; exact ⟨rfl, cDtake M _ _, stTake_st hq⟩) (rfl)
    · have eK : K k = none := by
        cases hz : K k with
        | none => rfl
        | some q => rw [hnk, ((hK k hk).2 q hz).1] at h16; exact absurd h16 (by decide)
      refine px_aload_n dX10_on_19 rfl rfl ?_
      refine px_iconst dX10_on_20 ic_1 ?_
      refine px_fV1i dX10_on_21 kX10_on_88 (xol rfl) hM (Nat.le_of_ble_eq_true rfl) (c_X10_refuse hM hW (vp_in_nI (n := 1) (by decide) (by decide))) ?_
      exact px_iret dX10_on_24 rfl (by rw [show aOn dd S P K (nI k) = (-3, some 1, dd, S, P) from by unfold aOn; rw [if_neg (fun z => z h5), hnk, eK]; rfl]; exact ⟨rfl, cD.rf _, stC_k hst (fun b b1 b2 => by funext i; rw [xI_wI, if_neg (fun z => by omega), xI_wI, if_neg (fun z => by omega)])⟩) (rfl)
  · refine px_iconst dX10_on_8 ic_m1 ?_
    exact px_iret dX10_on_9 rfl (by rw [show aOn dd S P K v = (-1, none, dd, S, P) from if_pos h5]; exact ⟨rfl, cD.rf M, hst⟩) (rfl)

theorem c_X11_on2 {E : xE} {M : xMem} {n W H B dd : Nat} {g : Nat → Nat → Nat} {S : gLay × Nat} {P : Nat → gLay × Nat} (hc : rHy M n W H B g dd S P) {K : Nat → aKep} (hK : kpM M K) {v : Int32} : Ct E mX11_on [.ref 74, .int v] M (xN M) (fun r m => r = some (.int (aOn dd S P K v).1) ∧ rD (oR M none (aOn dd S P K v).2.1) m ∧ stM m (aOn dd S P K v).2.2.1 (aOn dd S P K v).2.2.2.1 (aOn dd S P K v).2.2.2.2) := by
  obtain ⟨hM, hW, hsh, hok, hst, hly, hru⟩ := hc
  refine Ct.imp (c_X11_on hM hW (fun k hk => ?_)) ?_
  · cases hz : K k with
    | none => exact Or.inl ((hK k hk).1 hz)
    | some q => exact Or.inr ⟨q.1, ((hK k hk).2 q hz).2.1, ((hK k hk).2 q hz).1⟩
  rintro r m ⟨rfl, rfl⟩ -
  have ec : (0 ≤ v ∧ v ≤ 2) ↔ (0 ≤ v ∧ v < 3) := in_l2 (n := 3) (by decide) (by decide)
  unfold aOn
  simp only [ec]
  by_cases g1 : 0 ≤ v ∧ v < 3
  · simp only [g1, not_true_eq_false, if_false, and_self]
    obtain ⟨k, hk, rfl⟩ := in_nat (n := 3) (by decide) (show 0 ≤ v ∧ v < nI 3 from g1)
    have hnk : (nI k).toNatClampNeg = k := nI_clamp (by omega)
    have hki : vp_in (nI k) 3 := vp_in_nI hk (by decide)
    rw [hnk]
    cases hz : K k with
    | none =>
      rw [(hK k hk).1 hz, if_pos (by decide), if_pos (by decide)]
      exact ⟨rfl, rD.rf _, stM_k hst rfl rfl rfl⟩
    | some q =>
      have hq := (hK k hk).2 q hz
      have h4 := hq.2.1
      rw [hq.1, if_neg (fun z => z (nI_le (a := 0) (by omega) (by omega))), if_neg (fun z => z (nI_le (a := 0) (by omega) (by omega))), nI_clamp (by omega)]
      exact ⟨rfl, (rDw36.tr (rD.cp (a := 83) (by omega))).tr (rD.cp (a := 90) (by omega)), stM_on hq⟩
  · simp only [g1, not_false_eq_true, if_true]
    exact ⟨trivial, rD.rf M, hst⟩
