/-! ===== loops; the class's rows and texts ===== -/
theorem px_for {P : Nat → Prop} (n : Nat) (h : ∀ i, i ≤ n → (i < n → P (i + 1)) → P i) (i : Nat) (hi : i ≤ n) : P i := by
  have : ∀ t i, i + t = n → P i := by
    intro t
    induction t with
    | zero => intro i e; exact h i (by omega) (fun q => by omega)
    | succ t ih => intro i e; exact h i (by omega) (fun _ => ih (i + 1) (by omega))
  exact this (n - i) i (by omega)
section EQ
variable {E : xE} {d : xMD} {ne pc : Nat} {lo lo' : List (Option Value)} {st st' : List Value} {M M' : xMem} {Q : Option Value → xMem → Prop}
theorem px_eq (h1 : lo = lo') (h2 : M = M') (k : PR E d ne pc lo' st M' Q) : PR E d ne pc lo st M Q := by subst h1; subst h2; exact k
theorem px_st (h1 : st = st') (k : PR E d ne pc lo st' M Q) : PR E d ne pc lo st M Q := by subst h1; exact k
end EQ
theorem wI_wF (M : xMem) (a j : Nat) (f : Nat → Int32) (v : Int32) : wI (wF M a f) a j v = wF M a (fun k => if k = j then v else f k) := by
  unfold wI wF
  congr 1
  funext b k
  by_cases hb : b = a
  · subst hb; simp
  · simp [hb]
theorem wF_wF (M : xMem) (a : Nat) (f g : Nat → Int32) : wF (wF M a f) a g = wF M a g := by
  unfold wF
  congr 1
  funext b
  by_cases hb : b = a <;> simp [hb]
theorem wF_id (M : xMem) (a : Nat) : wF M a (M.1 a) = M := by
  unfold wF
  have : (fun b => if b = a then M.1 a else M.1 b) = M.1 := by funext b; by_cases hb : b = a <;> simp [hb]
  rw [this]
theorem wI_eq (M : xMem) (a j : Nat) (v : Int32) : wI M a j v = wF M a (fun k => if k = j then v else M.1 a k) := by
  rw [← wI_wF, wF_id]
/-- refuse, tell -/
abbrev refM (M : xMem) (f : Int32) : xMem := wI (wI M 1 12 f) 31 f.toNatClampNeg (M.1 31 f.toNatClampNeg + 1)
abbrev telM (M : xMem) (v : Int32) : xMem := wI M 1 11 v
/-- a row, a text anew -/
def renM (M : xMem) (a : Nat) (n : Int32) (v : Int32) : xMem := wF (wI M a 1 n) (a + 1) (fun j => if j < n.toNatClampNeg then v else M.1 (a + 1) j)
theorem i_max0 {n : Int32} {k : Int32} (h0 : ¬ n < 0) (h1 : ¬ k < n) : (if (0 : Int32) < (if k < n then k else n) then (if k < n then k else n) else 0) = n := by
  rw [if_neg h1]
  split
  · rfl
  · rename_i h
    simp only [Int32.lt_iff_toInt_lt, ← Int32.toInt_inj, Int32.reduceToInt] at *
    omega
theorem i_idx {i n : Int32} (h0 : 0 ≤ i) (h1 : i < n) {N : Nat} (hN : n.toNatClampNeg ≤ N) : vp_in i N := by
  have e : n.toNatClampNeg = n.toInt.toNat := rfl
  have e2 : i.toNatClampNeg = i.toInt.toNat := rfl
  simp only [Int32.le_iff_toInt_le, Int32.lt_iff_toInt_lt, Int32.reduceToInt] at h0 h1
  intro h
  rcases h with h | h
  · simp only [Int32.lt_iff_toInt_lt, Int32.reduceToInt] at h; omega
  · omega
theorem i_lt {i n : Int32} (h0 : 0 ≤ i) (h1 : i < n) : i.toNatClampNeg < n.toNatClampNeg := by
  have e : n.toNatClampNeg = n.toInt.toNat := rfl
  have e2 : i.toNatClampNeg = i.toInt.toNat := rfl
  simp only [Int32.le_iff_toInt_le, Int32.lt_iff_toInt_lt, Int32.reduceToInt] at h0 h1
  omega
theorem i_cl {n : Int32} (h0 : ¬ n < 0) : nI n.toNatClampNeg = n := by
  rcases nI_of h0 with ⟨j, hj, rfl⟩
  rw [nI_clamp hj]
theorem i_b {n k : Int32} (h1 : ¬ k < n) : n.toNatClampNeg ≤ k.toNatClampNeg := by
  have e : n.toNatClampNeg = n.toInt.toNat := rfl
  have e2 : k.toNatClampNeg = k.toInt.toNat := rfl
  simp only [Int32.lt_iff_toInt_lt] at h1
  omega
theorem i_n0 {i : Int32} (h : 0 ≤ i) : ¬ i < 0 := by
  simp only [Int32.le_iff_toInt_le, Int32.lt_iff_toInt_lt] at *; omega

theorem l_X5_renew {E : xE} {M : xMem} {a : Nat} {n : Int32} (ha : xob a 5) (hM : xNT ≤ xN M) (hW : xWire M.2.1) (h0 : ¬ n < 0) (h1 : ¬ 40 < n) : PR E mX5_renew (xN M) 16 [some (.ref a), some (.int n), some (.int (nI 0))] [] (wI M a 1 n) (fun r m => r = none ∧ m = renM M a n 0) := by
  have hn : n.toNatClampNeg ≤ 40 := i_b h1
  have hn31 : n.toNatClampNeg < 2 ^ 31 := by omega
  obtain ⟨N, hN⟩ : ∃ N, N = n.toNatClampNeg := ⟨_, rfl⟩
  have hnN : n = nI N := by rw [hN, i_cl h0]
  have i_hin : ∀ {i : Nat}, i < N → vp_in (nI i) 40 := fun h => vp_in_nI (by omega) (by omega)
  have key := px_for (P := fun i => PR E mX5_renew (xN M) 16 [some (.ref a), some (.int n), some (.int (nI i))] [] (wF (wI M a 1 n) (a + 1) (fun j => if j < i then 0 else M.1 (a + 1) j)) (fun r m => r = none ∧ m = renM M a n 0)) N (fun i hi nx => ?_) 0 (Nat.zero_le _)
  · have e : wF (wI M a 1 n) (a + 1) (fun j => if j < 0 then 0 else M.1 (a + 1) j) = wI M a 1 n := by
      have : (fun j => if j < 0 then (0 : Int32) else M.1 (a + 1) j) = (wI M a 1 n).1 (a + 1) := by
        funext j; rw [xI_wI, if_neg (by omega), if_neg (by omega)]
      rw [this, wF_id]
    rw [e] at key
    exact key
  have er : (wF (wI M a 1 n) (a + 1) (fun j => if j < i then (0 : Int32) else M.1 (a + 1) j)).1 a 1 = n := by
    rw [xI_wF, if_neg (by omega), xI_wI, if_pos ⟨rfl, rfl⟩]
  refine px_iload_n dX5_renew_16 rfl rfl ?_
  refine px_aload_n dX5_renew_17 rfl rfl ?_
  refine px_getI dX5_renew_18 fX5_15 ha hM rfl ?_
  refine px_top er ?_
  refine px_icmp_ge 37 dX5_renew_21 rfl (fun h => ?_) (fun h => ?_)
  · have hi2 : i = N := by rw [hnN, nI_leI (by omega) (by omega)] at h; omega
    exact px_ret dX5_renew_37 rfl ⟨rfl, by unfold renM; rw [hi2, hN]⟩ rfl
  · have hlt : i < N := by rw [hnN, nI_leI (by omega) (by omega)] at h; omega
    refine px_aload_n dX5_renew_24 rfl rfl ?_
    refine px_getR dX5_renew_25 fX5_9 ha hM rfl (wr_5_0 hW ha) (Nat.succ_pos _) ?_
    refine px_iload_n dX5_renew_28 rfl rfl ?_
    refine px_iconst dX5_renew_29 ic_0 ?_
    refine px_iast dX5_renew_30 (ar_5 ha) hM (i_hin hlt) ?_
    refine px_inc_2 dX5_renew_31 rfl ic_1 ?_
    refine px_goto 16 dX5_renew_34 rfl ?_
    refine px_eq (by rw [nI_1]) ?_ (nx hlt)
    rw [wI_wF]
    congr 1
    funext k
    rw [nI_clamp (by omega)]
    by_cases hk : k = i
    · subst hk; rw [if_pos rfl, if_pos (by omega)]
    · rw [if_neg hk]
      by_cases hk2 : k < i
      · rw [if_pos hk2, if_pos (by omega)]
      · rw [if_neg hk2, if_neg (by omega)]

set_option maxRecDepth 100000 in
theorem c_X5_renew {E : xE} {M : xMem} {a : Nat} {n : Int32} (ha : xob a 5) (hM : xNT ≤ xN M) (hW : xWire M.2.1) (h0 : ¬ n < 0) (h1 : ¬ 40 < n) : Cf E mX5_renew [.ref a, .int n] M none (renM M a n 0) := by
  refine Ct.of (lo := [some (.ref a), some (.int n), none]) pln_X5 (Nat.le_of_ble_eq_true rfl) rfl (Nat.le_refl _) ?_
  refine px_aload_n dX5_renew_0 rfl rfl ?_
  refine px_iconst dX5_renew_1 ic_0 ?_
  refine px_iload_n dX5_renew_2 rfl rfl ?_
  refine px_bipush dX5_renew_3 bp_40 ?_
  refine px_min dX5_renew_5 kX5_renew_19 (Nat.le_of_ble_eq_true rfl) ?_
  refine px_max dX5_renew_8 kX5_renew_25 (Nat.le_of_ble_eq_true rfl) ?_
  refine px_top (i_max0 h0 h1) ?_
  refine px_putI dX5_renew_11 fX5_15 p5_1 ha hM rfl ?_
  refine px_iconst dX5_renew_14 ic_0 ?_
  refine px_si_2 dX5_renew_15 rfl ?_
  exact l_X5_renew ha hM hW h0 h1

theorem l_X9_renew {E : xE} {M : xMem} {a : Nat} {n : Int32} (ha : xob a 9) (hM : xNT ≤ xN M) (hW : xWire M.2.1) (h0 : ¬ n < 0) (h1 : ¬ 120 < n) : PR E mX9_renew (xN M) 16 [some (.ref a), some (.int n), some (.int (nI 0))] [] (wI M a 1 n) (fun r m => r = none ∧ m = renM M a n 32) := by
  have hn : n.toNatClampNeg ≤ 120 := i_b h1
  have hn31 : n.toNatClampNeg < 2 ^ 31 := by omega
  obtain ⟨N, hN⟩ : ∃ N, N = n.toNatClampNeg := ⟨_, rfl⟩
  have hnN : n = nI N := by rw [hN, i_cl h0]
  have i_hin : ∀ {i : Nat}, i < N → vp_in (nI i) 120 := fun h => vp_in_nI (by omega) (by omega)
  have key := px_for (P := fun i => PR E mX9_renew (xN M) 16 [some (.ref a), some (.int n), some (.int (nI i))] [] (wF (wI M a 1 n) (a + 1) (fun j => if j < i then 32 else M.1 (a + 1) j)) (fun r m => r = none ∧ m = renM M a n 32)) N (fun i hi nx => ?_) 0 (Nat.zero_le _)
  · have e : wF (wI M a 1 n) (a + 1) (fun j => if j < 0 then 32 else M.1 (a + 1) j) = wI M a 1 n := by
      have : (fun j => if j < 0 then (32 : Int32) else M.1 (a + 1) j) = (wI M a 1 n).1 (a + 1) := by
        funext j; rw [xI_wI, if_neg (by omega), if_neg (by omega)]
      rw [this, wF_id]
    rw [e] at key
    exact key
  have er : (wF (wI M a 1 n) (a + 1) (fun j => if j < i then (32 : Int32) else M.1 (a + 1) j)).1 a 1 = n := by
    rw [xI_wF, if_neg (by omega), xI_wI, if_pos ⟨rfl, rfl⟩]
  refine px_iload_n dX9_renew_16 rfl rfl ?_
  refine px_aload_n dX9_renew_17 rfl rfl ?_
  refine px_getI dX9_renew_18 fX9_15 ha hM rfl ?_
  refine px_top er ?_
  refine px_icmp_ge 38 dX9_renew_21 rfl (fun h => ?_) (fun h => ?_)
  · have hi2 : i = N := by rw [hnN, nI_leI (by omega) (by omega)] at h; omega
    exact px_ret dX9_renew_38 rfl ⟨rfl, by unfold renM; rw [hi2, hN]⟩ rfl
  · have hlt : i < N := by rw [hnN, nI_leI (by omega) (by omega)] at h; omega
    refine px_aload_n dX9_renew_24 rfl rfl ?_
    refine px_getR dX9_renew_25 fX9_9 ha hM rfl (wr_9_0 hW ha) (Nat.succ_pos _) ?_
    refine px_iload_n dX9_renew_28 rfl rfl ?_
    refine px_bipush dX9_renew_29 bp_32 ?_
    refine px_bast dX9_renew_31 (ar_9 ha) hM (i_hin hlt) ?_
    refine px_inc_2 dX9_renew_32 rfl ic_1 ?_
    refine px_goto 16 dX9_renew_35 rfl ?_
    refine px_eq (by rw [nI_1]) ?_ (nx hlt)
    rw [wI_wF]
    congr 1
    funext k
    rw [nI_clamp (by omega)]
    by_cases hk : k = i
    · subst hk; rw [if_pos rfl, if_pos (by omega)]; rfl
    · rw [if_neg hk]
      by_cases hk2 : k < i
      · rw [if_pos hk2, if_pos (by omega)]
      · rw [if_neg hk2, if_neg (by omega)]

set_option maxRecDepth 100000 in
theorem c_X9_renew {E : xE} {M : xMem} {a : Nat} {n : Int32} (ha : xob a 9) (hM : xNT ≤ xN M) (hW : xWire M.2.1) (h0 : ¬ n < 0) (h1 : ¬ 120 < n) : Cf E mX9_renew [.ref a, .int n] M none (renM M a n 32) := by
  refine Ct.of (lo := [some (.ref a), some (.int n), none]) pln_X9 (Nat.le_of_ble_eq_true rfl) rfl (Nat.le_refl _) ?_
  refine px_aload_n dX9_renew_0 rfl rfl ?_
  refine px_iconst dX9_renew_1 ic_0 ?_
  refine px_iload_n dX9_renew_2 rfl rfl ?_
  refine px_bipush dX9_renew_3 bp_120 ?_
  refine px_min dX9_renew_5 kX9_renew_19 (Nat.le_of_ble_eq_true rfl) ?_
  refine px_max dX9_renew_8 kX9_renew_25 (Nat.le_of_ble_eq_true rfl) ?_
  refine px_top (i_max0 h0 h1) ?_
  refine px_putI dX9_renew_11 fX9_15 p9_1 ha hM rfl ?_
  refine px_iconst dX9_renew_14 ic_0 ?_
  refine px_si_2 dX9_renew_15 rfl ?_
  exact l_X9_renew ha hM hW h0 h1
