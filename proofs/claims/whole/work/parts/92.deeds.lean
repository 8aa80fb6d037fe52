/-! ===== steps: deeds, keep, on ===== -/
theorem kpC_k {M m : xMem} {K : Nat → aKep} (h : kpC M K) (e : ∀ a, a = 5 ∨ (62 ≤ a ∧ a ≤ 73) → m.1 a = M.1 a) : kpC m K := fun k hk3 => ⟨fun z => by rw [e 5 (by omega)]; exact (h k hk3).1 z, fun q hq => ⟨by rw [e 5 (by omega)]; exact ((h k hk3).2 q hq).1, stC_k ((h k hk3).2 q hq).2 (fun b b1 b2 => e b (by omega))⟩⟩
theorem szOK_k {M m : xMem} (h : szOK M) (e : ∀ a, 42 ≤ a → a ≤ 61 → m.1 a = M.1 a) : szOK m := ⟨fun r hr => by rw [e (42 + 2 * r) (by omega) (by omega)]; exact h.1 r hr, fun t ht => by rw [e (54 + 2 * t) (by omega) (by omega)]; exact h.2 t ht⟩
theorem kpM_k {M m : xMem} {K : Nat → aKep} (h : kpM M K) (e1 : m.1 91 = M.1 91) (e2 : m.1 92 = M.1 92) : kpM m K := by
  unfold kpM ktM at h ⊢
  rw [e1, e2]
  exact h
theorem cIn_u {M m : xMem} {s d n W H B dd : Nat} {g : Nat → Nat → Nat} {S : gLay × Nat} {P : Nat → gLay × Nat} {K : Nat → aKep} {dd2 : Nat} {S2 : gLay × Nat} {P2 : Nat → gLay × Nat} {K2 : Nat → aKep} (h : cIn M s d n W H B g dd S P K) (e : ∀ a, s ≤ a → a ≤ s + 9 → m.1 a = M.1 a) (h2 : m.2.1 = M.2.1) (hn : m.2.2.2 = M.2.2.2) (hst : stC m 6 dd2 S2 P2) (hl : okL n W H B g S2) (hk : kpC m K2) (hz : szOK m) : cIn m s d n W H B g dd2 S2 P2 K2 := by
  obtain ⟨⟨hM, hW, hs, hcu, hsh, hok, _, _, _⟩, hd, hdr, hne, _, _⟩ := h
  exact ⟨⟨by show xNT ≤ m.2.2.2; rw [hn]; exact hM, by rw [h2]; exact hW, hs, by rw [h2]; exact hcu, cSh_k hsh (fun a ha => e a (by unfold shX at ha; omega) (by unfold shX at ha; omega)) hok.1, hok, hst, hl.1, hl.2⟩, hd, by rw [h2]; exact hdr, hne, hk, hz⟩
theorem rIn_u {M m : xMem} {n W H B dd : Nat} {g : Nat → Nat → Nat} {S : gLay × Nat} {P : Nat → gLay × Nat} {K : Nat → aKep} {dd2 : Nat} {S2 : gLay × Nat} {P2 : Nat → gLay × Nat} {K2 : Nat → aKep} (h : rIn M n W H B g dd S P K) (e1 : m.1 81 = M.1 81) (e4 : ∀ k, 8 ≤ k → k ≤ 11 → m.1 74 k = M.1 74 k) (h2 : m.2.1 = M.2.1) (hn : m.2.2.2 = M.2.2.2) (hst : stM m dd2 S2 P2) (hl : okL n W H B g S2) (hk : kpM m K2) (hz : mszOK m) : rIn m n W H B g dd2 S2 P2 K2 := by
  obtain ⟨⟨hM, hW, hsh, hok, _, _, _⟩, _, _⟩ := h
  exact ⟨⟨by show xNT ≤ m.2.2.2; rw [hn]; exact hM, by rw [h2]; exact hW, mSh_k hsh e1 e4, hok, hst, hl.1, hl.2⟩, hk, hz⟩
theorem stp_d {E : xE} {dC dR : xMD} {as : List Value} {M : xMem} {s d n W H B dd : Nat} {g : Nat → Nat → Nat} {S : gLay × Nat} {P : Nat → gLay × Nat} {K : Nat → aKep} (hc : cIn M s d n W H B g dd S P K) (hr : rIn M n W H B g dd S P K) (ho : okA n W H B g dd P K) (hp : cpl M) {v : Int32} {y : Option Int32} {dd2 : Nat} {S2 : gLay × Nat} {P2 : Nat → gLay × Nat} (hok : okL n W H B g S2 ∧ ∀ i, i < dd2 → okL n W H B g (P2 i)) (h1 : Ct E dC (.ref 1 :: as) M (xN M) (fun r m => r = some (.int v) ∧ cD (oC M none y) m ∧ stC m 6 dd2 S2 P2)) (h2 : ∀ m, rIn m n W H B g dd S P K → Ct E dR (.ref 74 :: as) m (xN m) (fun r m' => r = some (.int v) ∧ rD (oR m none y) m' ∧ stM m' dd2 S2 P2)) : Stq E dC dR as M := by
  have h7 := xob_7 hc.1.2.2.1
  refine h1.imp (fun r m hq _ => ?_)
  obtain ⟨e0, hd, hst⟩ := hq
  have w : m.2 = M.2 := by rw [hd.1, oC_2]
  have u : ∀ a, a ≠ 1 → a ≠ 31 → (a < 6 ∨ 9 < a) → (a < 25 ∨ 30 < a) → m.1 a = M.1 a := fun a a1 a2 a3 a4 => by rw [hd.2 a a3 a4, oC_1 M none y a1 a2]
  have hc1 : cIn m s d n W H B g dd2 S2 P2 K := cIn_u hc (fun a a1 a2 => u a (by omega) (by omega) (by omega) (by omega)) (by rw [w]) (by rw [w]) hst hok.1 (kpC_k hc.2.2.2.2.1 (fun a ha => u a (by omega) (by omega) (by omega) (by omega))) (szOK_k hc.2.2.2.2.2 (fun a a1 a2 => u a (by omega) (by omega) (by omega) (by omega)))
  have hr1 : rIn m n W H B g dd S P K := rIn_k (fun a ha => u a (by omega) (by omega) (by omega) (by omega)) (by show xNT ≤ m.2.2.2; rw [w]; exact hr.1.1) (by rw [w]; exact hr.1.2.1) hr
  refine ⟨v, e0, (h2 m hr1).imp (fun r' m' hq' _ => ?_)⟩
  obtain ⟨e0', hd', hst'⟩ := hq'
  have w' : m'.2 = m.2 := by rw [hd'.1, oR_2]
  have u' : ∀ a, a ≠ 74 → a ≠ 75 → a ≠ 83 → (a < 85 ∨ 90 < a) → m'.1 a = m.1 a := fun a a1 a2 a3 a4 => by rw [hd'.2.1 a a1 a3 a4, oR_1 m none y a1 a2]
  have u4 : ∀ k, 2 ≤ k → k ≤ 11 → m'.1 74 k = m.1 74 k := fun k k1 k2 => by rw [hd'.2.2 k (by omega) (by omega) (by omega), oR_74 m none y k1]
  refine ⟨e0', s, d, n, W, H, B, g, dd2, S2, P2, K, cIn_k (fun a ha => u' a (by omega) (by omega) (by omega) (by omega)) (by rw [w']) (by rw [w']) hc1, Or.inl (rIn_u hr1 (u' 81 (by decide) (by decide) (by decide) (by decide)) (fun k k1 k2 => u4 k (by omega) k2) (by rw [w']) (by rw [w']) hst' hok.1 (kpM_k hr1.2.1 (u' 91 (by decide) (by decide) (by decide) (by decide)) (u' 92 (by decide) (by decide) (by decide) (by decide))) (mszOK_k hr1.2.2 (u' 76 (by decide) (by decide) (by decide) (by decide)) (u' 79 (by decide) (by decide) (by decide) (by decide)))), ⟨hok.2, ho.2⟩, ?_⟩
  refine cpl_q (x := none) (y := y) hp (fun a ha => hd.2 a (by omega) (by omega)) (fun a ha => hd'.2.1 a (by omega) (by omega) (by omega)) (fun k hk => hd'.2.2 k (by omega) (by omega) (by omega))
theorem okL_z (n W H B : Nat) (g : Nat → Nat → Nat) : okL n W H B g (fun _ => none, 0) := ⟨lyOK_none n W H (aA B g) (aD B g), by decide⟩
theorem stp_dz {E : xE} {dC dR : xMD} {as : List Value} {M : xMem} {s d : Nat} {g : Nat → Nat → Nat} {P P2 : Nat → gLay × Nat} (hc : cIn M s d 0 0 0 0 g 0 (fun _ => none, 0) P (fun _ => none)) (hz : zIn M) (hp : cpl M) {v : Int32} {y : Option Int32} (h1 : Ct E dC (.ref 1 :: as) M (xN M) (fun r m => r = some (.int v) ∧ cD (oC M none y) m ∧ stC m 6 0 (fun _ => none, 0) P2)) (h2 : ∀ m, zIn m → Ct E dR (.ref 74 :: as) m (xN m) (fun r m' => r = some (.int v) ∧ rD (oR m none y) m' ∧ zIn m')) : Stq E dC dR as M := by
  have h7 := xob_7 hc.1.2.2.1
  refine h1.imp (fun r m hq _ => ?_)
  obtain ⟨e0, hd, hst⟩ := hq
  have w : m.2 = M.2 := by rw [hd.1, oC_2]
  have u : ∀ a, a ≠ 1 → a ≠ 31 → (a < 6 ∨ 9 < a) → (a < 25 ∨ 30 < a) → m.1 a = M.1 a := fun a a1 a2 a3 a4 => by rw [hd.2 a a3 a4, oC_1 M none y a1 a2]
  have hc1 : cIn m s d 0 0 0 0 g 0 (fun _ => none, 0) P2 (fun _ => none) := cIn_u hc (fun a a1 a2 => u a (by omega) (by omega) (by omega) (by omega)) (by rw [w]) (by rw [w]) hst (okL_z 0 0 0 0 g) (kpC_k hc.2.2.2.2.1 (fun a ha => u a (by omega) (by omega) (by omega) (by omega))) (szOK_k hc.2.2.2.2.2 (fun a a1 a2 => u a (by omega) (by omega) (by omega) (by omega)))
  have u7 : ∀ a, 74 ≤ a → m.1 a = M.1 a := fun a ha => u a (by omega) (by omega) (by omega) (by omega)
  have hz1 : zIn m := zIn_m (u7 91 (by decide)) (by rw [u7 83 (by decide)]) (fun k _ => by rw [u7 74 (by decide)]) (by rw [w]; exact hz.2.1) (by rw [w]) (mszOK_k hz.2.2.2.2.2.2 (u7 76 (by decide)) (u7 79 (by decide))) hz
  refine ⟨v, e0, (h2 m hz1).imp (fun r' m' hq' _ => ?_)⟩
  obtain ⟨e0', hd', hz'⟩ := hq'
  have w' : m'.2 = m.2 := by rw [hd'.1, oR_2]
  have u' : ∀ a, a ≠ 74 → a ≠ 75 → a ≠ 83 → (a < 85 ∨ 90 < a) → m'.1 a = m.1 a := fun a a1 a2 a3 a4 => by rw [hd'.2.1 a a1 a3 a4, oR_1 m none y a1 a2]
  refine ⟨e0', s, d, 0, 0, 0, 0, g, 0, (fun _ => none, 0), P2, (fun _ => none), cIn_k (fun a ha => u' a (by omega) (by omega) (by omega) (by omega)) (by rw [w']) (by rw [w']) hc1, Or.inr ⟨hz', rfl, rfl, rfl, rfl, rfl, rfl, rfl⟩, ⟨fun i hi => absurd hi (Nat.not_lt_zero _), fun k q _ e => by cases e⟩, ?_⟩
  exact cpl_q (x := none) (y := y) hp (fun a ha => hd.2 a (by omega) (by omega)) (fun a ha => hd'.2.1 a (by omega) (by omega) (by omega)) (fun k hk => hd'.2.2 k (by omega) (by omega) (by omega))
theorem CfD {E : xE} {d : xMD} {a : List Value} {M : xMem} {r : Option Value} (hz : zIn M) (h : Cf E d a M r M) : Ct E d a M (xN M) (fun r' m => r' = r ∧ rD (oR M none none) m ∧ zIn m) := Ct.imp h (fun r' m q _ => ⟨q.1, by rw [q.2]; exact ⟨rD.rf _, hz⟩⟩)
def okT (n W H B : Nat) (g : Nat → Nat → Nat) (q : aDeed) : Prop := okL n W H B g q.2.2.1 ∧ ∀ i, i < q.2.1 → okL n W H B g (q.2.2.2 i)
theorem okT_p {n W H B dd : Nat} {g : Nat → Nat → Nat} {S : gLay × Nat} {P : Nat → gLay × Nat} {S2 : gLay × Nat} {v : Int32} (h : okL n W H B g S) (hP : ∀ i, i < dd → okL n W H B g (P i)) (h' : okL n W H B g S2) : okT n W H B g (v, dd + 1, S2, psh P dd S) := by
  refine ⟨h', fun i hi => ?_⟩
  have hi' : i < dd + 1 := hi
  show okL n W H B g (psh P dd S i)
  by_cases e : i = dd
  · rw [e, psh_s]; exact h
  · rw [psh_o e]; exact hP i (by omega)
theorem aT_le (g : Nat → Nat → Nat) (f : Nat) : aT g f ≤ 2 := by
  unfold aT; split <;> omega
theorem okT_set {n W H B dd : Nat} {g : Nat → Nat → Nat} {S : gLay × Nat} {P : Nat → gLay × Nat} (ho : okSh n W H B g) (h : okL n W H B g S) (hP : ∀ i, i < dd → okL n W H B g (P i)) (v : Int32) : okT n W H B g (aSet n W H (aA B g) (aD B g) (aT g) dd S P v) := by
  unfold aSet
  by_cases h1 : ¬ (0 ≤ v ∧ v < nI n)
  · rw [if_pos h1]; exact ⟨h, hP⟩
  · rw [if_neg h1]
    by_cases h2 : ¬ S.1 v.toNatClampNeg = none
    · rw [if_pos h2]; exact ⟨h, hP⟩
    · rw [if_neg h2]
      have h8 := ho.1
      obtain ⟨f, hf, rfl⟩ := in_nat (by omega) (Classical.not_not.mp h1)
      rw [nI_clamp (by omega)]
      have k : okL n W H B g (setG S.2 W H (aA B g) (aD B g) (aT g f) f S.1, S.2) := ⟨setG_ok h.1 hf (aT_le g f) ho.2.1 ho.2.2.1, h.2⟩
      unfold setG at k
      cases e : spG S.2 W H (aA B g) (aD B g) (aT g f) f S.1 with
      | none => exact ⟨h, hP⟩
      | some q =>
        rw [e] at k
        by_cases h4 : dd = 40
        · simp only [dSt, if_pos h4]; exact ⟨h, hP⟩
        · simp only [dSt, if_neg h4]; exact okT_p h hP k
theorem okT_lft {n W H B dd : Nat} {g : Nat → Nat → Nat} {S : gLay × Nat} {P : Nat → gLay × Nat} (h : okL n W H B g S) (hP : ∀ i, i < dd → okL n W H B g (P i)) (v : Int32) : okT n W H B g (aLft n dd S P v) := by
  unfold aLft
  split
  · exact ⟨h, hP⟩
  · split
    · exact ⟨h, hP⟩
    · split
      · exact ⟨h, hP⟩
      · exact okT_p h hP ⟨uly_none h.1, h.2⟩
theorem okT_all {n W H B dd : Nat} {g : Nat → Nat → Nat} {S : gLay × Nat} {P : Nat → gLay × Nat} (ho : okSh n W H B g) (h : okL n W H B g S) (hP : ∀ i, i < dd → okL n W H B g (P i)) (v : Int32) : okT n W H B g (aAll n W H (aA B g) (aD B g) (aT g) dd S P v) := by
  unfold aAll
  split
  · exact ⟨h, hP⟩
  · split
    · exact ⟨h, hP⟩
    · split
      · exact ⟨h, hP⟩
      · exact okT_p h hP ⟨allG_ok (fun f _ => aT_le g f) ho.2.1 ho.2.2.1, h.2⟩
theorem okT_rul {n W H B dd : Nat} {g : Nat → Nat → Nat} {S : gLay × Nat} {P : Nat → gLay × Nat} (h : okL n W H B g S) (hP : ∀ i, i < dd → okL n W H B g (P i)) (v : Int32) : okT n W H B g (aRul n dd S P v) := by
  unfold aRul
  by_cases h1 : ¬ (0 ≤ v ∧ v < 4)
  · rw [if_pos h1]; exact ⟨h, hP⟩
  · rw [if_neg h1]
    split
    · exact ⟨h, hP⟩
    · split
      · exact ⟨h, hP⟩
      · split
        · exact ⟨h, hP⟩
        · exact okT_p h hP ⟨h.1, r_lt (k := 4) rfl (Classical.not_not.mp h1)⟩
theorem okT_und {n W H B dd : Nat} {g : Nat → Nat → Nat} {S : gLay × Nat} {P : Nat → gLay × Nat} (hd : dd ≤ 40) (h : okL n W H B g S) (hP : ∀ i, i < dd → okL n W H B g (P i)) (v : Int32) : okT n W H B g (aUnd dd S P v) := by
  unfold aUnd
  by_cases h1 : ¬ (0 ≤ v ∧ v ≤ nI dd)
  · rw [if_pos h1]; exact ⟨h, hP⟩
  · rw [if_neg h1]
    have h1' := Classical.not_not.mp h1
    have hv : v.toNatClampNeg ≤ dd := by
      have e := i_cl (i_n0 h1'.1)
      have h2 := h1'.2
      rw [← e] at h2
      exact (nI_leI (by have : v.toNatClampNeg = v.toInt.toNat := rfl
                        have := v.toInt_lt
                        omega) (by omega)).mp h2
    refine ⟨?_, fun i hi => hP i (Nat.lt_of_lt_of_le hi hv)⟩
    show okL n W H B g (if v.toNatClampNeg < dd then P v.toNatClampNeg else S)
    split
    · exact hP _ (by assumption)
    · exact h
theorem ltP_ok {n W H B dd : Nat} {g : Nat → Nat → Nat} {S : gLay × Nat} {P : Nat → gLay × Nat} (hn0 : ¬ n = 0) (ho : okSh n W H B g) (h : okL n W H B g S) (hP : ∀ i, i < dd → okL n W H B g (P i)) (sd : Nat) : ∀ k i, i < dd + k → okL n W H B g (ltP n W H (aA B g) (aD B g) (aT g) sd dd S P k i)
  | 0, i, hi => hP i hi
  | k + 1, i, hi => by
    rw [ltP]
    by_cases e : i = dd + k
    · rw [e, psh_s]; exact ltS_ok hn0 (fun f _ => aT_le g f) ho.2.1 ho.2.2.1 sd h k
    · rw [psh_o e]; exact ltP_ok hn0 ho h hP sd k i (by omega)
theorem okT_lot {n W H B dd : Nat} {g : Nat → Nat → Nat} {S : gLay × Nat} {P : Nat → gLay × Nat} (ho : okSh n W H B g) (h : okL n W H B g S) (hP : ∀ i, i < dd → okL n W H B g (P i)) (v w : Int32) : okT n W H B g (aLot n W H (aA B g) (aD B g) (aT g) dd S P v w) := by
  unfold aLot
  split
  · exact ⟨h, hP⟩
  · split
    · exact ⟨h, hP⟩
    · split
      · exact ⟨h, hP⟩
      · rename_i hn0
        split
        · exact ⟨h, hP⟩
        · exact ⟨ltS_ok hn0 (fun f _ => aT_le g f) ho.2.1 ho.2.2.1 _ h _, fun i hi => ltP_ok hn0 ho h hP _ _ i hi⟩
theorem st_set {E : xE} {M : xMem} (h : InvJ M) (v0 : Int32) : Stq E mX10_set mX11_set [.int v0] M := by
  obtain ⟨s, d, n, W, H, B, g, dd, S, P, K, hc, hr, ho, hp⟩ := h
  rcases hr with hr | ⟨hz, rfl, rfl, rfl, rfl, rfl, rfl, rfl⟩
  · exact stp_d (y := none) hc hr ho hp (okT_set hc.1.2.2.2.2.2.1 ⟨hc.1.2.2.2.2.2.2.2.1, hc.1.2.2.2.2.2.2.2.2⟩ ho.1 v0) (c_X10_set hc.1) (fun m hr2 => c_X11_set hr2.1)
  · have q := c_X10_set (E := E) (v := v0) hc.1
    have e : aSet 0 0 0 (aA 0 g) (aD 0 g) (aT g) 0 (fun _ => none, 0) P v0 = (-1, 0, (fun _ => none, 0), P) := if_pos z_lt
    rw [e] at q
    exact stp_dz (y := none) hc hz hp q (fun m hz2 => CfD hz2 (z_set hz2.1 hz2.2.1 hz2.2.2.1.2.2.2))
theorem st_lift {E : xE} {M : xMem} (h : InvJ M) (v0 : Int32) : Stq E mX10_lift mX11_lift [.int v0] M := by
  obtain ⟨s, d, n, W, H, B, g, dd, S, P, K, hc, hr, ho, hp⟩ := h
  rcases hr with hr | ⟨hz, rfl, rfl, rfl, rfl, rfl, rfl, rfl⟩
  · exact stp_d (y := none) hc hr ho hp (okT_lft ⟨hc.1.2.2.2.2.2.2.2.1, hc.1.2.2.2.2.2.2.2.2⟩ ho.1 v0) (c_X10_lift hc.1) (fun m hr2 => c_X11_lift hr2.1)
  · have q := c_X10_lift (E := E) (v := v0) hc.1
    have e : aLft 0 0 (fun _ => none, 0) P v0 = (-1, 0, (fun _ => none, 0), P) := if_pos z_lt
    rw [e] at q
    exact stp_dz (y := none) hc hz hp q (fun m hz2 => CfD hz2 (z_lift hz2.1 hz2.2.1 hz2.2.2.1.2.2.2))
theorem st_all {E : xE} {M : xMem} (h : InvJ M) (v0 : Int32) : Stq E mX10_all mX11_all [.int v0] M := by
  obtain ⟨s, d, n, W, H, B, g, dd, S, P, K, hc, hr, ho, hp⟩ := h
  rcases hr with hr | ⟨hz, rfl, rfl, rfl, rfl, rfl, rfl, rfl⟩
  · exact stp_d (y := none) hc hr ho hp (okT_all hc.1.2.2.2.2.2.1 ⟨hc.1.2.2.2.2.2.2.2.1, hc.1.2.2.2.2.2.2.2.2⟩ ho.1 v0) (c_X10_all hc.1) (fun m hr2 => c_X11_all hr2.1)
  · have q := c_X10_all (E := E) (v := v0) hc.1
    have e : aAll 0 0 0 (aA 0 g) (aD 0 g) (aT g) 0 (fun _ => none, 0) P v0 = (-1, 0, (fun _ => none, 0), P) := by
      unfold aAll
      split
      · rfl
      · rw [if_pos rfl]
    rw [e] at q
    exact stp_dz (y := none) hc hz hp q (fun m hz2 => CfD hz2 (z_all hz2.1 hz2.2.1 hz2.2.2.1.2.2.2))
theorem st_rule {E : xE} {M : xMem} (h : InvJ M) (v0 : Int32) : Stq E mX10_rule mX11_rule [.int v0] M := by
  obtain ⟨s, d, n, W, H, B, g, dd, S, P, K, hc, hr, ho, hp⟩ := h
  rcases hr with hr | ⟨hz, rfl, rfl, rfl, rfl, rfl, rfl, rfl⟩
  · exact stp_d (y := none) hc hr ho hp (okT_rul ⟨hc.1.2.2.2.2.2.2.2.1, hc.1.2.2.2.2.2.2.2.2⟩ ho.1 v0) (c_X10_rule hc.1) (fun m hr2 => c_X11_rule hr2.1)
  · have q := c_X10_rule (E := E) (v := v0) hc.1
    have hR : (0 ≤ v0 ∧ v0 ≤ 3) ↔ (0 ≤ v0 ∧ v0 < 4) := in_l2 (n := 4) (c := 3) (by decide) rfl
    have q2 := fun (m : xMem) (hz2 : zIn m) => z_rule (v0 := v0) (E := E) (M := m) hz2.1 hz2.2.1 hz2.2.2.1.2.2.2
    by_cases c0 : ¬ (0 ≤ v0 ∧ v0 < 4)
    · have e : aRul 0 0 (fun _ => none, 0) P v0 = (-1, 0, (fun _ => none, 0), P) := by unfold aRul; rw [if_pos c0]
      rw [e] at q
      refine stp_dz (y := none) hc hz hp q (fun m hz2 => CfD hz2 ?_)
      have q3 := q2 m hz2
      simp only [hR, if_pos c0] at q3
      exact q3
    · have e : aRul 0 0 (fun _ => none, 0) P v0 = (-4, 0, (fun _ => none, 0), P) := by unfold aRul; rw [if_neg c0, if_pos rfl]
      rw [e] at q
      refine stp_dz (y := none) hc hz hp q (fun m hz2 => CfD hz2 ?_)
      have q3 := q2 m hz2
      simp only [hR, if_neg c0] at q3
      exact q3
theorem st_lots {E : xE} {M : xMem} (h : InvJ M) (v0 v1 : Int32) : Stq E mX10_lots mX11_lots [.int v0, .int v1] M := by
  obtain ⟨s, d, n, W, H, B, g, dd, S, P, K, hc, hr, ho, hp⟩ := h
  rcases hr with hr | ⟨hz, rfl, rfl, rfl, rfl, rfl, rfl, rfl⟩
  · exact stp_d (y := none) hc hr ho hp (okT_lot hc.1.2.2.2.2.2.1 ⟨hc.1.2.2.2.2.2.2.2.1, hc.1.2.2.2.2.2.2.2.2⟩ ho.1 v0 v1) (c_X10_lots hc.1) (fun m hr2 => c_X11_lots hr2.1)
  · have q := c_X10_lots (E := E) (v := v0) (w := v1) hc.1
    have q2 := fun (m : xMem) (hz2 : zIn m) => z_lots (v0 := v0) (v1 := v1) (E := E) (M := m) hz2.1 hz2.2.1 hz2.2.2.1.2.2.2
    by_cases c0 : ¬ (1 ≤ v0 ∧ v0 ≤ 20)
    · have e : aLot 0 0 0 (aA 0 g) (aD 0 g) (aT g) 0 (fun _ => none, 0) P v0 v1 = (-1, 0, (fun _ => none, 0), P) := by unfold aLot; rw [if_pos c0]
      rw [e] at q
      refine stp_dz (y := none) hc hz hp q (fun m hz2 => CfD hz2 ?_)
      have q3 := q2 m hz2
      simp only [if_pos c0] at q3
      exact q3
    · skip
      by_cases c1 : ¬ (1 ≤ v1 ∧ v1 ≤ 2147483646)
      · have e : aLot 0 0 0 (aA 0 g) (aD 0 g) (aT g) 0 (fun _ => none, 0) P v0 v1 = (-1, 0, (fun _ => none, 0), P) := by unfold aLot; rw [if_neg c0, if_pos c1]
        rw [e] at q
        refine stp_dz (y := none) hc hz hp q (fun m hz2 => CfD hz2 ?_)
        have q3 := q2 m hz2
        simp only [if_neg c0, if_pos c1] at q3
        exact q3
      · have e : aLot 0 0 0 (aA 0 g) (aD 0 g) (aT g) 0 (fun _ => none, 0) P v0 v1 = (-4, 0, (fun _ => none, 0), P) := by unfold aLot; rw [if_neg c0, if_neg c1, if_pos rfl]
        rw [e] at q
        refine stp_dz (y := none) hc hz hp q (fun m hz2 => CfD hz2 ?_)
        have q3 := q2 m hz2
        simp only [if_neg c0, if_neg c1] at q3
        exact q3
theorem zle {v : Int32} (h : 0 ≤ v ∧ v ≤ nI 0) : v = 0 := by
  obtain ⟨k, hk, e⟩ : ∃ k, k ≤ 0 ∧ v = nI k := by
    obtain ⟨j, hj, e⟩ := nI_of (n_le h.1)
    subst e
    exact ⟨j, (nI_leI hj (by decide)).mp h.2, rfl⟩
  rw [e, show k = 0 by omega]; rfl
theorem z_und {E : xE} {m : xMem} {v0 : Int32} (hz : zIn m) : Ct E mX11_undo [.ref 74, .int v0] m (xN m) (fun r m' => r = some (.int (if ¬ (0 ≤ v0 ∧ v0 ≤ nI 0) then -1 else 0)) ∧ rD (oR m none none) m' ∧ zIn m') := by
  have q := c_X11_undo (E := E) (M := m) (dd := 0) (v := v0) hz.1 hz.2.1 (hz.2.2.2.1.trans rfl) (by decide)
  by_cases c : ¬ (0 ≤ v0 ∧ v0 ≤ nI 0)
  · simp only [if_pos c] at q ⊢
    exact CfD hz q
  · have e := zle (Classical.not_not.mp c)
    subst e
    simp only [if_neg c] at q ⊢
    refine Ct.imp q (fun r m' h _ => ⟨h.1, ?_⟩)
    rw [h.2, if_neg (Nat.not_lt_zero _)]
    refine ⟨rDw36, zIn_m (M := m) ?_ ?_ (fun k hk => ?_) hz.2.1 rfl (mszOK_k hz.2.2.2.2.2.2 ?_ ?_) hz⟩
    · funext j; rw [xI_wI, if_neg (fun z => by omega)]
    · rw [xI_wI, if_neg (fun z => by omega)]
    · rw [xI_wI]
      by_cases z : (74 : Nat) = 74 ∧ k = 36
      · rw [if_pos z, z.2]; exact hz.2.2.2.1.symm
      · rw [if_neg z]
    · funext j; rw [xI_wI, if_neg (fun z => by omega)]
    · funext j; rw [xI_wI, if_neg (fun z => by omega)]
theorem st_undo {E : xE} {M : xMem} (h : InvJ M) (v0 : Int32) : Stq E mX10_undo mX11_undo [.int v0] M := by
  obtain ⟨s, d, n, W, H, B, g, dd, S, P, K, hc, hr, ho, hp⟩ := h
  rcases hr with hr | ⟨hz, rfl, rfl, rfl, rfl, rfl, rfl, rfl⟩
  · exact stp_d (y := none) hc hr ho hp (okT_und hc.1.2.2.2.2.2.2.1.2.1 ⟨hc.1.2.2.2.2.2.2.2.1, hc.1.2.2.2.2.2.2.2.2⟩ ho.1 v0) (c_X10_undo hc.1) (fun m hr2 => c_X11_undo2 hr2.1)
  · have q := c_X10_undo (E := E) (v := v0) hc.1
    have e : aUnd 0 (fun _ => none, 0) P v0 = (if ¬ (0 ≤ v0 ∧ v0 ≤ nI 0) then -1 else 0, 0, (fun _ => none, 0), P) := by
      unfold aUnd
      by_cases c : ¬ (0 ≤ v0 ∧ v0 ≤ nI 0)
      · rw [if_pos c, if_pos c]
      · have e := zle (Classical.not_not.mp c)
        subst e
        rw [if_neg c, if_neg c]; rfl
    rw [e] at q
    exact stp_dz (y := none) hc hz hp q (fun m hz2 => z_und hz2)
theorem okQ_on {n W H B dd : Nat} {g : Nat → Nat → Nat} {S : gLay × Nat} {P : Nat → gLay × Nat} {K : Nat → aKep} (h : okL n W H B g S) (ho : okA n W H B g dd P K) (v : Int32) : okL n W H B g (aOn dd S P K v).2.2.2.1 ∧ ∀ i, i < (aOn dd S P K v).2.2.1 → okL n W H B g ((aOn dd S P K v).2.2.2.2 i) := by
  unfold aOn
  by_cases h1 : ¬ (0 ≤ v ∧ v < 3)
  · rw [if_pos h1]; exact ⟨h, ho.1⟩
  · rw [if_neg h1]
    have hv : v.toNatClampNeg < 3 := r_lt (k := 3) rfl (Classical.not_not.mp h1)
    cases e : K v.toNatClampNeg with
    | none => exact ⟨h, ho.1⟩
    | some q => exact ho.2 _ q hv e
theorem st_on {E : xE} {M : xMem} (h : InvJ M) (v0 : Int32) : Stq E mX10_on mX11_on [.int v0] M := by
  obtain ⟨s, d, n, W, H, B, g, dd, S, P, K, hc, hr, ho, hp⟩ := h
  rcases hr with hr | ⟨hz, rfl, rfl, rfl, rfl, rfl, rfl, rfl⟩
  · exact stp_d hc hr ho hp (okQ_on ⟨hc.1.2.2.2.2.2.2.2.1, hc.1.2.2.2.2.2.2.2.2⟩ ho v0) (c_X10_on hc.1 hc.2.2.2.2.1) (fun m hr2 => c_X11_on2 hr2.1 hr2.2.1)
  · have q := c_X10_on (E := E) (v := v0) hc.1 hc.2.2.2.2.1
    have hR : (0 ≤ v0 ∧ v0 ≤ 2) ↔ (0 ≤ v0 ∧ v0 < 3) := in_l2 (n := 3) (c := 2) (by decide) rfl
    have q2 := fun (m : xMem) (hz2 : zIn m) => c_X11_on (E := E) (M := m) (v := v0) hz2.1 hz2.2.1 (fun k hk => Or.inl (hz2.2.2.2.2.2.1 k hk))
    by_cases c : ¬ (0 ≤ v0 ∧ v0 < 3)
    · have e : aOn 0 (fun _ => none, 0) P (fun _ => none) v0 = (-1, none, 0, (fun _ => none, 0), P) := if_pos c
      rw [e] at q
      refine stp_dz (y := none) hc hz hp q (fun m hz2 => CfD hz2 ?_)
      have q3 := q2 m hz2
      simp only [hR, if_pos c] at q3
      exact q3
    · have e : aOn 0 (fun _ => none, 0) P (fun _ => none) v0 = (-3, some 1, 0, (fun _ => none, 0), P) := if_neg c
      rw [e] at q
      refine stp_dz (y := some 1) hc hz hp q (fun m hz2 => ?_)
      have q3 := q2 m hz2
      have hv := hz2.2.2.2.2.2.1 v0.toNatClampNeg (r_lt (k := 3) rfl (Classical.not_not.mp c))
      have hm : ¬ (0 : Int32) ≤ -1 := by decide
      simp only [hR, if_neg c, hv, if_pos hm] at q3
      refine Ct.imp q3 (fun r m' h _ => ⟨h.1, ?_⟩)
      rw [h.2]
      refine ⟨rD.rf _, zIn_m (M := m) ?_ ?_ (fun k hk => ?_) hz2.2.1 rfl (mszOK_k hz2.2.2.2.2.2.2 ?_ ?_) hz2⟩
      · exact oR_1 m none (some 1) (by decide) (by decide)
      · rw [show (mref m 1).1 83 = m.1 83 from oR_1 m none (some 1) (by decide) (by decide)]
      · exact oR_74 m none (some 1) (k := k) (by omega)
      · exact oR_1 m none (some 1) (by decide) (by decide)
      · exact oR_1 m none (some 1) (by decide) (by decide)
theorem okA_keep {n W H B dd : Nat} {g : Nat → Nat → Nat} {S : gLay × Nat} {P : Nat → gLay × Nat} {K : Nat → aKep} (h : okL n W H B g S) (ho : okA n W H B g dd P K) (v : Int32) : okA n W H B g dd P (aKee n dd S P K v).2 := by
  unfold aKee
  split
  · exact ho
  · split
    · exact ho
    · refine ⟨ho.1, fun k q hk e => ?_⟩
      have e' : kSet K v.toNatClampNeg (dd, S, P) k = some q := e
      unfold kSet at e'
      by_cases z : k = v.toNatClampNeg
      · rw [if_pos z] at e'
        cases e'
        exact ⟨h, ho.1⟩
      · rw [if_neg z] at e'
        exact ho.2 k q hk e'
theorem st_keep {E : xE} {M : xMem} (h : InvJ M) (v0 : Int32) : Stq E mX10_keep mX11_keep [.int v0] M := by
  obtain ⟨s, d, n, W, H, B, g, dd, S, P, K, hc, hr, ho, hp⟩ := h
  rcases hr with hr | ⟨hz, rfl, rfl, rfl, rfl, rfl, rfl, rfl⟩
  case inr =>
    have hR : (0 ≤ v0 ∧ v0 ≤ 2) ↔ (0 ≤ v0 ∧ v0 < 3) := in_l2 (n := 3) (c := 2) (by decide) rfl
    have h7 := xob_7 hc.1.2.2.1
    refine (c_X10_keep (v := v0) hc.1 hc.2.2.2.2.1).imp (fun r m hq _ => ?_)
    obtain ⟨e0, hd, hk⟩ := hq
    have w : m.2 = M.2 := hd.1
    have e2 : (aKee 0 0 (fun _ => none, 0) P (fun _ => none) v0).2 = fun _ => none := by
      unfold aKee
      split
      · rfl
      · rw [if_pos rfl]
    rw [e2] at hk
    have hc1 : cIn m s d 0 0 0 0 g 0 (fun _ => none, 0) P (fun _ => none) := cIn_u hc (fun a a1 a2 => hd.2 a (by omega) (by omega)) (by rw [w]) (by rw [w]) (stC_k hc.1.2.2.2.2.2.2.1 (fun b b1 b2 => hd.2 b (by omega) (by omega))) (okL_z 0 0 0 0 g) hk (szOK_k hc.2.2.2.2.2 (fun a a1 a2 => hd.2 a (by omega) (by omega)))
    have u8 : ∀ a, 74 ≤ a → m.1 a = M.1 a := fun a ha => hd.2 a (by omega) (by omega)
    have hz1 : zIn m := zIn_m (u8 91 (by decide)) (by rw [u8 83 (by decide)]) (fun k _ => by rw [u8 74 (by decide)]) (by rw [w]; exact hz.2.1) (by rw [w]) (mszOK_k hz.2.2.2.2.2.2 (u8 76 (by decide)) (u8 79 (by decide))) hz
    have q3 : Cf E mX11_keep [.ref 74, .int v0] m (some (.int (aKee 0 0 (fun _ => none, 0) P (fun _ => none) v0).1)) m := by
      have q := c_X11_keep (E := E) (M := m) (dd := 0) (v := v0) hz1.1 hz1.2.1 (hz1.2.2.2.1.trans rfl) (by decide)
      by_cases c : ¬ (0 ≤ v0 ∧ v0 < 3)
      · have e : aKee 0 0 (fun _ => none, 0) P (fun _ => none) v0 = (-1, fun _ => none) := if_pos c
        rw [e]
        simp only [hR, if_pos c] at q
        exact q
      · have e : aKee 0 0 (fun _ => none, 0) P (fun _ => none) v0 = (-4, fun _ => none) := by unfold aKee; rw [if_neg c, if_pos rfl]
        rw [e]
        simp only [hR, if_neg c, if_pos hz1.2.2.1.2.2.2] at q
        exact q
    refine ⟨_, e0, Ct.imp q3 (fun r' m' h _ => ⟨h.1, ?_⟩)⟩
    rw [h.2]
    exact ⟨s, d, 0, 0, 0, 0, g, 0, (fun _ => none, 0), P, (fun _ => none), hc1, Or.inr ⟨hz1, rfl, rfl, rfl, rfl, rfl, rfl, rfl⟩, ⟨fun i hi => absurd hi (Nat.not_lt_zero _), fun k q _ e => by cases e⟩, cpl_k hp (fun a ha => hd.2 a (by omega) (by omega)) (fun k hk => by rw [hd.2 74 (by decide) (by decide)])⟩
  have h7 := xob_7 hc.1.2.2.1
  refine (c_X10_keep hc.1 hc.2.2.2.2.1).imp (fun r m hq _ => ?_)
  obtain ⟨e0, hd, hk⟩ := hq
  have w : m.2 = M.2 := hd.1
  have hl : okL n W H B g S := ⟨hc.1.2.2.2.2.2.2.2.1, hc.1.2.2.2.2.2.2.2.2⟩
  have hc1 : cIn m s d n W H B g dd S P (aKee n dd S P K v0).2 := cIn_u hc (fun a a1 a2 => hd.2 a (by omega) (by omega)) (by rw [w]) (by rw [w]) (stC_k hc.1.2.2.2.2.2.2.1 (fun b b1 b2 => hd.2 b (by omega) (by omega))) hl hk (szOK_k hc.2.2.2.2.2 (fun a a1 a2 => hd.2 a (by omega) (by omega)))
  have hr1 : rIn m n W H B g dd S P K := rIn_k (fun a ha => hd.2 a (by omega) (by omega)) (by show xNT ≤ m.2.2.2; rw [w]; exact hr.1.1) (by rw [w]; exact hr.1.2.1) hr
  refine ⟨_, e0, (c_X11_keep2 hr1.1 hr1.2.1).imp (fun r' m' hq' _ => ?_)⟩
  obtain ⟨e0', hd', hk'⟩ := hq'
  have w' : m'.2 = m.2 := hd'.1
  have u' : ∀ a, a ≠ 91 → a ≠ 92 → m'.1 a = m.1 a := hd'.2
  refine ⟨e0', s, d, n, W, H, B, g, dd, S, P, _, cIn_k (fun a ha => u' a (by omega) (by omega)) (by rw [w']) (by rw [w']) hc1, Or.inl (rIn_u hr1 (u' 81 (by decide) (by decide)) (fun k k1 k2 => by rw [u' 74 (by decide) (by decide)]) (by rw [w']) (by rw [w']) (stM_k hr1.1.2.2.2.2.1 (by rw [u' 74 (by decide) (by decide)]) (u' 83 (by decide) (by decide)) (u' 90 (by decide) (by decide))) hl hk' (mszOK_k hr1.2.2 (u' 76 (by decide) (by decide)) (u' 79 (by decide) (by decide)))), okA_keep hl ho v0, ?_⟩
  exact cpl_q (x := none) (y := none) hp (fun a ha => hd.2 a (by omega) (by omega)) (fun a ha => hd'.2 a (by omega) (by omega)) (fun k hk => by rw [hd'.2 74 (by decide) (by decide)]; rfl)
