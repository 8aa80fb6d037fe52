/-! ===== steps: fault, sheet, write ===== -/
theorem txH_of {M m : xMem} (hp : cpl M) (hz : szOK M) (e1 : m.1 79 = M.1 79) (e2 : m.1 80 = M.1 80) (v : Int32) : txH m (M.1 (tA v) 1) (M.1 (tA v + 1)) v := by
  intro hv
  have hk : v.toNatClampNeg < 4 := r_lt (k := 4) rfl hv
  have q := hp.2.2.2.2 _ hk
  refine ⟨hz.2 _ hk, by rw [e1]; exact q.1.symm, fun i hi => ?_⟩
  rw [e2]
  exact (q.2 i (by rw [← q.1]; exact hi)).symm
theorem inv_f {M m m' : xMem} {y : Option Int32} {s d n W H B dd : Nat} {g : Nat → Nat → Nat} {S : gLay × Nat} {P : Nat → gLay × Nat} {K : Nat → aKep} (hc : cIn M s d n W H B g dd S P K) (hr : rJ M n W H B g dd S P K) (ho : okA n W H B g dd P K) (hp : cpl M) (hf : fo0 d (oC M none y) m) (hm : mpS (oR m none y) m') : InvJ m' := by
  have h7 := xob_7 hc.1.2.2.1
  have h7d := xob_7 hc.2.1
  have hne : s ≠ d := hc.2.2.2.1
  have u : ∀ a, a ≠ 1 → a ≠ 31 → a ≠ 10 → (a < d ∨ d + 9 < a) → m.1 a = M.1 a := fun a a1 a2 a3 a4 => by rw [hf.2.2 a a3 a4, oC_1 M none y a1 a2]
  have w : ∀ a j, (a ≠ 10 ∨ j ≠ 1) → m.2.1 a j = M.2.1 a j := fun a j q => by rw [hf.2.1 a j q, oC_2]
  have wn : m.2.2.2 = M.2.2.2 := by rw [hf.1, oC_2]
  have hw1 : xWire m.2.1 := wire_c hc.1.2.1 (fun a j a1 _ => w a j (Or.inl a1))
  have hr1 : rJ m n W H B g dd S P K := rJ_k (fun a ha => u a (by omega) (by omega) (by omega) (by omega)) wn hw1 hr
  have w' : m'.2 = m.2 := by rw [hm.1, oR_2]
  have u' : ∀ a, a ≠ 74 → a ≠ 75 → a ≠ 82 → m'.1 a = m.1 a := fun a a1 a2 a3 => by rw [hm.2.1 a a1 a3, oR_1 m none y a1 a2]
  have u4 : ∀ k, 2 ≤ k → (k < 13 ∨ 21 < k) → m'.1 74 k = m.1 74 k := fun k k1 k2 => by rw [hm.2.2 k k2, oR_74 m none y k1]
  obtain ⟨⟨hM, hW, hs, hcu, hsh, hok, hst, hly, hru⟩, hd, hdr, _, hk, hz⟩ := hc
  have uu : ∀ a, a ≠ 1 → a ≠ 31 → a ≠ 10 → (a < d ∨ d + 9 < a) → a < 74 → m'.1 a = M.1 a := fun a a1 a2 a3 a4 a5 => by rw [u' a (by omega) (by omega) (by omega), u a a1 a2 a3 a4]
  refine ⟨s, d, n, W, H, B, g, dd, S, P, K, ⟨⟨by show xNT ≤ m'.2.2.2; rw [w', wn]; exact hM, by rw [w']; exact hw1, hs, by rw [w', w 1 10 (by decide)]; exact hcu, cSh_k hsh (fun a ha => uu a (by unfold shX at ha; omega) (by unfold shX at ha; omega) (by unfold shX at ha; omega) (by unfold shX at ha; omega) (by unfold shX at ha; omega)) hok.1, hok, stC_k hst (fun b b1 b2 => uu b (by omega) (by omega) (by omega) (by omega) (by omega)), hly, hru⟩, hd, by rw [w', w 10 0 (by decide)]; exact hdr, hne, kpC_k hk (fun a ha => uu a (by omega) (by omega) (by omega) (by omega) (by omega)), szOK_k hz (fun a a1 a2 => uu a (by omega) (by omega) (by omega) (by omega) (by omega))⟩, ?_, ho, ?_⟩
  · exact rJ_g (fun a ha => u' a (by omega) (by omega) (by omega)) (fun k hk => by rw [u' 83 (by decide) (by decide) (by decide)]) (fun k hk => u4 k (by omega) (by omega)) (by rw [w']; exact hw1) (by rw [w']) hr1
  · exact cpl_q (x := none) (y := y) hp (fun a ha => hf.2.2 a (by omega) (by omega)) (fun a ha => hm.2.1 a (by omega) (by omega)) (fun k hk => hm.2.2 k (by omega))
theorem fo0_w {d : Nat} {M m : xMem} {y : Option Int32} (hW : xWire M.2.1) (hf : fo0 d (oC M none y) m) : xWire m.2.1 := wire_c hW (fun a j a1 _ => by rw [hf.2.1 a j (Or.inl a1), oC_2])
theorem fo0_e {d a : Nat} {M m : xMem} {y : Option Int32} (hd : xob d 7) (hf : fo0 d (oC M none y) m) (ha : 76 ≤ a) : m.1 a = M.1 a := by
  have h7 := xob_7 hd
  rw [hf.2.2 a (by omega) (by omega), oC_1 M none y (by omega) (by omega)]
theorem st_fault {E : xE} {M : xMem} (h : InvJ M) (v0 : Int32) : Stq E mX10_fault mX11_fault [.int v0] M := by
  obtain ⟨s, d, n, W, H, B, g, dd, S, P, K, hc, hr, ho, hp⟩ := id h
  have hz := hc.2.2.2.2.2
  refine (c_X10_fault (v := v0) hc.1.1 hc.1.2.1 hc.2.2.1 hc.2.1 hz).imp (fun r m hq hn => ?_)
  obtain ⟨e0, hf⟩ := hq
  have hn' : xNT ≤ xN m := by rw [hn]; exact hc.1.1
  refine ⟨_, e0, (c_X11_fault hn' (fo0_w hc.1.2.1 hf) (txH_of hp hz (fo0_e hc.2.1 hf (by decide)) (fo0_e hc.2.1 hf (by decide)) v0)).imp (fun r' m' hq' _ => ?_)⟩
  exact ⟨hq'.1, inv_f hc hr ho hp hf hq'.2⟩
theorem st_sheet {E : xE} {M : xMem} (h : InvJ M) (v0 : Int32) : Stq E mX10_sheet mX11_sheet [.int v0] M := by
  obtain ⟨s, d, n, W, H, B, g, dd, S, P, K, hc, hr, ho, hp⟩ := id h
  have hz := hc.2.2.2.2.2
  refine (c_X10_sheet (v := v0) hc.1.1 hc.1.2.1 hc.2.2.1 hc.2.1 hc.1.2.2.1 hc.1.2.2.2.1 hz).imp (fun r m hq hn => ?_)
  obtain ⟨e0, hf0, hf1⟩ := hq
  have hn' : xNT ≤ xN m := by rw [hn]; exact hc.1.1
  have h7 := xob_7 hc.1.2.2.1
  have h7d := xob_7 hc.2.1
  have hne : s ≠ d := hc.2.2.2.1
  cases eq : (aShe (M.1 (tA v0) 1) (M.1 (tA v0 + 1)) v0).2.2 with
  | none =>
    have hf := hf0 eq
    refine ⟨_, e0, (c_X11_sheet hn' (fo0_w hc.1.2.1 hf) (txH_of hp hz (fo0_e hc.2.1 hf (by decide)) (fo0_e hc.2.1 hf (by decide)) v0)).imp (fun r' m' hq' _ => ?_)⟩
    exact ⟨hq'.1, inv_f hc hr ho hp hf (hq'.2.1 eq)⟩
  | some q =>
    obtain ⟨_, hok, hsh, _, hcu, hdr, hst, hkp, hf⟩ := hf1 q eq
    have u : ∀ a, a ≠ 10 → (a < 5 ∨ 9 < a) → (a < d ∨ d + 9 < a) → m.1 a = M.1 a := hf.2.2
    have hw1 : xWire m.2.1 := wire_c hc.1.2.1 (fun a j a1 a2 => hf.2.1 a j (Or.inl a1) a2)
    refine ⟨_, e0, (c_X11_sheet hn' hw1 (txH_of hp hz (u 79 (by omega) (by omega) (by omega)) (u 80 (by omega) (by omega) (by omega)) v0)).imp (fun r' m' hq' hn2 => ?_)⟩
    obtain ⟨e0', _, hq1⟩ := hq'
    obtain ⟨hsh', hst', hkp', hro⟩ := hq1 q eq
    have w' : m'.2 = m.2 := hro.1
    have u' : ∀ a, a ≠ 74 → (a < 81 ∨ 83 < a) → a ≠ 91 → m'.1 a = m.1 a := hro.2.1
    have uu : ∀ a, a ≠ 10 → (a < 5 ∨ 9 < a) → (a < d ∨ d + 9 < a) → a ≠ 74 → (a < 81 ∨ 83 < a) → a ≠ 91 → m'.1 a = M.1 a := fun a a1 a2 a3 a4 a5 a6 => by rw [u' a a4 a5 a6, u a a1 a2 a3]
    have hn3 : xNT ≤ xN m' := by rw [hn2]; exact hn'
    have hly := lyOK_none q.1 q.2.1 q.2.2.1 (aA q.2.2.2.1 q.2.2.2.2) (aD q.2.2.2.1 q.2.2.2.2)
    refine ⟨e0', d, s, q.1, q.2.1, q.2.2.1, q.2.2.2.1, q.2.2.2.2, 0, (fun _ => none, 0), (fun _ => (fun _ => none, 0)), (fun _ => none), ⟨⟨hn3, by rw [w']; exact hw1, hc.2.1, by rw [w']; exact hcu, cSh_k hsh (fun a ha => u' a (by unfold shX at ha; omega) (by unfold shX at ha; omega) (by unfold shX at ha; omega)) hok.1, hok, stC_k (hst _) (fun b b1 b2 => u' b (by omega) (by omega) (by omega)), hly, by decide⟩, hc.1.2.2.1, by rw [w']; exact hdr, fun z => hne z.symm, fun k hk => ⟨fun _ => by rw [u' 5 (by decide) (by decide) (by decide)]; exact hkp k hk, fun p hp2 => by cases hp2⟩, szOK_k hz (fun a a1 a2 => uu a (by omega) (by omega) (by omega) (by omega) (by omega) (by omega))⟩, Or.inl ⟨⟨hn3, by rw [w']; exact hw1, hsh', hok, hst' _, hly, by decide⟩, fun k hk => ⟨fun _ => hkp' k hk, fun p hp2 => by cases hp2⟩, mszOK_k (rJ_1 hr).2.2 (uu 76 (by decide) (by decide) (by omega) (by decide) (by decide) (by decide)) (uu 79 (by decide) (by decide) (by omega) (by decide) (by decide) (by decide))⟩, ⟨fun i hi => absurd hi (Nat.not_lt_zero _), fun k p _ e => by cases e⟩, ?_⟩
    exact cpl_k hp (fun a ha => uu a (by omega) (by omega) (by omega) (by omega) (by omega) (by omega)) (fun k hk => by rw [hro.2.2 k (by omega) (by omega), u 74 (by omega) (by omega) (by omega)])
theorem st_write {E : xE} {M : xMem} (h : InvJ M) (v0 : Int32) : Stq E mX10_write mX11_write [.int v0] M := by
  obtain ⟨s, d, n, W, H, B, g, dd, S, P, K, hc, hr, ho, hp⟩ := id h
  have h7 := xob_7 hc.1.2.2.1
  rcases hr with hr | ⟨hz, rfl, rfl, rfl, rfl, rfl, rfl, rfl⟩
  case inr =>
    refine (c_X10_write (v := v0) hc.1).imp (fun r m hq hn => ?_)
    obtain ⟨e0, hf0, _⟩ := hq
    obtain ⟨w, u, u1⟩ := hf0 (fun z => z.2.1 rfl)
    have u7 : ∀ a, 74 ≤ a → m.1 a = M.1 a := fun a ha => u a (by omega) (by omega)
    have hz1 : zIn m := zIn_m (u7 91 (by decide)) (by rw [u7 83 (by decide)]) (fun k _ => by rw [u7 74 (by decide)]) (by rw [w]; exact hz.2.1) (by rw [w]) (mszOK_k hz.2.2.2.2.2.2 (u7 76 (by decide)) (u7 79 (by decide))) hz
    have hR : (0 ≤ v0 ∧ v0 ≤ 3) ↔ (0 ≤ v0 ∧ v0 < 4) := in_l2 (n := 4) (c := 3) (by decide) rfl
    have q3 : Cf E mX11_write [.ref 74, .int v0] m (some (.int (aWri v0 0 (adS 0 0 0 0 g)))) m := by
      have q := z_write (E := E) (M := m) (v0 := v0) hz1.1 hz1.2.1 hz1.2.2.1.2.2.2
      by_cases c : ¬ (0 ≤ v0 ∧ v0 < 4)
      · have e : aWri v0 0 (adS 0 0 0 0 g) = -1 := if_pos c
        rw [e]
        simp only [hR, if_pos c] at q
        exact q
      · have e : aWri v0 0 (adS 0 0 0 0 g) = -4 := by unfold aWri; rw [if_neg c, if_pos rfl]
        rw [e]
        simp only [hR, if_neg c] at q
        exact q
    refine ⟨_, e0, Ct.imp q3 (fun r' m' h2 _ => ⟨h2.1, ?_⟩)⟩
    rw [h2.2]
    exact inv_r h w (fun a a1 a2 a3 a4 a5 a6 => u a a2 a3) (fun j j1 j2 => by rw [u7 74 (by decide)]) hz1.2.2.2.2.2.2 (cpl_k hp (fun a ha => u a (by omega) (by omega)) (fun k hk => by rw [u7 74 (by decide)]))
  refine (c_X10_write (v := v0) hc.1).imp (fun r m hq hn => ?_)
  obtain ⟨e0, hf0, hf1⟩ := hq
  by_cases hk : wOk v0 n (adS n W H B g)
  · obtain ⟨w, u, u1, u2⟩ := hf1 hk
    have hk4 : v0.toNatClampNeg < 4 := r_lt (k := 4) rfl hk.1
    have hta : tA v0 = 54 + 2 * v0.toNatClampNeg := rfl
    have hr1 : rIn m n W H B g dd S P K := rIn_k (fun a ha => u a (by omega) (by omega) (by omega) (by omega)) (by show xNT ≤ m.2.2.2; rw [w]; exact hr.1.1) (by rw [w]; exact hr.1.2.1) hr
    refine ⟨_, e0, (c_X11_write (v := v0) hr1.1).imp (fun r' m' hq' _ => ⟨hq'.1, ?_⟩)⟩
    obtain ⟨w', v1, v4, v79, v79o, v80, v80o⟩ := hq'.2.2 hk
    have hcl : (nI (adS n W H B g).1).toNatClampNeg = (adS n W H B g).1 := nI_clamp (by have := hk.2.2; omega)
    refine inv_txt h hk4 (by rw [w', w]) (fun a a1 a2 a3 a4 a5 a6 a7 a8 a9 => by rw [v1 a a4 a9 a5 a6, u a a7 a8 a2 a3]) ?_ ?_ (fun j j1 j2 => by rw [v4 j j2, u 74 (by decide) (by decide) (by omega) (by omega)]) (fun q hq => by rw [v79o q hq, u 79 (by decide) (by decide) (by omega) (by omega)]) (fun j hj => by rw [v80o j hj, u 80 (by decide) (by decide) (by omega) (by omega)]) (Or.inr ⟨_, hk.2.2, v79⟩) ?_ (fun i hi => ?_)
    · rw [v4 0 (by decide), v1 1 (by decide) (by decide) (by decide) (by decide), u 1 (by decide) (by decide) (by omega) (by omega), u 74 (by decide) (by decide) (by omega) (by omega)]; exact hp.1
    · rw [v1 1 (by decide) (by decide) (by decide) (by decide), u 1 (by decide) (by decide) (by omega) (by omega)]
    · rw [v1 (54 + 2 * v0.toNatClampNeg) (by omega) (by omega) (by omega) (by omega), v79]; exact u1
    · rw [v79, hcl] at hi
      rw [v1 (54 + 2 * v0.toNatClampNeg + 1) (by omega) (by omega) (by omega) (by omega), v80 i hi]; exact u2 i hi
  · obtain ⟨w, u, u1⟩ := hf0 hk
    have hr1 : rIn m n W H B g dd S P K := rIn_k (fun a ha => u a (by omega) (by omega)) (by show xNT ≤ m.2.2.2; rw [w]; exact hr.1.1) (by rw [w]; exact hr.1.2.1) hr
    refine ⟨_, e0, (c_X11_write (v := v0) hr1.1).imp (fun r' m' hq' _ => ⟨hq'.1, ?_⟩)⟩
    obtain ⟨w', v1, v4⟩ := hq'.2.1 hk
    have uu : ∀ a, a ≠ 22 → a ≠ 23 → a ≠ 74 → a ≠ 84 → m'.1 a = M.1 a := fun a a1 a2 a3 a4 => by rw [v1 a a3 a4, u a a1 a2]
    refine inv_r h (by rw [w', w]) (fun a a1 a2 a3 a4 a5 a6 => uu a a2 a3 (by omega) a6) (fun j j1 j2 => by rw [v4 j j2, u 74 (by decide) (by decide)]) (mszOK_k hr.2.2 (uu 76 (by decide) (by decide) (by decide) (by decide)) (uu 79 (by decide) (by decide) (by decide) (by decide))) (cpl_k hp (fun a ha => uu a (by omega) (by omega) (by omega) (by omega)) (fun k hk => by rw [v4 k (by omega), u 74 (by decide) (by decide)]))
