/-! ===== steps: one call on both sides keeps the invariant; here the calls that only look ===== -/
def zIn (M : xMem) : Prop := xNT ≤ xN M ∧ xWire M.2.1 ∧ (M.1 74 8 = 0 ∧ M.1 74 9 = 0 ∧ M.1 74 10 = 0 ∧ M.1 74 11 = 0) ∧ M.1 74 36 = 0 ∧ M.1 83 32 = 0 ∧ (∀ k, k < 3 → M.1 91 k = -1) ∧ mszOK M
def zN (n W H B dd : Nat) (S : gLay × Nat) (K : Nat → aKep) : Prop := n = 0 ∧ W = 0 ∧ H = 0 ∧ B = 0 ∧ dd = 0 ∧ S = (fun _ => none, 0) ∧ K = fun _ => none
/-- the reference's half: behind a sheet, or ahead of the first one -/
def rJ (M : xMem) (n W H B : Nat) (g : Nat → Nat → Nat) (dd : Nat) (S : gLay × Nat) (P : Nat → gLay × Nat) (K : Nat → aKep) : Prop := rIn M n W H B g dd S P K ∨ (zIn M ∧ zN n W H B dd S K)
def InvJ (M : xMem) : Prop := ∃ s d n W H B g dd S P K, cIn M s d n W H B g dd S P K ∧ rJ M n W H B g dd S P K ∧ okA n W H B g dd P K ∧ cpl M
theorem rJ_1 {M : xMem} {n W H B dd : Nat} {g : Nat → Nat → Nat} {S : gLay × Nat} {P : Nat → gLay × Nat} {K : Nat → aKep} (h : rJ M n W H B g dd S P K) : xNT ≤ xN M ∧ xWire M.2.1 ∧ mszOK M := by
  rcases h with h | h
  · exact ⟨h.1.1, h.1.2.1, h.2.2⟩
  · exact ⟨h.1.1, h.1.2.1, h.1.2.2.2.2.2.2⟩
def rT (M m : xMem) : Prop := m.2.1 = M.2.1 ∧ m.2.2.2 = M.2.2.2 ∧ (∀ a, a ≠ 74 → a ≠ 83 → (a < 85 ∨ 89 < a) → a ≠ 93 → m.1 a = M.1 a) ∧ (∀ k, k ≠ 27 → (k < 32 ∨ 35 < k) → (k < 41 ∨ 43 < k) → m.1 74 k = M.1 74 k) ∧ ∀ k, k < 33 → m.1 83 k = M.1 83 k
theorem rT_S {M m : xMem} (h : rS M m) : rT M m := ⟨h.1, h.2.1, fun a a1 _ a2 a3 => h.2.2.1 a a1 a2 a3, h.2.2.2, fun k _ => by rw [h.2.2.1 83 (by decide) (by omega) (by decide)]⟩
theorem rT_X {M m : xMem} (h : rX M m) : rT M m := ⟨by rw [h.1], by rw [h.1], h.2.1, h.2.2.1, h.2.2.2⟩
theorem cpl_k {M m : xMem} (h : cpl M) (e : ∀ a, a = 1 ∨ a = 31 ∨ a = 75 ∨ (42 ≤ a ∧ a ≤ 61) ∨ (76 ≤ a ∧ a ≤ 80) → m.1 a = M.1 a) (e4 : ∀ k, k < 2 → m.1 74 k = M.1 74 k) : cpl m := by
  refine cpl_p h ?_ ?_ (fun k k1 k5 => ?_) (fun a a1 a2 => e a (by omega)) (fun a a1 a2 => e a (by omega))
  · rw [e 1 (by omega), e4 0 (by decide)]; exact h.1
  · rw [e 1 (by omega), e4 1 (by decide)]; exact h.2.1
  · rw [e 31 (by omega), e 75 (by omega)]; exact h.2.2.1 k k1 k5
theorem cpl_q {M m1 m2 : xMem} {x y : Option Int32} (h : cpl M) (c : ∀ a, a = 1 ∨ a = 31 ∨ (42 ≤ a ∧ a ≤ 61) ∨ (74 ≤ a ∧ a ≤ 80) → m1.1 a = (oC M x y).1 a) (r : ∀ a, a = 1 ∨ a = 31 ∨ (42 ≤ a ∧ a ≤ 61) ∨ (75 ≤ a ∧ a ≤ 80) → m2.1 a = (oR m1 x y).1 a) (r4 : ∀ k, k < 2 → m2.1 74 k = (oR m1 x y).1 74 k) : cpl m2 := by
  have h1 : cS (oC M x y) (oC M x y) := cS.rf _
  have h2 : rS (oR (oC M x y) x y) (oR (oC M x y) x y) := rS.rf _
  have h0 := cpl_o h h1 h2
  refine cpl_k h0 (fun a ha => ?_) (fun k hk => ?_)
  · by_cases z : a = 75
    · subst z
      rw [r 75 (by omega)]
      rcases x with _ | v
      · rcases y with _ | f
        · exact c 75 (by omega)
        · have e : m1.1 75 = (oC M none (some f)).1 75 := c 75 (by omega)
          funext k
          show (wI (wI m1 74 1 f) 75 f.toNatClampNeg (m1.1 75 f.toNatClampNeg + 1)).1 75 k = (wI (wI (oC M none (some f)) 74 1 f) 75 f.toNatClampNeg ((oC M none (some f)).1 75 f.toNatClampNeg + 1)).1 75 k
          rw [xI_wI, xI_wI, xI_wI, xI_wI, e]
      · funext k
        show (wI m1 74 0 v).1 75 k = (wI (oC M (some v) y) 74 0 v).1 75 k
        rw [xI_wI, xI_wI, c 75 (by omega)]
    · rw [r a (by omega), oR_1 _ _ _ (by omega) z, oR_1 _ _ _ (by omega) z, c a (by omega)]
  · rw [r4 k hk]
    have e : m1.1 74 = (oC M x y).1 74 := c 74 (by omega)
    rcases x with _ | v
    · rcases y with _ | f
      · show m1.1 74 k = _; rw [e]; rfl
      · show (wI (wI m1 74 1 f) 75 f.toNatClampNeg (m1.1 75 f.toNatClampNeg + 1)).1 74 k = (wI (wI (oC M none (some f)) 74 1 f) 75 f.toNatClampNeg ((oC M none (some f)).1 75 f.toNatClampNeg + 1)).1 74 k
        rw [xI_wI, xI_wI, xI_wI, xI_wI, e, c 75 (by omega)]
    · show (wI m1 74 0 v).1 74 k = (wI (oC M (some v) y) 74 0 v).1 74 k
      rw [xI_wI, xI_wI, e]
theorem cpl_t {M m1 m2 : xMem} {x y : Option Int32} (h : cpl M) (h1 : cS (oC M x y) m1) (h2 : rT (oR m1 x y) m2) : cpl m2 :=
  cpl_q h (fun a ha => h1.2 a (by omega)) (fun a ha => h2.2.2.1 a (by omega) (by omega) (by omega) (by omega)) (fun k hk => h2.2.2.2.1 k (by omega) (by omega) (by omega))
theorem zIn_m {M m : xMem} (e1 : m.1 91 = M.1 91) (e3 : m.1 83 32 = M.1 83 32) (e4 : ∀ k, k = 8 ∨ k = 9 ∨ k = 10 ∨ k = 11 ∨ k = 36 → m.1 74 k = M.1 74 k) (hw : xWire m.2.1) (hn : m.2.2.2 = M.2.2.2) (hz : mszOK m) (hr : zIn M) : zIn m := by
  obtain ⟨hM, hW, h4, h36, h32, hk, _⟩ := hr
  refine ⟨by show xNT ≤ m.2.2.2; rw [hn]; exact hM, hw, ?_, ?_, ?_, ?_, hz⟩
  · rw [e4 11 (by omega), e4 8 (by omega), e4 9 (by omega), e4 10 (by omega)]
    exact h4
  · rw [e4 36 (by omega)]; exact h36
  · rw [e3]; exact h32
  · rw [e1]; exact hk
/-- the reference's half is kept where what it reads is -/
theorem rJ_m {M m : xMem} {n W H B dd : Nat} {g : Nat → Nat → Nat} {S : gLay × Nat} {P : Nat → gLay × Nat} {K : Nat → aKep} (e : ∀ a, a = 81 ∨ a = 90 ∨ a = 91 ∨ a = 92 → m.1 a = M.1 a) (e3 : ∀ k, k < 33 → m.1 83 k = M.1 83 k) (e4 : ∀ k, k = 8 ∨ k = 9 ∨ k = 10 ∨ k = 11 ∨ k = 36 → m.1 74 k = M.1 74 k) (hw : xWire m.2.1) (hn : m.2.2.2 = M.2.2.2) (hzm : mszOK m) (hr : rJ M n W H B g dd S P K) : rJ m n W H B g dd S P K := by
  rcases hr with hr | ⟨hr, hN⟩
  · obtain ⟨⟨hM, hW, hsh, hok, hst, hly, hru⟩, hk, hz⟩ := hr
    refine Or.inl ⟨⟨by show xNT ≤ m.2.2.2; rw [hn]; exact hM, hw, ?_, hok, ?_, hly, hru⟩, ?_, hzm⟩
    · unfold mSh at hsh ⊢
      rw [e4 11 (by omega), e4 8 (by omega), e4 9 (by omega), e4 10 (by omega), e 81 (by omega)]
      exact hsh
    · exact ⟨by rw [e4 36 (by omega)]; exact hst.1, hst.2.1, rRow_c hst.2.2.1 (fun k hk => by rw [Nat.zero_add]; exact e3 k hk), by rw [e 90 (by omega)]; exact hst.2.2.2⟩
    · unfold kpM ktM at hk ⊢
      rw [e 91 (by omega), e 92 (by omega)]
      exact hk
  · exact Or.inr ⟨zIn_m (e 91 (by omega)) (e3 32 (by decide)) e4 hw hn hzm hr, hN⟩
theorem mszOK_k {M m : xMem} (h : mszOK M) (e1 : m.1 76 = M.1 76) (e2 : m.1 79 = M.1 79) : mszOK m := by
  unfold mszOK at h ⊢
  rw [e1, e2]
  exact h
theorem rJ_g {M m : xMem} {n W H B dd : Nat} {g : Nat → Nat → Nat} {S : gLay × Nat} {P : Nat → gLay × Nat} {K : Nat → aKep} (e : ∀ a, a = 76 ∨ a = 79 ∨ a = 81 ∨ a = 90 ∨ a = 91 ∨ a = 92 → m.1 a = M.1 a) (e3 : ∀ k, k < 33 → m.1 83 k = M.1 83 k) (e4 : ∀ k, k = 8 ∨ k = 9 ∨ k = 10 ∨ k = 11 ∨ k = 36 → m.1 74 k = M.1 74 k) (hw : xWire m.2.1) (hn : m.2.2.2 = M.2.2.2) (hr : rJ M n W H B g dd S P K) : rJ m n W H B g dd S P K :=
  rJ_m (fun a ha => e a (by omega)) e3 e4 hw hn (mszOK_k (rJ_1 hr).2.2 (e 76 (by omega)) (e 79 (by omega))) hr
theorem rJ_k {M m : xMem} {n W H B dd : Nat} {g : Nat → Nat → Nat} {S : gLay × Nat} {P : Nat → gLay × Nat} {K : Nat → aKep} (e : ∀ a, 74 ≤ a → m.1 a = M.1 a) (hn : m.2.2.2 = M.2.2.2) (hw : xWire m.2.1) (h : rJ M n W H B g dd S P K) : rJ m n W H B g dd S P K :=
  rJ_g (fun a ha => e a (by omega)) (fun k _ => by rw [e 83 (by decide)]) (fun k _ => by rw [e 74 (by decide)]) hw hn h
theorem rJ_t {M m : xMem} {x y : Option Int32} {n W H B dd : Nat} {g : Nat → Nat → Nat} {S : gLay × Nat} {P : Nat → gLay × Nat} {K : Nat → aKep} (h : rT (oR M x y) m) (hr : rJ M n W H B g dd S P K) : rJ m n W H B g dd S P K :=
  rJ_g (fun a ha => by rw [h.2.2.1 a (by omega) (by omega) (by omega) (by omega), oR_1 M x y (by omega) (by omega)]) (fun k hk => by rw [h.2.2.2.2 k hk, oR_1 M x y (by decide) (by decide)]) (fun k hk => by rw [h.2.2.2.1 k (by omega) (by omega) (by omega), oR_74 M x y (by omega)]) (by rw [h.1, oR_2]; exact (rJ_1 hr).2.1) (by rw [h.2.1, oR_2]) hr
theorem cIn_t {M m : xMem} {x y : Option Int32} {s d n W H B dd : Nat} {g : Nat → Nat → Nat} {S : gLay × Nat} {P : Nat → gLay × Nat} {K : Nat → aKep} (h : rT (oR M x y) m) (hc : cIn M s d n W H B g dd S P K) : cIn m s d n W H B g dd S P K := by
  have h7 := xob_7 hc.1.2.2.1
  refine cIn_k (M := M) (fun a ha => ?_) (by rw [h.1, oR_2]) (by rw [h.2.1, oR_2]) hc
  rw [h.2.2.1 a (by omega) (by omega) (by omega) (by omega), oR_1 M x y (by omega) (by omega)]
theorem rJ_c {M m : xMem} {x y : Option Int32} {n W H B dd : Nat} {g : Nat → Nat → Nat} {S : gLay × Nat} {P : Nat → gLay × Nat} {K : Nat → aKep} (h : cS (oC M x y) m) (hr : rJ M n W H B g dd S P K) : rJ m n W H B g dd S P K :=
  rJ_k (fun a ha => by rw [h.2 a (by omega), oC_1 M x y (by omega) (by omega)]) (by rw [h.1, oC_2]) (by rw [h.1, oC_2]; exact (rJ_1 hr).2.1) hr
def Stq (E : xE) (dC dR : xMD) (as : List Value) (M : xMem) : Prop := Ct E dC (.ref 1 :: as) M (xN M) (fun r m => ∃ v : Int32, r = some (.int v) ∧ Ct E dR (.ref 74 :: as) m (xN m) (fun r' m' => r' = some (.int v) ∧ InvJ m'))
def StqL (E : xE) (dC dR : xMD) (as : List Value) (M : xMem) : Prop := Ct E dC (.ref 1 :: as) M (xN M) (fun r m => ∃ v : Int64, r = some (.long v) ∧ Ct E dR (.ref 74 :: as) m (xN m) (fun r' m' => r' = some (.long v) ∧ InvJ m'))
theorem CfC {E : xE} {d : xMD} {a : List Value} {M M' : xMem} {r : Option Value} (h : Cf E d a M r M') : Ct E d a M (xN M) (fun r' m => r' = r ∧ cS M' m) := Ct.imp h (fun r' m q _ => ⟨q.1, by rw [q.2]; exact cS.rf _⟩)
theorem CfR {E : xE} {d : xMD} {a : List Value} {M M' : xMem} {r : Option Value} (h : Cf E d a M r M') : Ct E d a M (xN M) (fun r' m => r' = r ∧ rT M' m) := Ct.imp h (fun r' m q _ => ⟨q.1, by rw [q.2]; exact rT_S (rS.rf _)⟩)
theorem CtS {E : xE} {d : xMD} {a : List Value} {M M' : xMem} {r : Option Value} (h : Ct E d a M (xN M) (fun r' m => r' = r ∧ rS M' m)) : Ct E d a M (xN M) (fun r' m => r' = r ∧ rT M' m) := Ct.imp h (fun r' m q _ => ⟨q.1, rT_S q.2⟩)
theorem CtX {E : xE} {d : xMD} {a : List Value} {M M' : xMem} {r : Option Value} (h : Ct E d a M (xN M) (fun r' m => r' = r ∧ rX M' m)) : Ct E d a M (xN M) (fun r' m => r' = r ∧ rT M' m) := Ct.imp h (fun r' m q _ => ⟨q.1, rT_X q.2⟩)
theorem stp_o {E : xE} {dC dR : xMD} {as : List Value} {M : xMem} {s d n W H B dd : Nat} {g : Nat → Nat → Nat} {S : gLay × Nat} {P : Nat → gLay × Nat} {K : Nat → aKep} (hc : cIn M s d n W H B g dd S P K) (hr : rJ M n W H B g dd S P K) (ho : okA n W H B g dd P K) (hp : cpl M) {v : Int32} {x y : Option Int32} (h1 : Ct E dC (.ref 1 :: as) M (xN M) (fun r m => r = some (.int v) ∧ cS (oC M x y) m)) (h2 : ∀ m, cS (oC M x y) m → rJ m n W H B g dd S P K → Ct E dR (.ref 74 :: as) m (xN m) (fun r' m' => r' = some (.int v) ∧ rT (oR m x y) m')) : Stq E dC dR as M :=
  h1.imp (fun r m hq _ => ⟨v, hq.1, (h2 m hq.2 (rJ_c hq.2 hr)).imp (fun r' m' hq' _ => ⟨hq'.1, s, d, n, W, H, B, g, dd, S, P, K, cIn_t hq'.2 (cIn_o hq.2 hc), rJ_t hq'.2 (rJ_c hq.2 hr), ho, cpl_t hp hq.2 hq'.2⟩)⟩)
theorem stp_oL {E : xE} {dC dR : xMD} {as : List Value} {M : xMem} {s d n W H B dd : Nat} {g : Nat → Nat → Nat} {S : gLay × Nat} {P : Nat → gLay × Nat} {K : Nat → aKep} (hc : cIn M s d n W H B g dd S P K) (hr : rJ M n W H B g dd S P K) (ho : okA n W H B g dd P K) (hp : cpl M) {v : Int64} {x y : Option Int32} (h1 : Ct E dC (.ref 1 :: as) M (xN M) (fun r m => r = some (.long v) ∧ cS (oC M x y) m)) (h2 : ∀ m, cS (oC M x y) m → rJ m n W H B g dd S P K → Ct E dR (.ref 74 :: as) m (xN m) (fun r' m' => r' = some (.long v) ∧ rT (oR m x y) m')) : StqL E dC dR as M :=
  h1.imp (fun r m hq _ => ⟨v, hq.1, (h2 m hq.2 (rJ_c hq.2 hr)).imp (fun r' m' hq' _ => ⟨hq'.1, s, d, n, W, H, B, g, dd, S, P, K, cIn_t hq'.2 (cIn_o hq.2 hc), rJ_t hq'.2 (rJ_c hq.2 hr), ho, cpl_t hp hq.2 hq'.2⟩)⟩)
theorem z_lt {v : Int32} : ¬ (0 ≤ v ∧ v < nI 0) := by
  rintro ⟨h1, h2⟩
  rw [show nI 0 = (0 : Int32) from rfl] at h2
  simp only [Int32.le_iff_toInt_le, Int32.lt_iff_toInt_lt, Int32.reduceToInt] at h1 h2
  omega
theorem st_frame {E : xE} {M : xMem} (h : InvJ M) (v0 v1 : Int32) : Stq E mX10_frame mX11_frame [.int v0, .int v1] M := by
  obtain ⟨s, d, n, W, H, B, g, dd, S, P, K, hc, hr, ho, hp⟩ := h
  refine stp_o hc hr ho hp (CfC (c_X10_frame hc.1)) (fun m hm hr2 => ?_)
  rcases hr2 with hr2 | ⟨hz, rfl, rfl, rfl, rfl, rfl, rfl, rfl⟩
  · exact CfR (c_X11_frame hr2.1)
  · have e : aFrm 0 0 g v0 v1 = aBad := if_pos z_lt
    rw [e]
    exact CfR (z_frame hz.1 hz.2.1 hz.2.2.1.2.2.2)
theorem st_place {E : xE} {M : xMem} (h : InvJ M) (v0 v1 : Int32) : Stq E mX10_place mX11_place [.int v0, .int v1] M := by
  obtain ⟨s, d, n, W, H, B, g, dd, S, P, K, hc, hr, ho, hp⟩ := h
  refine stp_o hc hr ho hp (CfC (c_X10_place hc.1)) (fun m hm hr2 => ?_)
  rcases hr2 with hr2 | ⟨hz, rfl, rfl, rfl, rfl, rfl, rfl, rfl⟩
  · exact CfR (c_X11_place hr2.1)
  · have e : aPlc 0 ((fun _ => none, 0) : gLay × Nat).1 v0 v1 = aBad := if_pos z_lt
    rw [e]
    exact CfR (z_place hz.1 hz.2.1 hz.2.2.1.2.2.2)
theorem st_mark {E : xE} {M : xMem} (h : InvJ M) (v0 v1 : Int32) : Stq E mX10_mark mX11_mark [.int v0, .int v1] M := by
  obtain ⟨s, d, n, W, H, B, g, dd, S, P, K, hc, hr, ho, hp⟩ := h
  refine stp_o hc hr ho hp (CfC (c_X10_mark hc.1)) (fun m hm hr2 => ?_)
  rcases hr2 with hr2 | ⟨hz, rfl, rfl, rfl, rfl, rfl, rfl, rfl⟩
  · exact CfR (c_X11_mark hr2.1)
  · have e : aMrk 0 0 g v0 v1 = aBad := if_pos z_lt
    rw [e]
    exact CfR (z_mark hz.1 hz.2.1 hz.2.2.1.2.2.2)
theorem st_point {E : xE} {M : xMem} (h : InvJ M) (v0 v1 v2 : Int32) : Stq E mX10_point mX11_point [.int v0, .int v1, .int v2] M := by
  obtain ⟨s, d, n, W, H, B, g, dd, S, P, K, hc, hr, ho, hp⟩ := h
  refine stp_o hc hr ho hp (CfC (c_X10_point hc.1)) (fun m hm hr2 => ?_)
  rcases hr2 with hr2 | ⟨hz, rfl, rfl, rfl, rfl, rfl, rfl, rfl⟩
  · exact CfR (c_X11_point hr2.1)
  · have e : aPnt 0 0 g ((fun _ => none, 0) : gLay × Nat).1 v0 v1 v2 = aBad := if_pos z_lt
    rw [e]
    exact CfR (z_point hz.1 hz.2.1 hz.2.2.1.2.2.2)
theorem st_used {E : xE} {M : xMem} (h : InvJ M) (v0 : Int32) : Stq E mX10_used mX11_used [.int v0] M := by
  obtain ⟨s, d, n, W, H, B, g, dd, S, P, K, hc, hr, ho, hp⟩ := h
  refine stp_o hc hr ho hp (CfC (c_X10_used hc.1)) (fun m hm hr2 => ?_)
  rcases hr2 with hr2 | ⟨hz, rfl, rfl, rfl, rfl, rfl, rfl, rfl⟩
  · exact CfR (c_X11_used hr2.1)
  · have e : aUse 0 0 (aA 0 g) (aD 0 g) ((fun _ => none, 0) : gLay × Nat).1 0 v0 = aBad := if_pos (z_lt (v := v0))
    rw [e]
    exact CfR (z_used hz.1 hz.2.1 hz.2.2.1.2.2.2)
theorem st_free {E : xE} {M : xMem} (h : InvJ M) (v0 v1 v2 : Int32) : Stq E mX10_free mX11_free [.int v0, .int v1, .int v2] M := by
  obtain ⟨s, d, n, W, H, B, g, dd, S, P, K, hc, hr, ho, hp⟩ := h
  refine stp_o hc hr ho hp (c_X10_free hc.1) (fun m hm hr2 => ?_)
  rcases hr2 with hr2 | ⟨hz, rfl, rfl, rfl, rfl, rfl, rfl, rfl⟩
  · exact CtS (c_X11_free hr2.1)
  · have e : aFre 0 0 (aA 0 g) (aD 0 g) ((fun _ => none, 0) : gLay × Nat).1 v0 v1 v2 = aBad := if_pos (z_lt (v := v0))
    rw [e]
    exact CfR (z_free hz.1 hz.2.1 hz.2.2.1.2.2.2)
theorem st_seen {E : xE} {M : xMem} (h : InvJ M) (v0 v1 v2 : Int32) : Stq E mX10_seen mX11_seen [.int v0, .int v1, .int v2] M := by
  obtain ⟨s, d, n, W, H, B, g, dd, S, P, K, hc, hr, ho, hp⟩ := h
  refine stp_o hc hr ho hp (CfC (c_X10_seen hc.1)) (fun m hm hr2 => ?_)
  rcases hr2 with hr2 | ⟨hz, rfl, rfl, rfl, rfl, rfl, rfl, rfl⟩
  · exact CtS (c_X11_seen hr2.1)
  · have e : aSen 0 0 0 0 g ((fun _ => none, 0) : gLay × Nat).1 v0 v1 v2 = aBad := if_pos (z_lt (v := v0))
    rw [e]
    exact CfR (z_seen hz.1 hz.2.1 hz.2.2.1.2.2.2)
theorem st_takes {E : xE} {M : xMem} (h : InvJ M) (v0 : Int32) : Stq E mX10_takes mX11_takes [.int v0] M := by
  obtain ⟨s, d, n, W, H, B, g, dd, S, P, K, hc, hr, ho, hp⟩ := h
  refine stp_o hc hr ho hp (c_X10_takes hc.1) (fun m hm hr2 => ?_)
  rcases hr2 with hr2 | ⟨hz, rfl, rfl, rfl, rfl, rfl, rfl, rfl⟩
  · exact CtS (c_X11_takes hr2.1)
  · have e : aTak 0 0 0 (aA 0 g) (aD 0 g) (aT g) ((fun _ => none, 0) : gLay × Nat).1 v0 = aBad := if_pos (z_lt (v := v0))
    rw [e]
    exact CfR (z_takes hz.1 hz.2.1 hz.2.2.1.2.2.2)
theorem st_would {E : xE} {M : xMem} (h : InvJ M) (v0 v1 : Int32) : Stq E mX10_would mX11_would [.int v0, .int v1] M := by
  obtain ⟨s, d, n, W, H, B, g, dd, S, P, K, hc, hr, ho, hp⟩ := h
  refine stp_o hc hr ho hp (c_X10_would hc.1) (fun m hm hr2 => ?_)
  rcases hr2 with hr2 | ⟨hz, rfl, rfl, rfl, rfl, rfl, rfl, rfl⟩
  · exact CtX (c_X11_would hr2.1)
  · have e : aWou 0 0 0 (aA 0 g) (aD 0 g) (aT g) v0 v1 = aBad := by
      unfold aWou
      split
      · rfl
      · split
        · rfl
        · rw [if_pos rfl]
    rw [e]
    exact CfR (z_would hz.1 hz.2.1 hz.2.2.1.2.2.2)
theorem st_best {E : xE} {M : xMem} (h : InvJ M) : Stq E mX10_best mX11_best [] M := by
  obtain ⟨s, d, n, W, H, B, g, dd, S, P, K, hc, hr, ho, hp⟩ := h
  refine stp_o hc hr ho hp (c_X10_best hc.1) (fun m hm hr2 => ?_)
  rcases hr2 with hr2 | ⟨hz, rfl, rfl, rfl, rfl, rfl, rfl, rfl⟩
  · exact CtX (c_X11_best hr2.1)
  · have e : aBst 0 (aA 0 g) (aD 0 g) (fun r o => allG r o 0 0 0 (aA 0 g) (aD 0 g) (aT g)) = (-4, none, none) := if_pos rfl
    rw [e]
    exact CfR (z_best hz.1 hz.2.1 hz.2.2.1.2.2.2)
theorem cS_m {M m : xMem} (h : cS (oC M none none) m) {a : Nat} (ha : 31 ≤ a) : m.1 a = M.1 a := h.2 a (by omega)
theorem st_asked {E : xE} {M : xMem} (h : InvJ M) : Stq E mX10_asked mX11_asked [] M := by
  obtain ⟨s, d, n, W, H, B, g, dd, S, P, K, hc, hr, ho, hp⟩ := h
  refine stp_o (x := none) (y := none) hc hr ho hp (CfC (c_X10_asked hc.1.1)) (fun m hm hr2 => ?_)
  rw [show M.1 1 11 = m.1 74 0 by rw [cS_m hm (by decide)]; exact hp.1]
  exact CfR (c_X11_asked (rJ_1 hr2).1)
theorem st_finding {E : xE} {M : xMem} (h : InvJ M) : Stq E mX10_finding mX11_finding [] M := by
  obtain ⟨s, d, n, W, H, B, g, dd, S, P, K, hc, hr, ho, hp⟩ := h
  refine stp_o (x := none) (y := none) hc hr ho hp (CfC (c_X10_finding hc.1.1)) (fun m hm hr2 => ?_)
  rw [show M.1 1 12 = m.1 74 1 by rw [cS_m hm (by decide)]; exact hp.2.1]
  exact CfR (c_X11_finding (rJ_1 hr2).1)
theorem fnd_c {f a b : Int32} (h : 1 ≤ f ∧ f ≤ 5 → a = b) : (if f < 1 then (-1 : Int32) else if ¬ f ≤ 5 then -1 else a) = if 1 ≤ f ∧ f ≤ 5 then b else -1 := by
  by_cases h1 : f < 1
  · rw [if_pos h1, if_neg (fun z => lt1.mpr z.1 h1)]
  · rw [if_neg h1]
    by_cases h2 : f ≤ 5
    · rw [if_neg (fun z => z h2), if_pos ⟨lt1.mp h1, h2⟩, h ⟨lt1.mp h1, h2⟩]
    · rw [if_pos h2, if_neg (fun z => h2 z.2)]
theorem fnd_k {f : Int32} (h : 1 ≤ f ∧ f ≤ 5) : 1 ≤ f.toNatClampNeg ∧ f.toNatClampNeg ≤ 5 := by
  obtain ⟨h1, h2⟩ := h
  simp only [Int32.le_iff_toInt_le, Int32.reduceToInt] at h1 h2
  have : f.toNatClampNeg = f.toInt.toNat := rfl
  omega
theorem st_findings {E : xE} {M : xMem} (h : InvJ M) (v0 : Int32) : Stq E mX10_findings mX11_findings [.int v0] M := by
  obtain ⟨s, d, n, W, H, B, g, dd, S, P, K, hc, hr, ho, hp⟩ := h
  refine stp_o (x := none) (y := none) hc hr ho hp (CfC (c_X10_findings hc.1.1 hc.1.2.1)) (fun m hm hr2 => ?_)
  rw [fnd_c (b := m.1 75 v0.toNatClampNeg) (fun z => by rw [cS_m hm (by decide)]; exact hp.2.2.1 _ (fnd_k z).1 (fnd_k z).2)]
  exact CfR (c_X11_findings (rJ_1 hr2).1 (rJ_1 hr2).2.1)
theorem rc_1 {M m : xMem} (hp : cpl M) (hm : cS (oC M none none) m) : rcN (fun r => M.1 (42 + 2 * r) 1) 6 = rcN (fun r => m.1 76 r) 6 := rcN_c 6 (fun r hr => by show M.1 (42 + 2 * r) 1 = m.1 76 r; rw [cS_m hm (by decide)]; exact (hp.2.2.2.1 r hr).1)
theorem rc_2 {M m : xMem} (hp : cpl M) (hm : cS (oC M none none) m) : rcN (fun r => M.1 (54 + 2 * r) 1) 4 = rcN (fun r => m.1 79 r) 4 := rcN_c 4 (fun r hr => by show M.1 (54 + 2 * r) 1 = m.1 79 r; rw [cS_m hm (by decide)]; exact (hp.2.2.2.2 r hr).1)
theorem zK {M : xMem} (hz : zIn M) : kpM M (fun _ => none) := fun k hk => ⟨fun _ => hz.2.2.2.2.2.1 k hk, fun q hq => by cases hq⟩
theorem st_count {E : xE} {M : xMem} (h : InvJ M) (v0 : Int32) : Stq E mX10_count mX11_count [.int v0] M := by
  obtain ⟨s, d, n, W, H, B, g, dd, S, P, K, hc, hr, ho, hp⟩ := h
  refine stp_o (x := none) (y := none) hc hr ho hp (c_X10_count hc.1 hc.2.2.2.2.1) (fun m hm hr2 => ?_)
  rw [rc_1 hp hm, rc_2 hp hm]
  rcases hr2 with hr2 | ⟨hz, rfl, rfl, rfl, rfl, rfl, rfl, rfl⟩
  · exact CtS (c_X11_count hr2.1 hr2.2.1 hr2.2.2)
  · exact CtS (z_count hz.1 hz.2.1 hz.2.2.1.2.2.2 _ _ hz.2.2.2.1 hz.2.2.2.2.1 hz.2.2.1.1 hz.2.2.1.2.1 hz.2.2.1.2.2.1 (zK hz) hz.2.2.2.2.2.2)
theorem st_digest {E : xE} {M : xMem} (h : InvJ M) : StqL E mX10_digest mX11_digest [] M := by
  obtain ⟨s, d, n, W, H, B, g, dd, S, P, K, hc, hr, ho, hp⟩ := h
  refine stp_oL (x := none) (y := none) hc hr ho hp (c_X10_digest hc.1 hc.2.2.2.2.2 hc.2.2.2.2.1) (fun m hm hr2 => ?_)
  rw [rc_1 hp hm, rc_2 hp hm, dgN_c (z := fun r => M.1 (54 + 2 * r) 1) (z' := fun r => m.1 79 r) (c := fun r i => M.1 (54 + 2 * r + 1) i) (c' := fun r i => m.1 80 (120 * r + i)) 4 (fun r hr => by
    show M.1 (54 + 2 * r) 1 = m.1 79 r ∧ ∀ i, i < (m.1 79 r).toNatClampNeg → M.1 (54 + 2 * r + 1) i = m.1 80 (120 * r + i)
    rw [cS_m hm (by decide), cS_m hm (by decide)]; exact hp.2.2.2.2 r hr), dgN_c (z := fun r => M.1 (42 + 2 * r) 1) (z' := fun r => m.1 76 r) (c := fun r i => M.1 (42 + 2 * r + 1) i) (c' := fun r i => m.1 77 (40 * r + i)) 6 (fun r hr => by
    show M.1 (42 + 2 * r) 1 = m.1 76 r ∧ ∀ i, i < (m.1 76 r).toNatClampNeg → M.1 (42 + 2 * r + 1) i = m.1 77 (40 * r + i)
    rw [cS_m hm (by decide), cS_m hm (by decide)]; exact hp.2.2.2.1 r hr)]
  rcases hr2 with hr2 | ⟨hz, rfl, rfl, rfl, rfl, rfl, rfl, rfl⟩
  · exact CtS (c_X11_digest hr2.1 hr2.2.2 hr2.2.1)
  · exact CtS (z_digest hz.1 hz.2.1 hz.2.2.1.2.2.2 _ _ hz.2.2.2.1 hz.2.2.2.2.1 hz.2.2.1.1 hz.2.2.1.2.1 hz.2.2.1.2.2.1 (zK hz) hz.2.2.2.2.2.2)
