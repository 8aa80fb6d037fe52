/-! ===== faultOf ===== -/
theorem stl_o {M : xMem} {fr a : Nat} {B : Int32} (h : a ≠ fr) : (stlM M fr B).1 a = M.1 a := by
  funext k
  unfold stlM
  rw [xI_wI, if_neg (fun z => h z.1), xI_wI, if_neg (fun z => h z.1), xI_wI, if_neg (fun z => h z.1), xI_wI, if_neg (fun z => h z.1), xI_wI, if_neg (fun z => h z.1)]
theorem stl_v {M : xMem} {fr B f : Nat} {g : Nat → Nat → Nat} (ho : okF g f) (hg : ∀ k, k < 7 → M.1 fr k = nI (g f k)) : ∀ k, k < 12 → (stlM M fr (nI B)).1 fr k = nI (fd B g f k) := by
  obtain ⟨h0, h1, h1', h2, h2', h3, h4, h5, h6, h7, h8⟩ := ho
  have e3 : M.1 fr 0 = 3 ↔ g f 0 = 3 := by rw [hg 0 (by decide)]; exact nI_lit (show (3 : Int32) = nI 3 from rfl) (by omega) (by decide)
  have e2 : M.1 fr 0 = 2 ↔ g f 0 = 2 := by rw [hg 0 (by decide)]; exact nI_lit (show (2 : Int32) = nI 2 from rfl) (by omega) (by decide)
  intro k hk
  have f7 : fd B g f 7 = B + (if g f 0 = 2 then 1 else 0) := rfl
  have f8 : fd B g f 8 = (if g f 0 = 3 then g f 1 else g f 1 - g f 3 - g f 5) := rfl
  have f9 : fd B g f 9 = (if g f 0 = 3 then g f 2 else g f 2 - g f 4 - g f 6) := rfl
  have f10 : fd B g f 10 = (if g f 0 = 3 then 0 else g f 3) := rfl
  have f11 : fd B g f 11 = (if g f 0 = 3 then 0 else g f 4) := rfl
  unfold stlM
  by_cases c7 : k < 7
  · rw [show fd B g f k = g f k from if_pos c7, xI_wI, if_neg (fun z => by omega), xI_wI, if_neg (fun z => by omega), xI_wI, if_neg (fun z => by omega), xI_wI, if_neg (fun z => by omega), xI_wI, if_neg (fun z => by omega)]
    exact hg k c7
  · rcases (show k = 7 ∨ k = 8 ∨ k = 9 ∨ k = 10 ∨ k = 11 by omega) with rfl | rfl | rfl | rfl | rfl
    · rw [xI_wI, if_neg (fun z => by omega), xI_wI, if_neg (fun z => by omega), xI_wI, if_neg (fun z => by omega), xI_wI, if_neg (fun z => by omega), wI_self, f7]
      by_cases z : g f 0 = 2
      · rw [if_pos (e2.mpr z), if_pos z]; exact nI_1 B
      · rw [if_neg (fun y => z (e2.mp y)), if_neg z]; rfl
    · rw [xI_wI, if_neg (fun z => by omega), xI_wI, if_neg (fun z => by omega), xI_wI, if_neg (fun z => by omega), wI_self, f8, hg 1 (by decide), hg 3 (by decide), hg 5 (by decide)]
      by_cases z : g f 0 = 3
      · rw [if_neg (fun y => y (e3.mpr z)), if_pos z]
      · rw [if_pos (fun y => z (e3.mp y)), if_neg z, pk_sub (by omega), pk_sub (by omega)]
    · rw [xI_wI, if_neg (fun z => by omega), xI_wI, if_neg (fun z => by omega), wI_self, f9, hg 2 (by decide), hg 4 (by decide), hg 6 (by decide)]
      by_cases z : g f 0 = 3
      · rw [if_neg (fun y => y (e3.mpr z)), if_pos z]
      · rw [if_pos (fun y => z (e3.mp y)), if_neg z, pk_sub (by omega), pk_sub (by omega)]
    · rw [xI_wI, if_neg (fun z => by omega), wI_self, f10, hg 3 (by decide)]
      by_cases z : g f 0 = 3
      · rw [if_neg (fun y => y (e3.mpr z)), if_pos z]; rfl
      · rw [if_pos (fun y => z (e3.mp y)), if_neg z]
    · rw [wI_self, f11, hg 4 (by decide)]
      by_cases z : g f 0 = 3
      · rw [if_neg (fun y => y (e3.mpr z)), if_pos z]; rfl
      · rw [if_pos (fun y => z (e3.mp y)), if_neg z]
def zS (d : Nat) (M m : xMem) : Prop := m.2 = M.2 ∧ ∀ a, (a < d + 2 ∨ d + 9 < a) → m.1 a = M.1 a

set_option maxRecDepth 100000 in
theorem l_X7_settleFrames {E : xE} {M : xMem} {d n B : Nat} {g : Nat → Nat → Nat} (hM : xNT ≤ xN M) (hW : xWire M.2.1) (hd : xob d 7) (h8 : n ≤ 8) (en : M.1 d 1 = nI n) (eb : M.1 d 4 = nI B) (hg : ∀ f, f < n → ∀ k, k < 7 → M.1 (fA d f) k = nI (g f k)) (ho : ∀ f, f < n → okF g f) : ∀ m, zS d M m → (∀ f, f < 0 → ∀ k, k < 12 → m.1 (fA d f) k = nI (fd B g f k)) → (∀ f, 0 ≤ f → f < n → ∀ k, k < 7 → m.1 (fA d f) k = nI (g f k)) → PR E mX7_settleFrames (xN M) 2 [some (.ref d), some (.int (nI 0))] [] (m) (fun r m => r = none ∧ zS d M m ∧ ∀ f, f < n → ∀ k, k < 12 → m.1 (fA d f) k = nI (fd B g f k)) := by
  refine px_for (P := fun i => ∀ m, zS d M m → (∀ f, f < i → ∀ k, k < 12 → m.1 (fA d f) k = nI (fd B g f k)) → (∀ f, i ≤ f → f < n → ∀ k, k < 7 → m.1 (fA d f) k = nI (g f k)) → PR E mX7_settleFrames (xN M) 2 [some (.ref d), some (.int (nI i))] [] (m) (fun r m => r = none ∧ zS d M m ∧ ∀ f, f < n → ∀ k, k < 12 → m.1 (fA d f) k = nI (fd B g f k))) (n) (fun i hi nx => ?_) (0) (Nat.zero_le _)
  intro m hz i1 i2
  have hm : xNT ≤ xN m := by show xNT ≤ m.2.2.2; rw [hz.1]; exact hM
  have hw : xWire m.2.1 := by rw [hz.1]; exact hW
  refine px_iload_n dX7_settleFrames_2 rfl rfl ?_
  refine px_aload_n dX7_settleFrames_3 rfl rfl ?_
  refine px_getI dX7_settleFrames_4 fX7_17 hd hm rfl ?_
  refine px_top (y := nI n) (by rw [hz.2 d (by omega)]; exact en) ?_
  refine px_icmp_ge 29 dX7_settleFrames_7 rfl (fun h7 => ?_) (fun h7 => ?_)
  · have hi2 : i = n := by rw [nI_leI (by omega) (by omega)] at h7; omega
    subst hi2
    exact px_ret dX7_settleFrames_29 rfl ⟨rfl, hz, i1⟩ ((show m.2.2.2 = M.2.2.2 by rw [hz.1]))
  · have hlt : i < n := by rw [nI_leI (by omega) (by omega)] at h7; omega
    have hni : (nI i).toNatClampNeg = i := nI_clamp (by omega)
    refine px_aload_n dX7_settleFrames_10 rfl rfl ?_
    refine px_getR dX7_settleFrames_11 fX7_11 hd hm rfl (wr_7_0 hw hd) (Nat.succ_pos _) ?_
    refine px_iload_n dX7_settleFrames_14 rfl rfl ?_
    refine px_aald (t0 := 6) dX7_settleFrames_15 (ar_7 hd) (by decide) (fun _ => rfl) hm (vp_in_nI (by omega) (by decide)) (show m.2.1 (d + 1) (nI i).toNatClampNeg = d + 1 + 1 + i by rw [hni]; exact wa_26 hw (ar_7 hd) (by omega)) (by omega) ?_
    refine px_aload_n dX7_settleFrames_16 rfl rfl ?_
    refine px_getI dX7_settleFrames_17 fX7_27 hd hm rfl ?_
    refine px_top (y := nI B) (by rw [hz.2 d (by omega)]; exact eb) ?_
    refine px_fV1v dX7_settleFrames_20 kX7_settleFrames_31 (ob_frame hd (by omega)) hm (Nat.le_of_ble_eq_true rfl) (c_X0_settle (fr := d + 1 + 1 + i) (ob_frame hd (by omega)) hm) ?_
    refine px_inc_1 dX7_settleFrames_23 rfl ic_1 ?_
    refine px_goto 2 dX7_settleFrames_26 rfl ?_
    refine px_eq (by rw [nI_1]) rfl (nx hlt (stlM m (fA d i) (nI B)) ⟨hz.1, fun a ha => ?_⟩ (fun f hf k hk => ?_) (fun f hf1 hf2 k hk => ?_))
    · rw [stl_o (by show a ≠ d + 1 + 1 + i; omega)]; exact hz.2 a ha
    · by_cases e : f = i
      · rw [e]; exact stl_v (ho i hlt) (i2 i (Nat.le_refl _) hlt) k hk
      · rw [stl_o (by show d + 1 + 1 + f ≠ d + 1 + 1 + i; omega)]; exact i1 f (by omega) k hk
    · rw [stl_o (by show d + 1 + 1 + f ≠ d + 1 + 1 + i; omega)]; exact i2 f (by omega) hf2 k hk

set_option maxRecDepth 100000 in
theorem c_X7_settleFrames {E : xE} {M : xMem} {d n B : Nat} {g : Nat → Nat → Nat} (hM : xNT ≤ xN M) (hW : xWire M.2.1) (hd : xob d 7) (h8 : n ≤ 8) (en : M.1 d 1 = nI n) (eb : M.1 d 4 = nI B) (hg : ∀ f, f < n → ∀ k, k < 7 → M.1 (fA d f) k = nI (g f k)) (ho : ∀ f, f < n → okF g f) : Ct E mX7_settleFrames [.ref d] M (xN M) (fun r m => r = none ∧ zS d M m ∧ ∀ f, f < n → ∀ k, k < 12 → m.1 (fA d f) k = nI (fd B g f k)) := by
  refine Ct.of (lo := [some (.ref d), none]) pln_X7 (Nat.le_of_ble_eq_true rfl) rfl (Nat.le_refl _) ?_
  refine px_iconst dX7_settleFrames_0 ic_0 ?_
  refine px_si_1 dX7_settleFrames_1 rfl ?_
  exact l_X7_settleFrames hM hW hd h8 en eb hg ho M ⟨rfl, fun _ _ => rfl⟩ (fun f hf => absurd hf (by omega)) (fun f _ hf => hg f hf)

noncomputable def lp (b : Nat → Int32) (N : Nat) : Nat → pSt → Nat → Nat × Option pSt
  | 0, s, j => (j, some s)
  | k + 1, s, j => @ite _ (tK b N j = 0) (Classical.propDecidable _) (j, some s) (@ite _ (stO b N s j) (Classical.propDecidable _) (lp b N k (stS b N s j) (stJ b N s j)) (stJ b N s j, none))
theorem lp_e {b : Nat → Int32} {N k : Nat} {s : pSt} {j : Nat} (h : tK b N j = 0) : lp b N k s j = (j, some s) := by
  cases k with
  | zero => rfl
  | succ k => rw [lp, if_pos h]
theorem lp_f {b : Nat → Int32} {N k : Nat} {s : pSt} {j : Nat} (h : ¬ tK b N j = 0) (h2 : ¬ stO b N s j) : lp b N (k + 1) s j = (stJ b N s j, none) := by rw [lp, if_neg h, if_neg h2]
theorem lp_s {b : Nat → Int32} {N k : Nat} {s : pSt} {j : Nat} (h : ¬ tK b N j = 0) (h2 : stO b N s j) : lp b N (k + 1) s j = lp b N k (stS b N s j) (stJ b N s j) := by rw [lp, if_neg h, if_pos h2]
noncomputable def flR (b : Nat → Int32) (N : Nat) : Nat × Option pSt := @ite _ (isW b N 0 0 ∧ ff (pgC b N 0) 3 1 = 4) (Classical.propDecidable _) (lp b N N (none, 0, fun _ _ => 0) (pgJ b N 0)) (pgJ b N 0, none)
noncomputable def flQ (b : Nat → Int32) (N : Nat) : Nat × Option pSt → Int32
  | (j, none) => nI (tF b N j)
  | (j, some s) => if s.2.1 = 0 then nI (tF b N j) else -9
theorem wire_c {r r' : Nat → Nat → Nat} (h : xWire r) (e : ∀ a j, a ≠ 10 → (a ≠ 1 ∨ j ≠ 10) → r' a j = r a j) : xWire r' := by
  obtain ⟨h1, h2, h3, h4, h5, h6, h7, h8, h9, h10, h11, h12, h13, h14⟩ := h
  refine ⟨fun j hj => by rw [e 1 j (by decide) (Or.inr (by omega))]; exact h1 j hj, fun j hj => by rw [e 24 j (by decide) (Or.inl (by decide))]; exact h2 j hj, fun j hj => by rw [e 25 j (by decide) (Or.inl (by decide))]; exact h3 j hj, by rw [e 22 0 (by decide) (by decide)]; exact h4, fun j hj => by rw [e 74 j (by decide) (Or.inl (by decide))]; exact h5 j hj, fun a ha => ?_, fun a ha => ?_, fun a ha => ?_, fun a ha => ?_, fun a ha => ?_, fun j hj => by rw [e 2 j (by decide) (Or.inl (by decide))]; exact h11 j hj, fun j hj => by rw [e 3 j (by decide) (Or.inl (by decide))]; exact h12 j hj, fun j hj => by rw [e 4 j (by decide) (Or.inl (by decide))]; exact h13 j hj, fun a j ha hj => ?_⟩
  · have := xob_5 ha; rw [e a 0 (by omega) (by omega)]; exact h6 a ha
  · have := xob_9 ha; rw [e a 0 (by omega) (by omega)]; exact h7 a ha
  · have := xob_1 ha; rw [e a 0 (by omega) (by omega)]; exact h8 a ha
  · have := xob_7 ha; rw [e a 0 (by omega) (by omega)]; exact h9 a ha
  · have := xob_8 ha; rw [e a 0 (by omega) (by omega), e a 1 (by omega) (by omega)]; exact h10 a ha
  · have n10 : a ≠ 10 := fun z => by rw [z] at ha; exact absurd ha.2.2 (by decide +kernel)
    have n1 : a ≠ 1 := fun z => by rw [z] at ha; exact absurd ha.2.2 (by decide +kernel)
    rw [e a j n10 (Or.inl n1)]; exact h14 a j ha hj

set_option maxRecDepth 100000 in
theorem l_fo68 {E : xE} {M : xMem} {a N d W H : Nat} {b : Nat → Int32} {R : Nat × Option pSt} {QQ : Option Value → xMem → Prop} (hr : rdr M a N b) (hdr0 : M.2.1 10 0 = d) (hd : xob d 7) (kf : ∀ m j, sS d M m → tokS m b N j → R = (j, none) → QQ (some (.int (nI (tF b N j)))) m) (k0 : ∀ m j s, sS d M m → tokS m b N j → R = (j, some s) → s.2.1 = 0 → QQ (some (.int (nI (tF b N j)))) m) (k1 : ∀ m j s, sS d M m → R = (j, some s) → ¬ s.2.1 = 0 → okP s → cSh m d s.2.1 W H (s.1.getD 0) s.2.2 → QQ (some (.int (-9))) m) : ∀ m s j, sS d M m → pS m d b N j s W H → okP s → lp b N (N - 0) s j = R → PR E mX3_faultOf (xN M) 68 [some (.ref 10), some (.ref a), some (.int (nI 0))] [] (m) (QQ) := by
  have hN : N ≤ 120 := hr.2.2.2.1
  have hd0 : 0 < d := hd.1
  have hd7 := xob_7 hd
  refine px_for (P := fun i => ∀ m s j, sS d M m → pS m d b N j s W H → okP s → lp b N (N - i) s j = R → PR E mX3_faultOf (xN M) 68 [some (.ref 10), some (.ref a), some (.int (nI i))] [] (m) (QQ)) (N) (fun i hi nx => ?_) (0) (Nat.zero_le _)
  intro m s j hk hp hok hR
  have hrm := hk.r hd hr
  have hm := hrm.1
  have hw := hrm.2.1
  have hdr : m.2.1 10 0 = d := by rw [hk.1]; exact hdr0
  have htk := hp.1
  have hn8 := hok.2.1
  refine px_iload_n dX3_faultOf_68 rfl rfl ?_
  refine px_aload_n dX3_faultOf_69 rfl rfl ?_
  refine px_getI dX3_faultOf_70 fX3_22 (xol rfl) hm rfl ?_
  refine px_top (y := nI N) hrm.2.2.1 ?_
  refine px_icmp_ge 101 dX3_faultOf_73 rfl (fun h73 => ?_) (fun h73 => ?_)
  · have hRR : R = (j, some s) := by
      first
        | (have e : tK b N j = 0 := nI_is (show (0 : Int32) = nI 0 from rfl) (by unfold tK; (repeat' split) <;> omega) (by decide) h80; rw [lp_e e] at hR; exact hR.symm)
        | (have e : N - i = 0 := (by rw [nI_leI (by omega) (by omega)] at h73; omega); rw [e] at hR; exact hR.symm)
    refine px_aload_n dX3_faultOf_101 rfl rfl ?_
    refine px_getR dX3_faultOf_102 fX3_12 (xol rfl) hm rfl (by assumption) (by assumption) ?_
    refine px_getI dX3_faultOf_105 fX3_52 hd hm rfl ?_
    refine px_top (y := nI s.2.1) hp.2.2.2.1 ?_
    refine px_if_ne 116 dX3_faultOf_108 rfl (fun h108 => ?_) (fun h108 => ?_)
    · have e0 : ¬ s.2.1 = 0 := fun z => h108 (by rw [z]; rfl)
      refine px_aload_n dX3_faultOf_116 rfl rfl ?_
      refine px_getR dX3_faultOf_117 fX3_12 (xol rfl) hm rfl (by assumption) (by assumption) ?_
      refine px_gV0 dX3_faultOf_120 kX3_faultOf_66 hd hm (Nat.le_of_ble_eq_true rfl) (c_X7_settleFrames (n := s.2.1) (B := s.1.getD 0) (g := s.2.2) hm hw hd hn8 hp.2.2.2.1 hp.2.2.2.2.2.1 hp.2.2.2.2.2.2.2.2 hok.2.2) (fun r120 M120 hq120 hn120 => ?_)
      obtain ⟨rfl, q5, q6⟩ := hq120
      refine px_bipush dX3_faultOf_123 bp_m9 ?_
      exact px_iret dX3_faultOf_125 rfl (k1 _ _ _ (hk.tr ⟨q5.1, fun a a1 a2 => q5.2 a (by omega), fun k k1 => by rw [q5.2 10 (by omega)]⟩) hRR e0 hok ⟨by rw [q5.2 d (by omega)]; exact hp.2.2.2.1, by rw [q5.2 d (by omega)]; exact hp.2.2.2.2.2.2.1, by rw [q5.2 d (by omega)]; exact hp.2.2.2.2.2.2.2.1, by rw [q5.2 d (by omega)]; exact hp.2.2.2.2.2.1, q6⟩) (by first | exact (show m.2.2.2 = M.2.2.2 by rw [hk.1]) | exact hn84.trans (show m.2.2.2 = M.2.2.2 by rw [hk.1]) | exact hn120.trans (show m.2.2.2 = M.2.2.2 by rw [hk.1]))
    · have e0 : s.2.1 = 0 := nI_is (show (0 : Int32) = nI 0 from rfl) (by omega) (by decide) h108
      refine px_aload_n dX3_faultOf_111 rfl rfl ?_
      refine px_getI dX3_faultOf_112 fX3_29 (xol rfl) hm rfl ?_
      refine px_top (y := nI (tF b N j)) htk.2.2.1 ?_
      exact px_iret dX3_faultOf_115 rfl (k0 _ _ _ hk htk hRR e0) (by first | exact (show m.2.2.2 = M.2.2.2 by rw [hk.1]) | exact hn84.trans (show m.2.2.2 = M.2.2.2 by rw [hk.1]) | exact hn120.trans (show m.2.2.2 = M.2.2.2 by rw [hk.1]))
  · have hlt : i < N := by rw [nI_leI (by omega) (by omega)] at h73; omega
    refine px_aload_n dX3_faultOf_76 rfl rfl ?_
    refine px_getI dX3_faultOf_77 fX3_26 (xol rfl) hm rfl ?_
    refine px_top (y := nI (tK b N j)) htk.2.1 ?_
    refine px_if_eq 101 dX3_faultOf_80 rfl (fun h80 => ?_) (fun h80 => ?_)
    · have hRR : R = (j, some s) := by
        first
          | (have e : tK b N j = 0 := nI_is (show (0 : Int32) = nI 0 from rfl) (by unfold tK; (repeat' split) <;> omega) (by decide) h80; rw [lp_e e] at hR; exact hR.symm)
          | (have e : N - i = 0 := (by rw [nI_leI (by omega) (by omega)] at h73; omega); rw [e] at hR; exact hR.symm)
      refine px_aload_n dX3_faultOf_101 rfl rfl ?_
      refine px_getR dX3_faultOf_102 fX3_12 (xol rfl) hm rfl (by assumption) (by assumption) ?_
      refine px_getI dX3_faultOf_105 fX3_52 hd hm rfl ?_
      refine px_top (y := nI s.2.1) hp.2.2.2.1 ?_
      refine px_if_ne 116 dX3_faultOf_108 rfl (fun h108 => ?_) (fun h108 => ?_)
      · have e0 : ¬ s.2.1 = 0 := fun z => h108 (by rw [z]; rfl)
        refine px_aload_n dX3_faultOf_116 rfl rfl ?_
        refine px_getR dX3_faultOf_117 fX3_12 (xol rfl) hm rfl (by assumption) (by assumption) ?_
        refine px_gV0 dX3_faultOf_120 kX3_faultOf_66 hd hm (Nat.le_of_ble_eq_true rfl) (c_X7_settleFrames (n := s.2.1) (B := s.1.getD 0) (g := s.2.2) hm hw hd hn8 hp.2.2.2.1 hp.2.2.2.2.2.1 hp.2.2.2.2.2.2.2.2 hok.2.2) (fun r120 M120 hq120 hn120 => ?_)
        obtain ⟨rfl, q5, q6⟩ := hq120
        refine px_bipush dX3_faultOf_123 bp_m9 ?_
        exact px_iret dX3_faultOf_125 rfl (k1 _ _ _ (hk.tr ⟨q5.1, fun a a1 a2 => q5.2 a (by omega), fun k k1 => by rw [q5.2 10 (by omega)]⟩) hRR e0 hok ⟨by rw [q5.2 d (by omega)]; exact hp.2.2.2.1, by rw [q5.2 d (by omega)]; exact hp.2.2.2.2.2.2.1, by rw [q5.2 d (by omega)]; exact hp.2.2.2.2.2.2.2.1, by rw [q5.2 d (by omega)]; exact hp.2.2.2.2.2.1, q6⟩) (by first | exact (show m.2.2.2 = M.2.2.2 by rw [hk.1]) | exact hn84.trans (show m.2.2.2 = M.2.2.2 by rw [hk.1]) | exact hn120.trans (show m.2.2.2 = M.2.2.2 by rw [hk.1]))
      · have e0 : s.2.1 = 0 := nI_is (show (0 : Int32) = nI 0 from rfl) (by omega) (by decide) h108
        refine px_aload_n dX3_faultOf_111 rfl rfl ?_
        refine px_getI dX3_faultOf_112 fX3_29 (xol rfl) hm rfl ?_
        refine px_top (y := nI (tF b N j)) htk.2.2.1 ?_
        exact px_iret dX3_faultOf_115 rfl (k0 _ _ _ hk htk hRR e0) (by first | exact (show m.2.2.2 = M.2.2.2 by rw [hk.1]) | exact hn84.trans (show m.2.2.2 = M.2.2.2 by rw [hk.1]) | exact hn120.trans (show m.2.2.2 = M.2.2.2 by rw [hk.1]))
    · have h80n : ¬ tK b N j = 0 := fun z => h80 (by rw [z]; rfl)
      rw [show N - i = (N - (i + 1)) + 1 by omega] at hR
      refine px_aload_n dX3_faultOf_83 rfl rfl ?_
      refine px_gV0 dX3_faultOf_84 kX3_faultOf_63 (xol rfl) hm (Nat.le_of_ble_eq_true rfl) (c_X3_readStatement hrm hp hdr hd) (fun r84 M84 hq84 hn84 => ?_)
      obtain ⟨rfl, q2, q3, q4⟩ := hq84
      have hm5 : xNT ≤ xN M84 := by rw [hn84]; exact hm
      refine px_cif_ne 95 dX3_faultOf_87 rfl (fun h87 => ?_) (fun h87 => ?_)
      · refine px_inc_2 dX3_faultOf_95 rfl ic_1 ?_
        refine px_goto 68 dX3_faultOf_98 rfl ?_
        exact px_eq (by rw [nI_1]) rfl (nx hlt M84 _ _ (hk.tr q2) (q4 h87) (okP_s h87 hok) ((lp_s h80n h87).symm.trans hR))
      · refine px_aload_n dX3_faultOf_90 rfl rfl ?_
        refine px_getI dX3_faultOf_91 fX3_29 (xol rfl) hm5 rfl ?_
        refine px_top (y := nI (tF b N (stJ b N s j))) q3.2.2.1 ?_
        exact px_iret dX3_faultOf_94 rfl (kf _ _ (hk.tr q2) q3 (hR.symm.trans (lp_f h80n h87))) (by first | exact (show m.2.2.2 = M.2.2.2 by rw [hk.1]) | exact hn84.trans (show m.2.2.2 = M.2.2.2 by rw [hk.1]) | exact hn120.trans (show m.2.2.2 = M.2.2.2 by rw [hk.1]))

def foS (d a : Nat) (M m : xMem) : Prop := m.2 = (wR M 10 1 (a + 1)).2 ∧ ∀ c, c ≠ 10 → (c < d ∨ d + 9 < c) → m.1 c = M.1 c
set_option maxRecDepth 100000 in
theorem c_X3_faultOf {E : xE} {M : xMem} {a N d : Nat} {b : Nat → Int32} (hM : xNT ≤ xN M) (hW : xWire M.2.1) (hdr : M.2.1 10 0 = d) (hd : xob d 7) (ha : xob a 9) (hsz : M.1 a 1 = nI N) (hN : N ≤ 120) (hbb : ∀ i, i < N → M.1 (a + 1) i = b i) : Ct E mX3_faultOf [.ref 10, .ref a] M (xN M) (fun r m => r = some (.int (flQ b N (flR b N))) ∧ foS d a M m ∧ ∀ j s, flR b N = (j, some s) → ¬ s.2.1 = 0 → okSh s.2.1 (vv b N 0 1) (vv b N 0 2) (s.1.getD 0) s.2.2 ∧ cSh m d s.2.1 (vv b N 0 1) (vv b N 0 2) (s.1.getD 0) s.2.2) := by
  have hd0 : 0 < d := hd.1
  have hd7 := xob_7 hd
  have ha9 := xob_9 ha
  have hf1 : d ≠ 10 := by omega
  have hf2 : d < 54 := by omega
  have har : xar (a + 1) 21 120 := ar_9 ha
  have hbp : 0 < a + 1 := Nat.succ_pos _
  refine Ct.of (lo := [some (.ref 10), some (.ref a), none]) pln_X3 (Nat.le_of_ble_eq_true rfl) rfl (Nat.le_refl _) ?_
  refine px_aload_n dX3_faultOf_0 rfl rfl ?_
  refine px_aload_n dX3_faultOf_1 rfl rfl ?_
  refine px_getR dX3_faultOf_2 fX3_42 ha hM rfl (wr_9_0 hW ha) (Nat.succ_pos _) ?_
  refine px_putR dX3_faultOf_5 fX3_18 p3_1 (xol rfl) hM rfl (by first | assumption | exact Nat.succ_pos _ | omega) (fun _ => rfl) (fun _ => rfl) ?_
  have hW : xWire (wR M 10 1 (a + 1)).2.1 := wire_c hW (fun c j c1 _ => by rw [xR_wR, if_neg (fun z => c1 z.1)])
  have hdr : (wR M 10 1 (a + 1)).2.1 10 0 = d := hdr
  have hby : (wR M 10 1 (a + 1)).2.1 10 1 = a + 1 := rfl
  refine px_aload_n dX3_faultOf_8 rfl rfl ?_
  refine px_aload_n dX3_faultOf_9 rfl rfl ?_
  refine px_getI dX3_faultOf_10 fX3_45 ha hM rfl ?_
  refine px_top (y := nI N) hsz ?_
  refine px_aload_n dX3_faultOf_13 rfl rfl ?_
  refine px_getR dX3_faultOf_14 fX3_18 (xol rfl) hM rfl (by assumption) (by assumption) ?_
  refine px_alen dX3_faultOf_17 (by assumption) rfl hM ?_
  refine px_min dX3_faultOf_18 kX3_faultOf_46 (Nat.le_of_ble_eq_true rfl) ?_
  refine px_top (y := nI N) (if_neg (fun z => by rw [show (Int32.ofNat 120) = nI 120 from rfl, nI_ltI (by decide) (by omega)] at z; omega)) ?_
  refine px_putI dX3_faultOf_21 fX3_22 p3_2 (xol rfl) hM rfl ?_
  refine px_aload_n dX3_faultOf_24 rfl rfl ?_
  refine px_iconst dX3_faultOf_25 ic_0 ?_
  refine px_putI dX3_faultOf_26 fX3_32 p3_5 (xol rfl) hM rfl ?_
  refine px_aload_n dX3_faultOf_29 rfl rfl ?_
  refine px_iconst dX3_faultOf_30 ic_0 ?_
  refine px_putZ dX3_faultOf_31 fX3_38 p3_7 (xol rfl) hM rfl rfl rfl ?_
  refine px_aload_n dX3_faultOf_34 rfl rfl ?_
  refine px_getR dX3_faultOf_35 fX3_12 (xol rfl) hM rfl (by assumption) (by assumption) ?_
  refine px_iconst dX3_faultOf_38 ic_0 ?_
  refine px_putI dX3_faultOf_39 fX3_52 p7_1 hd hM rfl ?_
  refine px_aload_n dX3_faultOf_42 rfl rfl ?_
  refine px_getR dX3_faultOf_43 fX3_12 (xol rfl) hM rfl (by assumption) (by assumption) ?_
  refine px_iconst dX3_faultOf_46 ic_0 ?_
  refine px_putI dX3_faultOf_47 fX3_53 p7_4 hd hM rfl ?_
  have hr : rdr (wI (wI (wI (wI (wI (wR M 10 1 (a + 1)) 10 2 (nI N)) 10 5 0) 10 7 0) d 1 0) d 4 0) a N b := ⟨hM, hW, by rw [xI_wI, if_neg (fun z => hf1 z.1.symm), xI_wI, if_neg (fun z => hf1 z.1.symm)]; rfl, hN, hby, ha, fun i hi => by rw [xI_wI, if_neg (fun z => by omega), xI_wI, if_neg (fun z => by omega), xI_wI, if_neg (fun z => by omega), xI_wI, if_neg (fun z => by omega), xI_wI, if_neg (fun z => by omega)]; exact hbb i hi⟩
  have hto : (wI (wI (wI (wI (wI (wR M 10 1 (a + 1)) 10 2 (nI N)) 10 5 0) 10 7 0) d 1 0) d 4 0).1 10 5 = nI 0 := by rw [xI_wI, if_neg (fun z => hf1 z.1.symm), xI_wI, if_neg (fun z => hf1 z.1.symm)]; rfl
  have h107 : (wI (wI (wI (wI (wI (wR M 10 1 (a + 1)) 10 2 (nI N)) 10 5 0) 10 7 0) d 1 0) d 4 0).1 10 7 = 0 := by rw [xI_wI, if_neg (fun z => hf1 z.1.symm), xI_wI, if_neg (fun z => hf1 z.1.symm)]; rfl
  have fo6 : ∀ m, sS d (wI (wI (wI (wI (wI (wR M 10 1 (a + 1)) 10 2 (nI N)) 10 5 0) 10 7 0) d 1 0) d 4 0) m → foS d a M m := fun m hm => ⟨hm.1, fun c c1 c2 => by rw [hm.2.1 c c1 c2]; funext i; rw [xI_wI, if_neg (fun z => by omega), xI_wI, if_neg (fun z => by omega), xI_wI, if_neg (fun z => by omega), xI_wI, if_neg (fun z => by omega), xI_wI, if_neg (fun z => by omega)]; rfl⟩
  refine px_aload_n dX3_faultOf_50 rfl rfl ?_
  refine px_gV0 dX3_faultOf_51 kX3_faultOf_56 (xol rfl) hM (Nat.le_of_ble_eq_true rfl) (c_X3_advance hr (Nat.zero_le _) hto) (fun r51 M51 hq51 hn51 => ?_)
  obtain ⟨rfl, q1, q2⟩ := hq51
  have hM : xNT ≤ xN M51 := by rw [hn51]; exact hM
  have hW : xWire M51.2.1 := by rw [q1.1]; exact hW
  have hdr : M51.2.1 10 0 = d := by rw [q1.1]; exact hdr
  refine px_aload_n dX3_faultOf_54 rfl rfl ?_
  refine px_gV0 dX3_faultOf_55 kX3_faultOf_59 (xol rfl) hM (Nat.le_of_ble_eq_true rfl) (c_X3_readPage (j := 0) (q1.r hr) q2 hdr hd) (fun r55 M55 hq55 hn55 => ?_)
  obtain ⟨rfl, q3, q4, q5, q6⟩ := hq55
  have hM : xNT ≤ xN M55 := by rw [hn55]; exact hM
  have hW : xWire M55.2.1 := by rw [q3.1]; exact hW
  have hdr : M55.2.1 10 0 = d := by rw [q3.1]; exact hdr
  refine px_cif_ne 66 dX3_faultOf_58 rfl (fun h58 => ?_) (fun h58 => ?_)
  · refine px_iconst dX3_faultOf_66 ic_0 ?_
    refine px_si_2 dX3_faultOf_67 rfl ?_
    have hrm := q3.r hf2 (q1.r hr)
    have hR : flR b N = lp b N (N - 0) (none, 0, fun _ _ => 0) (pgJ b N 0) := if_pos h58
    have sX : sS d (wI (wI (wI (wI (wI (wR M 10 1 (a + 1)) 10 2 (nI N)) 10 5 0) 10 7 0) d 1 0) d 4 0) M55 := (q1.s).tr (q3.s ⟨Nat.le_refl _, by omega⟩)
    have pg1 := (nN_i (b := b) (N := N) (j := ps b N 0 1) (l := 4) (h := 16) (by decide) (by decide)).mp (pgC_1.mpr (ff_all 3 1 h58.2 1 (by omega) (by omega)))
    have pg2 := (nN_i (b := b) (N := N) (j := ps b N 0 2) (l := 4) (h := 16) (by decide) (by decide)).mp (pgC_2.mpr (ff_all 3 1 h58.2 2 (by omega) (by omega)))
    have hx := l_fo68 (E := E) (M := M55) (a := a) (N := N) (d := d) (W := vv b N 0 1) (H := vv b N 0 2) (b := b) (R := flR b N) (QQ := fun r m => r = some (.int (flQ b N (flR b N))) ∧ foS d a M m ∧ ∀ j s, flR b N = (j, some s) → ¬ s.2.1 = 0 → okSh s.2.1 (vv b N 0 1) (vv b N 0 2) (s.1.getD 0) s.2.2 ∧ cSh m d s.2.1 (vv b N 0 1) (vv b N 0 2) (s.1.getD 0) s.2.2) hrm hdr hd
      (fun m j hm ht hR => ⟨by rw [hR]; rfl, fo6 m (sX.tr hm), fun j' s z => by rw [hR] at z; exact absurd (congrArg Prod.snd z) (fun w => (by cases w))⟩)
      (fun m j s hm ht hR e0 => ⟨by rw [hR]; show _ = some (Value.int (if s.2.1 = 0 then _ else _)); rw [if_pos e0], fo6 m (sX.tr hm), fun j' s' z e1 => by rw [hR] at z; have w := Option.some.inj (congrArg Prod.snd z); rw [← w] at e1; exact absurd e0 e1⟩)
      (fun m j s hm hR e0 hok hsh => ⟨by rw [hR]; show _ = some (Value.int (if s.2.1 = 0 then _ else _)); rw [if_neg e0], fo6 m (sX.tr hm), fun j' s' z e1 => by rw [hR] at z; have w := Option.some.inj (congrArg Prod.snd z); rw [← w]; exact ⟨⟨hok.2.1, pg1.2.2, pg2.2.2, hok.1, fun _ => ⟨pg1.2.1, pg2.2.1⟩, hok.2.2⟩, hsh⟩⟩)
      M55 (none, 0, fun _ _ => 0) (pgJ b N 0) (sS.rf d M55)
      ⟨q4, fun _ => by rw [q3.2.2 7 (by omega), q1.2.2 7 (by omega)]; exact h107, fun z => absurd rfl z, by rw [q5 1 (by decide) (by decide), q1.2.1 d hf1, xI_wI, if_neg (fun z => by omega), wI_self]; rfl, by show 0 ≤ 8; omega, by rw [q5 4 (by decide) (by decide), q1.2.1 d hf1, wI_self]; rfl, (q6 h58).1, (q6 h58).2, fun f hf => absurd hf (Nat.not_lt_zero f)⟩
      ⟨by show 0 ≤ 2; omega, by show 0 ≤ 8; omega, fun f hf => absurd hf (Nat.not_lt_zero f)⟩ hR.symm
    rw [show xN M55 = xN M from hn55.trans hn51] at hx
    exact hx
  · refine px_aload_n dX3_faultOf_61 rfl rfl ?_
    refine px_getI dX3_faultOf_62 fX3_29 (xol rfl) hM rfl ?_
    refine px_top (y := nI (tF b N (pgJ b N 0))) q4.2.2.1 ?_
    exact px_iret dX3_faultOf_65 rfl (by rw [show flR b N = (pgJ b N 0, none) from if_neg h58]; exact ⟨rfl, fo6 _ ((q1.s).tr (q3.s ⟨Nat.le_refl _, by omega⟩)), fun j s z => absurd (congrArg Prod.snd z) (fun w => (by cases w))⟩) (by first | rfl | exact hn55.trans hn51)
