/-! ===== readStatement ===== -/
abbrev pSt : Type := Option Nat × Nat × (Nat → Nat → Nat)
def stO (b : Nat → Int32) (N : Nat) (s : pSt) (j : Nat) : Prop := (isW b N j 1 ∧ s.1 = none ∧ ff (blC b N j) 2 1 = 3) ∨ (¬ isW b N j 1 ∧ ¬ kW b N j = -9 ∧ s.2.1 < 8 ∧ ff (fmC b N j) 7 1 = 8)
noncomputable def stJ (b : Nat → Int32) (N : Nat) (s : pSt) (j : Nat) : Nat := @ite _ (isW b N j 1) (Classical.propDecidable _) (@ite _ (s.1 = none) (Classical.propDecidable _) (ps b N j (ff (blC b N j) 2 1)) j) (@ite _ (¬ kW b N j = -9 ∧ s.2.1 < 8) (Classical.propDecidable _) (ps b N j (ff (fmC b N j) 7 1)) j)
noncomputable def gN (b : Nat → Int32) (N j n : Nat) (g : Nat → Nat → Nat) : Nat → Nat → Nat := fun f k => if f = n then (if k = 0 then (kW b N j).toNatClampNeg else vv b N j k) else g f k
noncomputable def stS (b : Nat → Int32) (N : Nat) (s : pSt) (j : Nat) : pSt := @ite _ (isW b N j 1) (Classical.propDecidable _) (some (vv b N j 1), s.2) (s.1, s.2.1 + 1, gN b N j s.2.1 s.2.2)
def pS (M : xMem) (d : Nat) (b : Nat → Int32) (N j : Nat) (s : pSt) (W H : Nat) : Prop := tokS M b N j ∧ (s.1 = none → M.1 10 7 = 0) ∧ (¬ s.1 = none → M.1 10 7 = 1) ∧ M.1 d 1 = nI s.2.1 ∧ s.2.1 ≤ 8 ∧ M.1 d 4 = nI (s.1.getD 0) ∧ M.1 d 2 = nI W ∧ M.1 d 3 = nI H ∧ ∀ f, f < s.2.1 → ∀ k, k < 7 → M.1 (fA d f) k = nI (s.2.2 f k)
def sS (d : Nat) (M m : xMem) : Prop := m.2 = M.2 ∧ (∀ a, a ≠ 10 → (a < d ∨ d + 9 < a) → m.1 a = M.1 a) ∧ ∀ k, k < 3 → m.1 10 k = M.1 10 k
theorem sS.rf (d : Nat) (M : xMem) : sS d M M := ⟨rfl, fun _ _ _ => rfl, fun _ _ => rfl⟩
theorem sS.tr {d : Nat} {M M1 M2 : xMem} (h : sS d M M1) (h' : sS d M1 M2) : sS d M M2 := ⟨h'.1.trans h.1, fun a a1 a2 => (h'.2.1 a a1 a2).trans (h.2.1 a a1 a2), fun k k1 => (h'.2.2 k k1).trans (h.2.2 k k1)⟩
theorem rdS.s {d : Nat} {M m : xMem} (h : rdS M m) : sS d M m := ⟨h.1, fun a a1 _ => h.2.1 a a1, fun k k1 => h.2.2 k (by omega)⟩
theorem bS.s {d : Nat} {M m : xMem} (h : bS d M m) : sS d M m := ⟨h.1, fun a a1 a2 => h.2.1 a a1 (by omega), h.2.2⟩
theorem fS.s {d fr : Nat} {M m : xMem} (hf : d ≤ fr ∧ fr ≤ d + 9) (h : fS fr M m) : sS d M m := ⟨h.1, fun a a1 a2 => h.2.1 a a1 (by omega), fun k k1 => h.2.2 k (by omega)⟩
theorem sS.p {d a k : Nat} {M m : xMem} {v : Int32} (ha : d ≤ a ∧ a ≤ d + 9) (hd : 10 < d) (h : sS d M m) : sS d M (wI m a k v) := ⟨h.1, fun c c1 c2 => by funext i; rw [xI_wI, if_neg (fun z => by omega), h.2.1 c c1 c2], fun i i1 => by rw [xI_wI, if_neg (fun z => by omega), h.2.2 i i1]⟩
theorem sS.r {d : Nat} {M m : xMem} {a N : Nat} {b : Nat → Int32} (h : sS d M m) (hd : xob d 7) (hr : rdr M a N b) : rdr m a N b := by
  obtain ⟨h1, h2, h3, h4, h5, h6, h7⟩ := hr
  have := xob_9 h6
  have := xob_7 hd
  exact ⟨by show xNT ≤ m.2.2.2; rw [h.1]; exact h1, by rw [h.1]; exact h2, by rw [h.2.2 2 (by omega)]; exact h3, h4, by rw [h.1]; exact h5, h6, fun i hi => by rw [h.2.1 (a + 1) (by omega) (by omega)]; exact h7 i hi⟩
theorem zc_nar {p : Prop} : narrow .boolean (.int (zc p)) = .int (zc p) := @zb_nar p (Classical.propDecidable p)
theorem ff_ay {c : Nat → Prop} {l : Nat} : ∀ k q, ff c k q = q + k → ff c (k + l) q = ff c l (q + k)
  | 0, q, _ => by rw [Nat.zero_add, Nat.add_zero]
  | k + 1, q, h => by
    by_cases hc : c q
    · rw [ff_y hc] at h
      rw [show k + 1 + l = (k + l) + 1 by omega, ff_y hc, ff_ay k (q + 1) (by omega)]
      congr 1; omega
    · rw [ff_n hc] at h; omega
theorem ff_an {c : Nat → Prop} {l : Nat} : ∀ k q, ¬ ff c k q = q + k → ff c (k + l) q = ff c k q
  | 0, q, h => absurd rfl h
  | k + 1, q, h => by
    by_cases hc : c q
    · rw [ff_y hc] at h
      rw [show k + 1 + l = (k + l) + 1 by omega, ff_y hc, ff_y hc, ff_an k (q + 1) (by omega)]
    · rw [show k + 1 + l = (k + l) + 1 by omega, ff_n hc, ff_n hc]
theorem kW_n {b : Nat → Int32} {N j : Nat} (h : ¬ kW b N j = -9) : ∃ k, k < 4 ∧ kW b N j = nI k := by
  unfold kW at h ⊢
  by_cases h1 : isW b N j 2
  · exact ⟨0, by omega, by rw [if_pos h1]; rfl⟩
  · rw [if_neg h1] at h ⊢
    by_cases h2 : isW b N j 3
    · exact ⟨1, by omega, by rw [if_pos h2]; rfl⟩
    · rw [if_neg h2] at h ⊢
      by_cases h3 : isW b N j 4
      · exact ⟨2, by omega, by rw [if_pos h3]; rfl⟩
      · rw [if_neg h3] at h ⊢
        by_cases h4 : isW b N j 5
        · exact ⟨3, by omega, by rw [if_pos h4]; rfl⟩
        · rw [if_neg h4] at h; exact absurd rfl h
def okP (s : pSt) : Prop := s.1.getD 0 ≤ 2 ∧ s.2.1 ≤ 8 ∧ ∀ f, f < s.2.1 → okF s.2.2 f
theorem okP_s {b : Nat → Int32} {N : Nat} {s : pSt} {j : Nat} (h : stO b N s j) (ho : okP s) : okP (stS b N s j) := by
  obtain ⟨h1, h2, h3⟩ := ho
  unfold stS
  rcases h with ⟨z1, z2, z3⟩ | ⟨z1, z2, z3, z4⟩
  · rw [if_pos z1]
    have c := ff_all 2 1 z3 1 (by omega) (by omega)
    unfold blC at c
    rw [if_pos rfl] at c
    exact ⟨c.2.2, h2, h3⟩
  · rw [if_neg z1]
    refine ⟨h1, by show s.2.1 + 1 ≤ 8; omega, fun f hf => ?_⟩
    have hf : f < s.2.1 + 1 := hf
    by_cases e : f = s.2.1
    · subst e
      have c := fun i h1 h2 => ff_all 7 1 z4 i h1 h2
      have c1 : nN b N (ps b N j 1) 1 16 := by have := c 1 (by omega) (by omega); unfold fmC at this; rw [if_pos (Or.inl rfl)] at this; exact this
      have c2 : nN b N (ps b N j 2) 1 16 := by have := c 2 (by omega) (by omega); unfold fmC at this; rw [if_pos (Or.inr rfl)] at this; exact this
      have c3 : nN b N (ps b N j 3) 0 9 := by have := c 3 (by omega) (by omega); unfold fmC at this; rw [if_neg (by omega), if_pos (Or.inl rfl)] at this; exact this
      have c4 : nN b N (ps b N j 4) 0 9 := by have := c 4 (by omega) (by omega); unfold fmC at this; rw [if_neg (by omega), if_pos (Or.inr rfl)] at this; exact this
      have c5 : nN b N (ps b N j 5) 0 9 ∧ vv b N j 3 + vv b N j 5 < vv b N j 1 := by have := c 5 (by omega) (by omega); unfold fmC at this; rw [if_neg (by omega), if_neg (by omega), if_pos rfl] at this; exact this
      have c6 : nN b N (ps b N j 6) 0 9 ∧ vv b N j 4 + vv b N j 6 < vv b N j 2 := by have := c 6 (by omega) (by omega); unfold fmC at this; rw [if_neg (by omega), if_neg (by omega), if_neg (by omega), if_pos rfl] at this; exact this
      obtain ⟨k, hk, ek⟩ := kW_n z2
      have e0 : ∀ q, gN b N j s.2.1 s.2.2 s.2.1 q = if q = 0 then k else vv b N j q := fun q => by unfold gN; rw [if_pos rfl, ek, nI_clamp (by omega)]
      show okF (gN b N j s.2.1 s.2.2) s.2.1
      unfold okF
      have g0 : gN b N j s.2.1 s.2.2 s.2.1 0 = k := by rw [e0, if_pos rfl]
      have g1 : gN b N j s.2.1 s.2.2 s.2.1 1 = vv b N j 1 := by rw [e0, if_neg (by decide)]
      have g2 : gN b N j s.2.1 s.2.2 s.2.1 2 = vv b N j 2 := by rw [e0, if_neg (by decide)]
      have g3 : gN b N j s.2.1 s.2.2 s.2.1 3 = vv b N j 3 := by rw [e0, if_neg (by decide)]
      have g4 : gN b N j s.2.1 s.2.2 s.2.1 4 = vv b N j 4 := by rw [e0, if_neg (by decide)]
      have g5 : gN b N j s.2.1 s.2.2 s.2.1 5 = vv b N j 5 := by rw [e0, if_neg (by decide)]
      have g6 : gN b N j s.2.1 s.2.2 s.2.1 6 = vv b N j 6 := by rw [e0, if_neg (by decide)]
      rw [g0, g1, g2, g3, g4, g5, g6]
      have e1 := c1.2; have e2 := c2.2; have e3 := c3.2; have e4 := c4.2; have e5 := c5.1.2; have e6 := c6.1.2
      have e7 := c5.2; have e8 := c6.2
      unfold vv at *
      refine ⟨by omega, by omega, by omega, by omega, by omega, by omega, by omega, by omega, by omega, by omega, by omega⟩
    · have := h3 f (by omega)
      show okF (gN b N j s.2.1 s.2.2) f
      unfold okF gN at *
      simp only [e, if_false]
      exact this
theorem stJ_b {b : Nat → Int32} {N : Nat} {s : pSt} {j : Nat} (hj : j ≤ N) : stJ b N s j ≤ N := by
  unfold stJ
  by_cases h1 : isW b N j 1
  · rw [if_pos h1]
    by_cases h2 : s.1 = none
    · rw [if_pos h2]; exact ps_le hj _
    · rw [if_neg h2]; exact hj
  · rw [if_neg h1]
    by_cases h2 : ¬ kW b N j = -9 ∧ s.2.1 < 8
    · rw [if_pos h2]; exact ps_le hj _
    · rw [if_neg h2]; exact hj

set_option maxRecDepth 100000 in
theorem c_X3_readStatement {E : xE} {M : xMem} {a N j d W H : Nat} {b : Nat → Int32} {s : pSt} (hr : rdr M a N b) (hp : pS M d b N j s W H) (hdr : M.2.1 10 0 = d) (hd : xob d 7) : Ct E mX3_readStatement [.ref 10] M (xN M) (fun r m => r = some (.int (zc (stO b N s j))) ∧ sS d M m ∧ tokS m b N (stJ b N s j) ∧ (stO b N s j → pS m d b N (stJ b N s j) (stS b N s j) W H)) := by
  obtain ⟨ht, p0, p1, pn, hn8, pb, pw, ph, pf⟩ := id hp
  have hM := hr.1
  have hW := hr.2.1
  have hd0 : 0 < d := hd.1
  have hd7 := xob_7 hd
  have hf1 : d ≠ 10 := by omega
  have hf2 : d < 54 := by omega
  obtain ⟨hj, eK, eF, eT, eV⟩ := id ht
  have hTb := tT_b (b := b) hj
  refine Ct.of (lo := [some (.ref 10), none, none]) pln_X3 (Nat.le_of_ble_eq_true rfl) rfl (Nat.le_refl _) ?_
  refine px_aload_n dX3_readStatement_0 rfl rfl ?_
  refine px_ldcS dX3_readStatement_1 (List.mem_of_getElem? (i := 1) rfl) ?_
  refine px_fV1i dX3_readStatement_3 kX3_readStatement_71 (xol rfl) hM (Nat.le_of_ble_eq_true rfl) (c_X3_isAtWord (w := 1) hr ht (by decide)) ?_
  refine px_cif_eq 14 dX3_readStatement_6 rfl (fun h6 => ?_) (fun h6 => ?_)
  · refine px_aload_n dX3_readStatement_14 rfl rfl ?_
    refine px_fV0i dX3_readStatement_15 kX3_readStatement_91 (xol rfl) hM (Nat.le_of_ble_eq_true rfl) (c_X3_kindAtHand hr ht) ?_
    refine px_si_1 dX3_readStatement_18 rfl ?_
    refine px_iload_n dX3_readStatement_19 rfl rfl ?_
    refine px_bipush dX3_readStatement_20 bp_m9 ?_
    refine px_icmp_eq 37 dX3_readStatement_22 rfl (fun h22 => ?_) (fun h22 => ?_)
    · refine px_iconst dX3_readStatement_37 ic_0 ?_
      exact px_zret dX3_readStatement_38 rfl (by first | rfl | exact zb_nar | exact zc_nar) (by
            have hno : ¬ stO b N s j := by
              rintro (z | ⟨z1, z2, z3, z4⟩)
              · exact h6 z.1
              · first
                  | exact z2 h22
                  | exact h34 (by rw [show (8 : Int32) = nI 8 from rfl, nI_ltI (by omega) (by omega)]; exact z3)
            have hJ : stJ b N s j = j := by
              unfold stJ
              rw [if_neg h6, if_neg]
              rintro ⟨z2, z3⟩
              first
                | exact z2 h22
                | exact h34 (by rw [show (8 : Int32) = nI 8 from rfl, nI_ltI (by omega) (by omega)]; exact z3)
            rw [zcF hno, hJ]
            exact ⟨rfl, sS.rf d M, ht, fun z => absurd z hno⟩) (by first | rfl | exact hn10 | exact hn66.trans hn40 | exact hn74.trans (hn66.trans hn40) | exact hn81.trans (hn74.trans (hn66.trans hn40)))
    · refine px_aload_n dX3_readStatement_25 rfl rfl ?_
      refine px_getR dX3_readStatement_26 fX3_12 (xol rfl) hM rfl (by assumption) (by assumption) ?_
      refine px_getI dX3_readStatement_29 fX3_52 hd hM rfl ?_
      refine px_top (y := nI s.2.1) pn ?_
      refine px_bipush dX3_readStatement_32 bp_8 ?_
      refine px_icmp_lt 39 dX3_readStatement_34 rfl (fun h34 => ?_) (fun h34 => ?_)
      · have h34n : s.2.1 < 8 := by rw [show (8 : Int32) = nI 8 from rfl, nI_ltI (by omega) (by omega)] at h34; exact h34
        have hJ0 : stJ b N s j = ps b N j (ff (fmC b N j) 7 1) := by unfold stJ; rw [if_neg h6, if_pos ⟨h22, h34n⟩]
        have hnn : (nI s.2.1).toNatClampNeg = s.2.1 := nI_clamp (by omega)
        have hni : vp_in (nI s.2.1) 8 := vp_in_nI h34n (by decide)
        have hfr : xob (fA d s.2.1) 0 := ob_frame hd h34n
        have hg1 : fA d s.2.1 ≠ 10 := by show d + 1 + 1 + s.2.1 ≠ 10; omega
        have hg2 : fA d s.2.1 < 54 := by show d + 1 + 1 + s.2.1 < 54; omega
        have hg3 : d ≤ fA d s.2.1 ∧ fA d s.2.1 ≤ d + 9 := ⟨by show d ≤ d + 1 + 1 + s.2.1; omega, by show d + 1 + 1 + s.2.1 ≤ d + 9; omega⟩
        have hg4 : d ≠ fA d s.2.1 := by show d ≠ d + 1 + 1 + s.2.1; omega
        refine px_aload_n dX3_readStatement_39 rfl rfl ?_
        refine px_gV0 dX3_readStatement_40 kX3_readStatement_56 (xol rfl) hM (Nat.le_of_ble_eq_true rfl) (c_X3_advance hr hTb.2.1 eT) (fun r40 M40 hq40 hn40 => ?_)
        obtain ⟨rfl, q1, q2⟩ := hq40
        have hM : xNT ≤ xN M40 := by rw [hn40]; exact hM
        have hW : xWire M40.2.1 := by rw [q1.1]; exact hW
        have hdr : M40.2.1 10 0 = d := by rw [q1.1]; exact hdr
        refine px_aload_n dX3_readStatement_43 rfl rfl ?_
        refine px_getR dX3_readStatement_44 fX3_12 (xol rfl) hM rfl (by assumption) (by assumption) ?_
        refine px_getR dX3_readStatement_47 fX3_95 hd hM rfl (wr_7_0 hW hd) (Nat.succ_pos _) ?_
        refine px_aload_n dX3_readStatement_50 rfl rfl ?_
        refine px_getR dX3_readStatement_51 fX3_12 (xol rfl) hM rfl (by assumption) (by assumption) ?_
        refine px_getI dX3_readStatement_54 fX3_52 hd hM rfl ?_
        refine px_top (y := nI s.2.1) (by rw [q1.2.1 d hf1]; exact pn) ?_
        refine px_aald (t0 := 6) dX3_readStatement_57 (ar_7 hd) (by decide) (fun _ => rfl) hM hni (show M40.2.1 (d + 1) (nI s.2.1).toNatClampNeg = d + 1 + 1 + s.2.1 by rw [hnn]; exact wa_26 hW (ar_7 hd) h34n) (by omega) ?_
        refine px_sa_2 dX3_readStatement_58 rfl ?_
        refine px_aload_n dX3_readStatement_59 rfl rfl ?_
        refine px_iload_n dX3_readStatement_60 rfl rfl ?_
        refine px_putI dX3_readStatement_61 fX3_99 p0_0 hfr hM rfl ?_
        refine px_aload_n dX3_readStatement_64 rfl rfl ?_
        refine px_aload_n dX3_readStatement_65 rfl rfl ?_
        refine px_gV1 dX3_readStatement_66 kX3_readStatement_104 (xol rfl) hM (Nat.le_of_ble_eq_true rfl) (c_X3_readSides (j := j) (fr := fA d s.2.1) (((q1.f (fr := fA d s.2.1)).p hg1).r hg2 hr) hfr hg1 hg2 (tok_w (show tokS M40 b N (ps b N j 1) from q2) hg1)) (fun r66 M66 hq66 hn66 => ?_)
        obtain ⟨rfl, q4, q5, q6, q7⟩ := hq66
        have hM : xNT ≤ xN M66 := by rw [hn66]; exact hM
        have hW : xWire M66.2.1 := by rw [q4.1]; exact hW
        have hdr : M66.2.1 10 0 = d := by rw [q4.1]; exact hdr
        refine px_zif_eq 87 dX3_readStatement_69 rfl (fun h69 => ?_) (fun h69 => ?_)
        · refine px_iconst dX3_readStatement_87 ic_0 ?_
          exact px_zret dX3_readStatement_88 rfl (by first | rfl | exact zb_nar | exact zc_nar) (by
                have s1 : sS d M (wI M40 (fA d s.2.1) 0 (kW b N j)) := sS.p hg3 (by omega) q1.s
                have f1 := ff_b (fmC b N j) 2 1
                have f2 := ff_b (fmC b N j) 4 3
                first
                  | (have e : ff (fmC b N j) 7 1 = ff (fmC b N j) 1 7 := by rw [show (7 : Nat) = 2 + 5 from rfl, ff_ay 2 1 h69, show (5 : Nat) = 4 + 1 from rfl]; exact ff_ay 4 3 h77
                     have c7 : ¬ fmC b N j 7 := fun z => h84 (fmC_7.mpr z)
                     have e2 : ff (fmC b N j) 7 1 = 7 := by rw [e]; exact ff_n c7
                     have hno : ¬ stO b N s j := by
                       rintro (z | z)
                       · exact h6 z.1
                       · have := z.2.2.2; omega
                     rw [zcF hno, hJ0, e2]
                     have qc : tokS M81 b N (ps b N j 7) := by rw [if_neg h84] at qc; exact qc
                     exact ⟨rfl, ((s1.tr (q4.s hg3)).tr (q8.s hg3)).tr qb.s, qc, fun z => absurd z hno⟩)
                  | (have e : ff (fmC b N j) 7 1 = ff (fmC b N j) 4 3 := by rw [show (7 : Nat) = 2 + 5 from rfl, ff_ay 2 1 h69, show (5 : Nat) = 4 + 1 from rfl]; exact ff_an 4 3 h77
                     have hno : ¬ stO b N s j := by
                       rintro (z | z)
                       · exact h6 z.1
                       · have := z.2.2.2; omega
                     rw [zcF hno, hJ0, e]
                     exact ⟨rfl, (s1.tr (q4.s hg3)).tr (q8.s hg3), q9, fun z => absurd z hno⟩)
                  | (have e : ff (fmC b N j) 7 1 = ff (fmC b N j) 2 1 := by rw [show (7 : Nat) = 2 + 5 from rfl]; exact ff_an 2 1 h69
                     have hno : ¬ stO b N s j := by
                       rintro (z | z)
                       · exact h6 z.1
                       · have := z.2.2.2; omega
                     rw [zcF hno, hJ0, e]
                     exact ⟨rfl, s1.tr (q4.s hg3), q5, fun z => absurd z hno⟩)) (by first | rfl | exact hn10 | exact hn66.trans hn40 | exact hn74.trans (hn66.trans hn40) | exact hn81.trans (hn74.trans (hn66.trans hn40)))
        · have q5 : tokS M66 b N (ps b N j 3) := by rw [h69] at q5; exact q5
          have c1 := fmC_1.mpr (ff_all 2 1 h69 1 (by omega) (by omega))
          have c2 := fmC_2.mpr (ff_all 2 1 h69 2 (by omega) (by omega))
          have hw16 : vv b N j 1 ≤ 16 := ((nN_i (l := 1) (h := 16) (by decide) (by decide)).mp c1).2.2
          have hh16 : vv b N j 2 ≤ 16 := ((nN_i (l := 1) (h := 16) (by decide) (by decide)).mp c2).2.2
          refine px_aload_n dX3_readStatement_72 rfl rfl ?_
          refine px_aload_n dX3_readStatement_73 rfl rfl ?_
          refine px_gV1 dX3_readStatement_74 kX3_readStatement_108 (xol rfl) hM (Nat.le_of_ble_eq_true rfl) (c_X3_readEmpty (j := j) (fr := fA d s.2.1) ((((q1.f (fr := fA d s.2.1)).p hg1).tr q4).r hg2 hr) hfr hg1 hg2 q5 (q7 h69).1 (q7 h69).2 hw16 hh16) (fun r74 M74 hq74 hn74 => ?_)
          obtain ⟨rfl, q8, q9, qa, q0⟩ := hq74
          have hM : xNT ≤ xN M74 := by rw [hn74]; exact hM
          have hW : xWire M74.2.1 := by rw [q8.1]; exact hW
          have hdr : M74.2.1 10 0 = d := by rw [q8.1]; exact hdr
          refine px_zif_eq 87 dX3_readStatement_77 rfl (fun h77 => ?_) (fun h77 => ?_)
          · refine px_iconst dX3_readStatement_87 ic_0 ?_
            exact px_zret dX3_readStatement_88 rfl (by first | rfl | exact zb_nar | exact zc_nar) (by
                  have s1 : sS d M (wI M40 (fA d s.2.1) 0 (kW b N j)) := sS.p hg3 (by omega) q1.s
                  have f1 := ff_b (fmC b N j) 2 1
                  have f2 := ff_b (fmC b N j) 4 3
                  first
                    | (have e : ff (fmC b N j) 7 1 = ff (fmC b N j) 1 7 := by rw [show (7 : Nat) = 2 + 5 from rfl, ff_ay 2 1 h69, show (5 : Nat) = 4 + 1 from rfl]; exact ff_ay 4 3 h77
                       have c7 : ¬ fmC b N j 7 := fun z => h84 (fmC_7.mpr z)
                       have e2 : ff (fmC b N j) 7 1 = 7 := by rw [e]; exact ff_n c7
                       have hno : ¬ stO b N s j := by
                         rintro (z | z)
                         · exact h6 z.1
                         · have := z.2.2.2; omega
                       rw [zcF hno, hJ0, e2]
                       have qc : tokS M81 b N (ps b N j 7) := by rw [if_neg h84] at qc; exact qc
                       exact ⟨rfl, ((s1.tr (q4.s hg3)).tr (q8.s hg3)).tr qb.s, qc, fun z => absurd z hno⟩)
                    | (have e : ff (fmC b N j) 7 1 = ff (fmC b N j) 4 3 := by rw [show (7 : Nat) = 2 + 5 from rfl, ff_ay 2 1 h69, show (5 : Nat) = 4 + 1 from rfl]; exact ff_an 4 3 h77
                       have hno : ¬ stO b N s j := by
                         rintro (z | z)
                         · exact h6 z.1
                         · have := z.2.2.2; omega
                       rw [zcF hno, hJ0, e]
                       exact ⟨rfl, (s1.tr (q4.s hg3)).tr (q8.s hg3), q9, fun z => absurd z hno⟩)
                    | (have e : ff (fmC b N j) 7 1 = ff (fmC b N j) 2 1 := by rw [show (7 : Nat) = 2 + 5 from rfl]; exact ff_an 2 1 h69
                       have hno : ¬ stO b N s j := by
                         rintro (z | z)
                         · exact h6 z.1
                         · have := z.2.2.2; omega
                       rw [zcF hno, hJ0, e]
                       exact ⟨rfl, s1.tr (q4.s hg3), q5, fun z => absurd z hno⟩)) (by first | rfl | exact hn10 | exact hn66.trans hn40 | exact hn74.trans (hn66.trans hn40) | exact hn81.trans (hn74.trans (hn66.trans hn40)))
          · have q9 : tokS M74 b N (ps b N j 7) := by rw [h77] at q9; exact q9
            refine px_aload_n dX3_readStatement_80 rfl rfl ?_
            refine px_gV0 dX3_readStatement_81 kX3_readStatement_84 (xol rfl) hM (Nat.le_of_ble_eq_true rfl) (c_X3_takeStop (((((q1.f (fr := fA d s.2.1)).p hg1).tr q4).tr q8).r hg2 hr) q9) (fun r81 M81 hq81 hn81 => ?_)
            obtain ⟨rfl, qb, qc⟩ := hq81
            have hM : xNT ≤ xN M81 := by rw [hn81]; exact hM
            have hW : xWire M81.2.1 := by rw [qb.1]; exact hW
            have hdr : M81.2.1 10 0 = d := by rw [qb.1]; exact hdr
            refine px_zif_ne 89 dX3_readStatement_84 rfl (fun h84 => ?_) (fun h84 => ?_)
            · refine px_aload_n dX3_readStatement_89 rfl rfl ?_
              refine px_getR dX3_readStatement_90 fX3_12 (xol rfl) hM rfl (by assumption) (by assumption) ?_
              first | refine px_dupi dX3_readStatement_93 ?_ | refine px_dupa dX3_readStatement_93 ?_
              have hdd : 0 < d := hd0
              refine px_getI dX3_readStatement_94 fX3_52 hd hM rfl ?_
              refine px_top (y := nI s.2.1) (by rw [qb.2.1 d hf1, q8.2.1 d hf1 hg4, q4.2.1 d hf1 hg4, xI_wI, if_neg (fun z => hg4 z.1), q1.2.1 d hf1]; exact pn) ?_
              refine px_iconst dX3_readStatement_97 ic_1 ?_
              refine px_iadd dX3_readStatement_98 ?_
              refine px_top (y := nI (s.2.1 + 1)) (nI_1 _) ?_
              refine px_putI dX3_readStatement_99 fX3_52 p7_1 hd hM rfl ?_
              refine px_iconst dX3_readStatement_102 ic_1 ?_
              exact px_zret dX3_readStatement_103 rfl (by first | rfl | exact zb_nar | exact zc_nar) (by
                    have s1 : sS d M (wI M40 (fA d s.2.1) 0 (kW b N j)) := sS.p hg3 (by omega) q1.s
                    have e : ff (fmC b N j) 7 1 = 8 := by
                      rw [show (7 : Nat) = 2 + 5 from rfl, ff_ay 2 1 h69, show (5 : Nat) = 4 + 1 from rfl]
                      refine (ff_ay 4 3 h77).trans ?_
                      rw [show (1 : Nat) = 0 + 1 from rfl, ff_y (fmC_7.mp h84)]; rfl
                    have hys : stO b N s j := Or.inr ⟨h6, h22, h34n, e⟩
                    have qc : tokS M81 b N (ps b N j 8) := by rw [if_pos h84] at qc; exact qc
                    rw [zcT hys, hJ0, e]
                    have hS : stS b N s j = (s.1, s.2.1 + 1, gN b N j s.2.1 s.2.2) := if_neg h6
                    have hdk : ∀ k, k ≠ 1 → (wI M81 d 1 (nI (s.2.1 + 1))).1 d k = M.1 d k := fun k k1 => by rw [xI_wI, if_neg (fun z => k1 z.2), qb.2.1 d hf1, q8.2.1 d hf1 hg4, q4.2.1 d hf1 hg4, xI_wI, if_neg (fun z => hg4 z.1), q1.2.1 d hf1]
                    have h107 : (wI M81 d 1 (nI (s.2.1 + 1))).1 10 7 = M.1 10 7 := by rw [xI_wI, if_neg (fun z => hf1 z.1.symm), qb.2.2 7 (by omega), q8.2.2 7 (by omega), q4.2.2 7 (by omega), xI_wI, if_neg (fun z => hg1 z.1.symm), q1.2.2 7 (by omega)]
                    refine ⟨rfl, sS.p ⟨Nat.le_refl _, by omega⟩ (by omega) (((s1.tr (q4.s hg3)).tr (q8.s hg3)).tr qb.s), tok_w qc hf1, fun _ => ?_⟩
                    rw [hS]
                    refine ⟨tok_w qc hf1, fun z => by rw [h107]; exact p0 z, fun z => by rw [h107]; exact p1 z, wI_self _ _ _ _, h34n, by rw [hdk 4 (by decide)]; exact pb, by rw [hdk 2 (by decide)]; exact pw, by rw [hdk 3 (by decide)]; exact ph, fun f hf k hk => ?_⟩
                    have hf : f < s.2.1 + 1 := hf
                    have hfd : fA d f ≠ d := by show d + 1 + 1 + f ≠ d; omega
                    have hft : fA d f ≠ 10 := by show d + 1 + 1 + f ≠ 10; omega
                    show (wI M81 d 1 (nI (s.2.1 + 1))).1 (fA d f) k = nI (gN b N j s.2.1 s.2.2 f k)
                    rw [xI_wI, if_neg (fun z => hfd z.1), qb.2.1 _ hft]
                    unfold gN
                    by_cases ef : f = s.2.1
                    · rw [if_pos ef, ef]
                      by_cases k0 : k = 0
                      · rw [if_pos k0, k0, qa 0 (by omega), q6 0 (by decide) (by decide), wI_self]
                        obtain ⟨k', hk', ek⟩ := kW_n h22
                        rw [ek, nI_clamp (by omega)]
                      · rw [if_neg k0]
                        by_cases k3 : k < 3
                        · rw [qa k (by omega)]
                          rcases (show k = 1 ∨ k = 2 by omega) with rfl | rfl
                          · exact (q7 h69).1
                          · exact (q7 h69).2
                        · exact q0 h77 k (by omega) (by omega)
                    · have hne : fA d f ≠ fA d s.2.1 := by show d + 1 + 1 + f ≠ d + 1 + 1 + s.2.1; omega
                      rw [if_neg ef, q8.2.1 _ hft hne, q4.2.1 _ hft hne, xI_wI, if_neg (fun z => hne z.1), q1.2.1 _ hft]
                      exact pf f (by omega) k hk) (by first | rfl | exact hn10 | exact hn66.trans hn40 | exact hn74.trans (hn66.trans hn40) | exact hn81.trans (hn74.trans (hn66.trans hn40)))
            · refine px_iconst dX3_readStatement_87 ic_0 ?_
              exact px_zret dX3_readStatement_88 rfl (by first | rfl | exact zb_nar | exact zc_nar) (by
                    have s1 : sS d M (wI M40 (fA d s.2.1) 0 (kW b N j)) := sS.p hg3 (by omega) q1.s
                    have f1 := ff_b (fmC b N j) 2 1
                    have f2 := ff_b (fmC b N j) 4 3
                    first
                      | (have e : ff (fmC b N j) 7 1 = ff (fmC b N j) 1 7 := by rw [show (7 : Nat) = 2 + 5 from rfl, ff_ay 2 1 h69, show (5 : Nat) = 4 + 1 from rfl]; exact ff_ay 4 3 h77
                         have c7 : ¬ fmC b N j 7 := fun z => h84 (fmC_7.mpr z)
                         have e2 : ff (fmC b N j) 7 1 = 7 := by rw [e]; exact ff_n c7
                         have hno : ¬ stO b N s j := by
                           rintro (z | z)
                           · exact h6 z.1
                           · have := z.2.2.2; omega
                         rw [zcF hno, hJ0, e2]
                         have qc : tokS M81 b N (ps b N j 7) := by rw [if_neg h84] at qc; exact qc
                         exact ⟨rfl, ((s1.tr (q4.s hg3)).tr (q8.s hg3)).tr qb.s, qc, fun z => absurd z hno⟩)
                      | (have e : ff (fmC b N j) 7 1 = ff (fmC b N j) 4 3 := by rw [show (7 : Nat) = 2 + 5 from rfl, ff_ay 2 1 h69, show (5 : Nat) = 4 + 1 from rfl]; exact ff_an 4 3 h77
                         have hno : ¬ stO b N s j := by
                           rintro (z | z)
                           · exact h6 z.1
                           · have := z.2.2.2; omega
                         rw [zcF hno, hJ0, e]
                         exact ⟨rfl, (s1.tr (q4.s hg3)).tr (q8.s hg3), q9, fun z => absurd z hno⟩)
                      | (have e : ff (fmC b N j) 7 1 = ff (fmC b N j) 2 1 := by rw [show (7 : Nat) = 2 + 5 from rfl]; exact ff_an 2 1 h69
                         have hno : ¬ stO b N s j := by
                           rintro (z | z)
                           · exact h6 z.1
                           · have := z.2.2.2; omega
                         rw [zcF hno, hJ0, e]
                         exact ⟨rfl, s1.tr (q4.s hg3), q5, fun z => absurd z hno⟩)) (by first | rfl | exact hn10 | exact hn66.trans hn40 | exact hn74.trans (hn66.trans hn40) | exact hn81.trans (hn74.trans (hn66.trans hn40)))
      · refine px_iconst dX3_readStatement_37 ic_0 ?_
        exact px_zret dX3_readStatement_38 rfl (by first | rfl | exact zb_nar | exact zc_nar) (by
              have hno : ¬ stO b N s j := by
                rintro (z | ⟨z1, z2, z3, z4⟩)
                · exact h6 z.1
                · first
                    | exact z2 h22
                    | exact h34 (by rw [show (8 : Int32) = nI 8 from rfl, nI_ltI (by omega) (by omega)]; exact z3)
              have hJ : stJ b N s j = j := by
                unfold stJ
                rw [if_neg h6, if_neg]
                rintro ⟨z2, z3⟩
                first
                  | exact z2 h22
                  | exact h34 (by rw [show (8 : Int32) = nI 8 from rfl, nI_ltI (by omega) (by omega)]; exact z3)
              rw [zcF hno, hJ]
              exact ⟨rfl, sS.rf d M, ht, fun z => absurd z hno⟩) (by first | rfl | exact hn10 | exact hn66.trans hn40 | exact hn74.trans (hn66.trans hn40) | exact hn81.trans (hn74.trans (hn66.trans hn40)))
  · refine px_aload_n dX3_readStatement_9 rfl rfl ?_
    refine px_gV0 dX3_readStatement_10 kX3_readStatement_88 (xol rfl) hM (Nat.le_of_ble_eq_true rfl) (c_X3_readBleed hr ht hdr hd) (fun r10 M10 hq10 hn10 => ?_)
    obtain ⟨rfl, q2, q3, q4, q5⟩ := hq10
    exact px_zret dX3_readStatement_13 rfl (by first | rfl | exact zb_nar | exact zc_nar) (by
          have hiff : (M.1 10 7 = 0 ∧ ff (blC b N j) 2 1 = 3) ↔ stO b N s j := by
            constructor
            · rintro ⟨z1, z2⟩
              have hn : s.1 = none := Classical.byContradiction (fun z => by rw [p1 z] at z1; exact absurd z1 (by decide))
              exact Or.inl ⟨h6, hn, z2⟩
            · rintro (⟨z1, z2, z3⟩ | z)
              · exact ⟨p0 z2, z3⟩
              · exact absurd h6 z.1
          have hJ : (if M.1 10 7 = 0 then ps b N j (ff (blC b N j) 2 1) else j) = stJ b N s j := by
            unfold stJ
            rw [if_pos h6]
            by_cases z : s.1 = none
            · rw [if_pos (p0 z), if_pos z]
            · rw [if_neg (by rw [p1 z]; decide), if_neg z]
          rw [hJ] at q3
          rw [← zc_c hiff]
          refine ⟨rfl, q2.s, q3, fun z => ?_⟩
          have hz := q5 (hiff.mpr z)
          have hS : stS b N s j = (some (vv b N j 1), s.2) := if_pos h6
          rw [hS]
          exact ⟨q3, fun y => absurd (show some (vv b N j 1) = none from y) (fun w => (by cases w)), fun _ => hz.2, by rw [q4 1 (by decide)]; exact pn, hn8, hz.1, by rw [q4 2 (by decide)]; exact pw, by rw [q4 3 (by decide)]; exact ph, fun f hf k hk => by rw [q2.2.1 (fA d f) (by show d + 1 + 1 + f ≠ 10; omega) (by show d + 1 + 1 + f ≠ d; omega)]; exact pf f hf k hk⟩) (by first | rfl | exact hn10 | exact hn66.trans hn40 | exact hn74.trans (hn66.trans hn40) | exact hn81.trans (hn74.trans (hn66.trans hn40)))
