/-! ===== the reader's statements ===== -/
def ps (b : Nat → Int32) (N j : Nat) : Nat → Nat
  | 0 => j
  | k + 1 => tT b N (ps b N j k)
theorem ps_le {b : Nat → Int32} {N j : Nat} (h : j ≤ N) : ∀ k, ps b N j k ≤ N
  | 0 => h
  | k + 1 => (tT_b (ps_le h k)).2.1
def vv (b : Nat → Int32) (N j k : Nat) : Nat := tV b N (ps b N j k)
theorem vv_le (b : Nat → Int32) (N j k : Nat) : vv b N j k ≤ 1000 := tV_le _ _ _
def nN (b : Nat → Int32) (N j l h : Nat) : Prop := tK b N j = 2 ∧ l ≤ tV b N j ∧ tV b N j ≤ h
theorem nN_i {b : Nat → Int32} {N j l h : Nat} (hl : l < 2 ^ 30) (hh : h < 2 ^ 30) : nOK b N j (nI l) (nI h) ↔ nN b N j l h := by
  have := tV_le b N j
  unfold nOK nN
  rw [nI_leI (by omega) (by omega), nI_leI (by omega) (by omega)]
def fmC (b : Nat → Int32) (N j q : Nat) : Prop := if q = 1 ∨ q = 2 then nN b N (ps b N j q) 1 16 else if q = 3 ∨ q = 4 then nN b N (ps b N j q) 0 9 else if q = 5 then nN b N (ps b N j 5) 0 9 ∧ vv b N j 3 + vv b N j 5 < vv b N j 1 else if q = 6 then nN b N (ps b N j 6) 0 9 ∧ vv b N j 4 + vv b N j 6 < vv b N j 2 else tK b N (ps b N j 7) = 3
def pgC (b : Nat → Int32) (N j q : Nat) : Prop := if q = 1 ∨ q = 2 then nN b N (ps b N j q) 4 16 else tK b N (ps b N j 3) = 3
def blC (b : Nat → Int32) (N j q : Nat) : Prop := if q = 1 then nN b N (ps b N j 1) 0 2 else tK b N (ps b N j 2) = 3
noncomputable def ff (c : Nat → Prop) : Nat → Nat → Nat
  | 0, q => q
  | k + 1, q => @ite _ (c q) (Classical.propDecidable _) (ff c k (q + 1)) q
theorem ff_y {c : Nat → Prop} {k q : Nat} (h : c q) : ff c (k + 1) q = ff c k (q + 1) := by rw [ff, if_pos h]
theorem ff_n {c : Nat → Prop} {k q : Nat} (h : ¬ c q) : ff c (k + 1) q = q := by rw [ff, if_neg h]
theorem ff_b (c : Nat → Prop) : ∀ k q, q ≤ ff c k q ∧ ff c k q ≤ q + k
  | 0, q => ⟨Nat.le_refl _, Nat.le_refl _⟩
  | k + 1, q => by
    have := ff_b c k (q + 1)
    by_cases h : c q
    · rw [ff_y h]; omega
    · rw [ff_n h]; omega
theorem ff_all {c : Nat → Prop} : ∀ k q, ff c k q = q + k → ∀ i, q ≤ i → i < q + k → c i
  | 0, q, _, i, h1, h2 => by omega
  | k + 1, q, h, i, h1, h2 => by
    by_cases hc : c q
    · rw [ff_y hc] at h
      by_cases e : i = q
      · rw [e]; exact hc
      · exact ff_all k (q + 1) (by omega) i (by omega) (by omega)
    · rw [ff_n hc] at h; omega
theorem fmC_1 {b : Nat → Int32} {N j : Nat} : nOK b N (ps b N j 1) 1 16 ↔ fmC b N j 1 := by
  unfold fmC; rw [if_pos (Or.inl rfl)]; exact nN_i (l := 1) (h := 16) (by decide) (by decide)
theorem fmC_2 {b : Nat → Int32} {N j : Nat} : nOK b N (ps b N j 2) 1 16 ↔ fmC b N j 2 := by
  unfold fmC; rw [if_pos (Or.inr rfl)]; exact nN_i (l := 1) (h := 16) (by decide) (by decide)
theorem fmC_3 {b : Nat → Int32} {N j : Nat} : nOK b N (ps b N j 3) 0 9 ↔ fmC b N j 3 := by
  unfold fmC; rw [if_neg (by omega), if_pos (Or.inl rfl)]; exact nN_i (l := 0) (h := 9) (by decide) (by decide)
theorem fmC_4 {b : Nat → Int32} {N j : Nat} : nOK b N (ps b N j 4) 0 9 ↔ fmC b N j 4 := by
  unfold fmC; rw [if_neg (by omega), if_pos (Or.inr rfl)]; exact nN_i (l := 0) (h := 9) (by decide) (by decide)
theorem nOKm {b : Nat → Int32} {N p w l : Nat} (hw : w ≤ 16) (hl : l ≤ 9) : nOK b N p 0 (if nI w - nI l - 1 < 9 then nI w - nI l - 1 else 9) ↔ (nN b N p 0 9 ∧ l + tV b N p < w) := by
  have hv := tV_le b N p
  have e : (nI w - nI l - 1).toInt = (w : Int) - l - 1 := by
    rw [Int32.toInt_sub, pk_sub_toInt (by omega) (by omega), Int.bmod_eq_of_le]
    · simp only [Int32.reduceToInt]
    · simp only [Int32.reduceToInt]; omega
    · simp only [Int32.reduceToInt]; omega
  unfold nOK nN
  by_cases z : nI w - nI l - 1 < 9
  · rw [if_pos z]
    rw [Int32.lt_iff_toInt_lt, e] at z
    rw [Int32.le_iff_toInt_le, Int32.le_iff_toInt_le, e, nI_toInt (by omega)]
    simp only [Int32.reduceToInt] at *
    constructor
    · rintro ⟨h1, h2, h3⟩; exact ⟨⟨h1, by omega, by omega⟩, by omega⟩
    · rintro ⟨⟨h1, h2, h3⟩, h4⟩; exact ⟨h1, by omega, by omega⟩
  · rw [if_neg z]
    rw [Int32.lt_iff_toInt_lt, e] at z
    rw [Int32.le_iff_toInt_le, Int32.le_iff_toInt_le, nI_toInt (by omega)]
    simp only [Int32.reduceToInt] at *
    constructor
    · rintro ⟨h1, h2, h3⟩; exact ⟨⟨h1, by omega, by omega⟩, by omega⟩
    · rintro ⟨⟨h1, h2, h3⟩, h4⟩; exact ⟨h1, by omega, by omega⟩
theorem fmC_5 {b : Nat → Int32} {N j : Nat} (hw : vv b N j 1 ≤ 16) (hl : vv b N j 3 ≤ 9) : nOK b N (ps b N j 5) 0 (if nI (vv b N j 1) - nI (vv b N j 3) - 1 < 9 then nI (vv b N j 1) - nI (vv b N j 3) - 1 else 9) ↔ fmC b N j 5 := by
  have e : fmC b N j 5 = (nN b N (ps b N j 5) 0 9 ∧ vv b N j 3 + vv b N j 5 < vv b N j 1) := by unfold fmC; rw [if_neg (by omega), if_neg (by omega), if_pos rfl]
  rw [e]; exact nOKm hw hl
theorem fmC_6 {b : Nat → Int32} {N j : Nat} (hw : vv b N j 2 ≤ 16) (hl : vv b N j 4 ≤ 9) : nOK b N (ps b N j 6) 0 (if nI (vv b N j 2) - nI (vv b N j 4) - 1 < 9 then nI (vv b N j 2) - nI (vv b N j 4) - 1 else 9) ↔ fmC b N j 6 := by
  have e : fmC b N j 6 = (nN b N (ps b N j 6) 0 9 ∧ vv b N j 4 + vv b N j 6 < vv b N j 2) := by unfold fmC; rw [if_neg (by omega), if_neg (by omega), if_neg (by omega), if_pos rfl]
  rw [e]; exact nOKm hw hl
theorem fmC_7 {b : Nat → Int32} {N j : Nat} : tK b N (ps b N j 7) = 3 ↔ fmC b N j 7 := by
  unfold fmC; rw [if_neg (by omega), if_neg (by omega), if_neg (by omega), if_neg (by omega)]
theorem pgC_1 {b : Nat → Int32} {N j : Nat} : nOK b N (ps b N j 1) 4 16 ↔ pgC b N j 1 := by
  unfold pgC; rw [if_pos (Or.inl rfl)]; exact nN_i (l := 4) (h := 16) (by decide) (by decide)
theorem pgC_2 {b : Nat → Int32} {N j : Nat} : nOK b N (ps b N j 2) 4 16 ↔ pgC b N j 2 := by
  unfold pgC; rw [if_pos (Or.inr rfl)]; exact nN_i (l := 4) (h := 16) (by decide) (by decide)
theorem pgC_3 {b : Nat → Int32} {N j : Nat} : tK b N (ps b N j 3) = 3 ↔ pgC b N j 3 := by
  unfold pgC; rw [if_neg (by omega)]
theorem blC_1 {b : Nat → Int32} {N j : Nat} : nOK b N (ps b N j 1) 0 2 ↔ blC b N j 1 := by
  unfold blC; rw [if_pos rfl]; exact nN_i (l := 0) (h := 2) (by decide) (by decide)
theorem blC_2 {b : Nat → Int32} {N j : Nat} : tK b N (ps b N j 2) = 3 ↔ blC b N j 2 := by
  unfold blC; rw [if_neg (by omega)]
/-- what a reading of numbers into the object at fr leaves as it was -/
def fS (fr : Nat) (M m : xMem) : Prop := m.2 = M.2 ∧ (∀ a, a ≠ 10 → a ≠ fr → m.1 a = M.1 a) ∧ ∀ k, (k < 3 ∨ 6 < k) → m.1 10 k = M.1 10 k
theorem fS.rf (fr : Nat) (M : xMem) : fS fr M M := ⟨rfl, fun _ _ _ => rfl, fun _ _ => rfl⟩
theorem fS.tr {fr : Nat} {M M1 M2 : xMem} (h : fS fr M M1) (h' : fS fr M1 M2) : fS fr M M2 := ⟨h'.1.trans h.1, fun a a1 a2 => (h'.2.1 a a1 a2).trans (h.2.1 a a1 a2), fun k k1 => (h'.2.2 k k1).trans (h.2.2 k k1)⟩
theorem rdS.f {fr : Nat} {M m : xMem} (h : rdS M m) : fS fr M m := ⟨h.1, fun a a1 _ => h.2.1 a a1, h.2.2⟩
theorem fS.p {fr : Nat} {M m : xMem} (h : fS fr M m) (hf : fr ≠ 10) {k : Nat} {v : Int32} : fS fr M (wI m fr k v) := ⟨h.1, fun a a1 a2 => by funext i; rw [xI_wI, if_neg (fun z => a2 z.1), h.2.1 a a1 a2], fun i i1 => by rw [xI_wI, if_neg (fun z => hf z.1.symm), h.2.2 i i1]⟩
theorem fS.r {fr : Nat} {M m : xMem} {a N : Nat} {b : Nat → Int32} (h : fS fr M m) (hf : fr < 54) (hr : rdr M a N b) : rdr m a N b := by
  obtain ⟨h1, h2, h3, h4, h5, h6, h7⟩ := hr
  have := xob_9 h6
  exact ⟨by show xNT ≤ m.2.2.2; rw [h.1]; exact h1, by rw [h.1]; exact h2, by rw [h.2.2 2 (by omega)]; exact h3, h4, by rw [h.1]; exact h5, h6, fun i hi => by rw [h.2.1 (a + 1) (by omega) (by omega)]; exact h7 i hi⟩
theorem tok_w {m : xMem} {b : Nat → Int32} {N j fr k : Nat} {v : Int32} (h : tokS m b N j) (hf : fr ≠ 10) : tokS (wI m fr k v) b N j := by
  obtain ⟨h1, h2, h3, h4, h5⟩ := h
  exact ⟨h1, by rw [xI_wI, if_neg (fun z => hf z.1.symm)]; exact h2, by rw [xI_wI, if_neg (fun z => hf z.1.symm)]; exact h3, by rw [xI_wI, if_neg (fun z => hf z.1.symm)]; exact h4, fun z => by rw [xI_wI, if_neg (fun z => hf z.1.symm)]; exact h5 z⟩
theorem vv_1 {b : Nat → Int32} {N j q : Nat} {l u : Nat} (h : nN b N (ps b N j q) l u) : vv b N j q ≤ u := h.2.2

set_option maxRecDepth 100000 in
theorem c_X3_readSides {E : xE} {M : xMem} {a N j fr : Nat} {b : Nat → Int32} (hr : rdr M a N b) (hfr : xob fr 0) (hf1 : fr ≠ 10) (hf2 : fr < 54) (ht : tokS M b N (ps b N j 1)) : Ct E mX3_readSides [.ref 10, .ref fr] M (xN M) (fun r m => r = some (.int (zb (ff (fmC b N j) 2 1 = 3))) ∧ fS fr M m ∧ tokS m b N (ps b N j (ff (fmC b N j) 2 1)) ∧ (∀ k, k ≠ 1 → k ≠ 2 → m.1 fr k = M.1 fr k) ∧ (ff (fmC b N j) 2 1 = 3 → m.1 fr 1 = nI (vv b N j 1) ∧ m.1 fr 2 = nI (vv b N j 2))) := by
  have hM := hr.1
  have hW := hr.2.1
  refine Ct.of (lo := [some (.ref 10), some (.ref fr)]) pln_X3 (Nat.le_of_ble_eq_true rfl) rfl (Nat.le_refl _) ?_
  refine px_aload_n dX3_readSides_0 rfl rfl ?_
  refine px_aload_n dX3_readSides_1 rfl rfl ?_
  refine px_iconst dX3_readSides_2 ic_1 ?_
  refine px_bipush dX3_readSides_3 bp_16 ?_
  refine px_gV2 dX3_readSides_5 kX3_readSides_75 (xol rfl) hM (Nat.le_of_ble_eq_true rfl) (c_X3_takeNumber hr ht) (fun r5 M5 hq5 hn5 => ?_)
  obtain ⟨rfl, q1, q2⟩ := hq5
  have hM : xNT ≤ xN M5 := by rw [hn5]; exact hM
  have hW : xWire M5.2.1 := by rw [q1.1]; exact hW
  refine px_putI dX3_readSides_8 fX3_111 p0_1 hfr hM rfl ?_
  refine px_aload_n dX3_readSides_11 rfl rfl ?_
  refine px_getI dX3_readSides_12 fX3_111 hfr hM rfl ?_
  refine px_top (y := nmV b N (ps b N j 1) 1 16) (wI_self _ _ _ _) ?_
  refine px_bipush dX3_readSides_15 bp_m9 ?_
  refine px_icmp_ne 22 dX3_readSides_17 rfl (fun h17 => ?_) (fun h17 => ?_)
  · have o1 := Classical.byContradiction (fun z => h17 (nm_9.mpr z))
    have c1 : fmC b N j 1 := fmC_1.mp o1
    have q2 : tokS M5 b N (ps b N j 2) := by rw [(nm_y o1).2] at q2; exact q2
    refine px_aload_n dX3_readSides_22 rfl rfl ?_
    refine px_aload_n dX3_readSides_23 rfl rfl ?_
    refine px_iconst dX3_readSides_24 ic_1 ?_
    refine px_bipush dX3_readSides_25 bp_16 ?_
    refine px_gV2 dX3_readSides_27 kX3_readSides_75 (xol rfl) hM (Nat.le_of_ble_eq_true rfl) (c_X3_takeNumber (((q1.f (fr := fr)).p hf1).r hf2 hr) (tok_w q2 hf1)) (fun r27 M27 hq27 hn27 => ?_)
    obtain ⟨rfl, q3, q4⟩ := hq27
    have hM : xNT ≤ xN M27 := by rw [hn27]; exact hM
    have hW : xWire M27.2.1 := by rw [q3.1]; exact hW
    refine px_putI dX3_readSides_30 fX3_114 p0_2 hfr hM rfl ?_
    refine px_aload_n dX3_readSides_33 rfl rfl ?_
    refine px_getI dX3_readSides_34 fX3_114 hfr hM rfl ?_
    refine px_top (y := nmV b N (ps b N j 2) 1 16) (wI_self _ _ _ _) ?_
    refine px_bipush dX3_readSides_37 bp_m9 ?_
    refine px_icmp_eq 46 dX3_readSides_39 rfl (fun h39 => ?_) (fun h39 => ?_)
    · have c2 : ¬ fmC b N j 2 := fun z => nm_9.mp h39 (fmC_2.mpr z)
      have e : ff (fmC b N j) 2 1 = 2 := by rw [ff_y c1, ff_n c2]
      refine px_iconst dX3_readSides_46 ic_0 ?_
      exact px_zret dX3_readSides_47 rfl (by first | rfl | exact zb_nar) (by
            have fs : fS fr M (wI M27 fr 2 (nmV b N (ps b N j 2) 1 16)) := (((q1.f (fr := fr)).p hf1).tr (q3.f)).p hf1
            have fk : ∀ k, k ≠ 1 → k ≠ 2 → (wI M27 fr 2 (nmV b N (ps b N j 2) 1 16)).1 fr k = M.1 fr k := fun k k1 k2 => by rw [xI_wI, if_neg (fun z => k2 z.2), q3.2.1 fr hf1, xI_wI, if_neg (fun z => k1 z.2), q1.2.1 fr hf1]
            first
              | (rw [e]; refine ⟨rfl, fs, tok_w q4 hf1, fk, fun _ => ⟨?_, ?_⟩⟩; (rw [xI_wI, if_neg (fun z => by omega), q3.2.1 fr hf1, wI_self]; exact (nm_y o1).1); (rw [wI_self]; exact (nm_y o2).1))
              | (rw [e]; rw [(nm_n (nm_9.mp h39)).2] at q4; exact ⟨rfl, fs, tok_w q4 hf1, fk, fun z => absurd z (by decide)⟩)) (by first | exact hn5 | exact hn27.trans hn5)
    · have o2 := Classical.byContradiction (fun z => h39 (nm_9.mpr z))
      have c2 : fmC b N j 2 := fmC_2.mp o2
      have q4 : tokS M27 b N (ps b N j 3) := by rw [(nm_y o2).2] at q4; exact q4
      have e : ff (fmC b N j) 2 1 = 3 := by rw [ff_y c1, ff_y c2]; rfl
      refine px_iconst dX3_readSides_42 ic_1 ?_
      refine px_goto 47 dX3_readSides_43 rfl ?_
      exact px_zret dX3_readSides_47 rfl (by first | rfl | exact zb_nar) (by
            have fs : fS fr M (wI M27 fr 2 (nmV b N (ps b N j 2) 1 16)) := (((q1.f (fr := fr)).p hf1).tr (q3.f)).p hf1
            have fk : ∀ k, k ≠ 1 → k ≠ 2 → (wI M27 fr 2 (nmV b N (ps b N j 2) 1 16)).1 fr k = M.1 fr k := fun k k1 k2 => by rw [xI_wI, if_neg (fun z => k2 z.2), q3.2.1 fr hf1, xI_wI, if_neg (fun z => k1 z.2), q1.2.1 fr hf1]
            first
              | (rw [e]; refine ⟨rfl, fs, tok_w q4 hf1, fk, fun _ => ⟨?_, ?_⟩⟩; (rw [xI_wI, if_neg (fun z => by omega), q3.2.1 fr hf1, wI_self]; exact (nm_y o1).1); (rw [wI_self]; exact (nm_y o2).1))
              | (rw [e]; rw [(nm_n (nm_9.mp h39)).2] at q4; exact ⟨rfl, fs, tok_w q4 hf1, fk, fun z => absurd z (by decide)⟩)) (by first | exact hn5 | exact hn27.trans hn5)
  · have c1 : ¬ fmC b N j 1 := fun z => nm_9.mp h17 (fmC_1.mpr z)
    have e : ff (fmC b N j) 2 1 = 1 := ff_n c1
    refine px_iconst dX3_readSides_20 ic_0 ?_
    exact px_zret dX3_readSides_21 rfl (by first | rfl | exact zb_nar) (by rw [e]; rw [(nm_n (nm_9.mp h17)).2] at q2; exact ⟨rfl, (q1.f).p hf1, tok_w q2 hf1, fun k k1 k2 => by rw [xI_wI, if_neg (fun z => k1 z.2), q1.2.1 fr hf1], fun z => absurd z (by decide)⟩) (by first | exact hn5 | exact hn27.trans hn5)

set_option maxRecDepth 100000 in
theorem c_X3_readEmpty {E : xE} {M : xMem} {a N j fr : Nat} {b : Nat → Int32} (hr : rdr M a N b) (hfr : xob fr 0) (hf1 : fr ≠ 10) (hf2 : fr < 54) (ht : tokS M b N (ps b N j 3)) (hw : M.1 fr 1 = nI (vv b N j 1)) (hh : M.1 fr 2 = nI (vv b N j 2)) (hw16 : vv b N j 1 ≤ 16) (hh16 : vv b N j 2 ≤ 16) : Ct E mX3_readEmpty [.ref 10, .ref fr] M (xN M) (fun r m => r = some (.int (zb (ff (fmC b N j) 4 3 = 7))) ∧ fS fr M m ∧ tokS m b N (ps b N j (ff (fmC b N j) 4 3)) ∧ (∀ k, (k < 3 ∨ 6 < k) → m.1 fr k = M.1 fr k) ∧ (ff (fmC b N j) 4 3 = 7 → ∀ k, 3 ≤ k → k ≤ 6 → m.1 fr k = nI (vv b N j k))) := by
  have hM := hr.1
  have hW := hr.2.1
  refine Ct.of (lo := [some (.ref 10), some (.ref fr)]) pln_X3 (Nat.le_of_ble_eq_true rfl) rfl (Nat.le_refl _) ?_
  refine px_aload_n dX3_readEmpty_0 rfl rfl ?_
  refine px_aload_n dX3_readEmpty_1 rfl rfl ?_
  refine px_iconst dX3_readEmpty_2 ic_0 ?_
  refine px_bipush dX3_readEmpty_3 bp_9 ?_
  refine px_gV2 dX3_readEmpty_5 kX3_readEmpty_75 (xol rfl) hM (Nat.le_of_ble_eq_true rfl) (c_X3_takeNumber hr ht) (fun r5 M5 hq5 hn5 => ?_)
  obtain ⟨rfl, q1, q2⟩ := hq5
  have hM : xNT ≤ xN M5 := by rw [hn5]; exact hM
  have hW : xWire M5.2.1 := by rw [q1.1]; exact hW
  refine px_putI dX3_readEmpty_8 fX3_117 p0_3 hfr hM rfl ?_
  refine px_aload_n dX3_readEmpty_11 rfl rfl ?_
  refine px_getI dX3_readEmpty_12 fX3_117 hfr hM rfl ?_
  refine px_top (y := nmV b N (ps b N j 3) 0 9) (wI_self _ _ _ _) ?_
  refine px_bipush dX3_readEmpty_15 bp_m9 ?_
  refine px_icmp_ne 22 dX3_readEmpty_17 rfl (fun h17 => ?_) (fun h17 => ?_)
  · have o3 := Classical.byContradiction (fun z => h17 (nm_9.mpr z))
    have c3 : fmC b N j 3 := fmC_3.mp o3
    have q2 : tokS M5 b N (ps b N j 4) := by rw [(nm_y o3).2] at q2; exact q2
    have hl3 : vv b N j 3 ≤ 9 := ((nN_i (l := 0) (h := 9) (by decide) (by decide)).mp o3).2.2
    have f1 := (q1.f (fr := fr)).p hf1 (k := 3) (v := nmV b N (ps b N j 3) 0 9)
    refine px_aload_n dX3_readEmpty_22 rfl rfl ?_
    refine px_aload_n dX3_readEmpty_23 rfl rfl ?_
    refine px_iconst dX3_readEmpty_24 ic_0 ?_
    refine px_bipush dX3_readEmpty_25 bp_9 ?_
    refine px_gV2 dX3_readEmpty_27 kX3_readEmpty_75 (xol rfl) hM (Nat.le_of_ble_eq_true rfl) (c_X3_takeNumber (f1.r hf2 hr) (tok_w q2 hf1)) (fun r27 M27 hq27 hn27 => ?_)
    obtain ⟨rfl, q3, q4⟩ := hq27
    have hM : xNT ≤ xN M27 := by rw [hn27]; exact hM
    have hW : xWire M27.2.1 := by rw [q3.1]; exact hW
    refine px_putI dX3_readEmpty_30 fX3_120 p0_4 hfr hM rfl ?_
    refine px_aload_n dX3_readEmpty_33 rfl rfl ?_
    refine px_getI dX3_readEmpty_34 fX3_120 hfr hM rfl ?_
    refine px_top (y := nmV b N (ps b N j 4) 0 9) (wI_self _ _ _ _) ?_
    refine px_bipush dX3_readEmpty_37 bp_m9 ?_
    refine px_icmp_ne 44 dX3_readEmpty_39 rfl (fun h39 => ?_) (fun h39 => ?_)
    · have o4 := Classical.byContradiction (fun z => h39 (nm_9.mpr z))
      have c4 : fmC b N j 4 := fmC_4.mp o4
      have q4 : tokS M27 b N (ps b N j 5) := by rw [(nm_y o4).2] at q4; exact q4
      have hl4 : vv b N j 4 ≤ 9 := ((nN_i (l := 0) (h := 9) (by decide) (by decide)).mp o4).2.2
      have f2 := f1.tr ((q3.f (fr := fr)).p hf1 (k := 4) (v := nmV b N (ps b N j 4) 0 9))
      refine px_aload_n dX3_readEmpty_44 rfl rfl ?_
      refine px_aload_n dX3_readEmpty_45 rfl rfl ?_
      refine px_iconst dX3_readEmpty_46 ic_0 ?_
      refine px_bipush dX3_readEmpty_47 bp_9 ?_
      refine px_aload_n dX3_readEmpty_49 rfl rfl ?_
      refine px_getI dX3_readEmpty_50 fX3_111 hfr hM rfl ?_
      refine px_top (y := nI (vv b N j 1)) (by rw [xI_wI, if_neg (fun z => by omega), q3.2.1 fr hf1, xI_wI, if_neg (fun z => by omega), q1.2.1 fr hf1]; exact hw) ?_
      refine px_aload_n dX3_readEmpty_53 rfl rfl ?_
      refine px_getI dX3_readEmpty_54 fX3_117 hfr hM rfl ?_
      refine px_top (y := nI (vv b N j 3)) (by rw [xI_wI, if_neg (fun z => by omega), q3.2.1 fr hf1, wI_self]; exact (nm_y o3).1) ?_
      refine px_isub dX3_readEmpty_57 ?_
      refine px_iconst dX3_readEmpty_58 ic_1 ?_
      refine px_isub dX3_readEmpty_59 ?_
      refine px_min dX3_readEmpty_60 kX3_readEmpty_46 (Nat.le_of_ble_eq_true rfl) ?_
      refine px_gV2 dX3_readEmpty_63 kX3_readEmpty_75 (xol rfl) hM (Nat.le_of_ble_eq_true rfl) (c_X3_takeNumber (f2.r hf2 hr) (tok_w q4 hf1)) (fun r63 M63 hq63 hn63 => ?_)
      obtain ⟨rfl, q5, q6⟩ := hq63
      have hM : xNT ≤ xN M63 := by rw [hn63]; exact hM
      have hW : xWire M63.2.1 := by rw [q5.1]; exact hW
      refine px_putI dX3_readEmpty_66 fX3_123 p0_5 hfr hM rfl ?_
      refine px_aload_n dX3_readEmpty_69 rfl rfl ?_
      refine px_getI dX3_readEmpty_70 fX3_123 hfr hM rfl ?_
      refine px_top (y := nmV b N (ps b N j 5) 0 (if nI (vv b N j 1) - nI (vv b N j 3) - 1 < 9 then nI (vv b N j 1) - nI (vv b N j 3) - 1 else 9)) (wI_self _ _ _ _) ?_
      refine px_bipush dX3_readEmpty_73 bp_m9 ?_
      refine px_icmp_ne 80 dX3_readEmpty_75 rfl (fun h75 => ?_) (fun h75 => ?_)
      · have o5 := Classical.byContradiction (fun z => h75 (nm_9.mpr z))
        have c5 : fmC b N j 5 := (fmC_5 hw16 hl3).mp o5
        have q6 : tokS M63 b N (ps b N j 6) := by rw [(nm_y o5).2] at q6; exact q6
        have f3 := f2.tr ((q5.f (fr := fr)).p hf1 (k := 5) (v := nmV b N (ps b N j 5) 0 (if nI (vv b N j 1) - nI (vv b N j 3) - 1 < 9 then nI (vv b N j 1) - nI (vv b N j 3) - 1 else 9)))
        refine px_aload_n dX3_readEmpty_80 rfl rfl ?_
        refine px_aload_n dX3_readEmpty_81 rfl rfl ?_
        refine px_iconst dX3_readEmpty_82 ic_0 ?_
        refine px_bipush dX3_readEmpty_83 bp_9 ?_
        refine px_aload_n dX3_readEmpty_85 rfl rfl ?_
        refine px_getI dX3_readEmpty_86 fX3_114 hfr hM rfl ?_
        refine px_top (y := nI (vv b N j 2)) (by rw [xI_wI, if_neg (fun z => by omega), q5.2.1 fr hf1, xI_wI, if_neg (fun z => by omega), q3.2.1 fr hf1, xI_wI, if_neg (fun z => by omega), q1.2.1 fr hf1]; exact hh) ?_
        refine px_aload_n dX3_readEmpty_89 rfl rfl ?_
        refine px_getI dX3_readEmpty_90 fX3_120 hfr hM rfl ?_
        refine px_top (y := nI (vv b N j 4)) (by rw [xI_wI, if_neg (fun z => by omega), q5.2.1 fr hf1, wI_self]; exact (nm_y o4).1) ?_
        refine px_isub dX3_readEmpty_93 ?_
        refine px_iconst dX3_readEmpty_94 ic_1 ?_
        refine px_isub dX3_readEmpty_95 ?_
        refine px_min dX3_readEmpty_96 kX3_readEmpty_46 (Nat.le_of_ble_eq_true rfl) ?_
        refine px_gV2 dX3_readEmpty_99 kX3_readEmpty_75 (xol rfl) hM (Nat.le_of_ble_eq_true rfl) (c_X3_takeNumber (f3.r hf2 hr) (tok_w q6 hf1)) (fun r99 M99 hq99 hn99 => ?_)
        obtain ⟨rfl, q7, q8⟩ := hq99
        have hM : xNT ≤ xN M99 := by rw [hn99]; exact hM
        have hW : xWire M99.2.1 := by rw [q7.1]; exact hW
        refine px_putI dX3_readEmpty_102 fX3_126 p0_6 hfr hM rfl ?_
        refine px_aload_n dX3_readEmpty_105 rfl rfl ?_
        refine px_getI dX3_readEmpty_106 fX3_126 hfr hM rfl ?_
        refine px_top (y := nmV b N (ps b N j 6) 0 (if nI (vv b N j 2) - nI (vv b N j 4) - 1 < 9 then nI (vv b N j 2) - nI (vv b N j 4) - 1 else 9)) (wI_self _ _ _ _) ?_
        refine px_bipush dX3_readEmpty_109 bp_m9 ?_
        refine px_icmp_eq 118 dX3_readEmpty_111 rfl (fun h111 => ?_) (fun h111 => ?_)
        · have c6 : ¬ fmC b N j 6 := fun z => nm_9.mp h111 ((fmC_6 hh16 hl4).mpr z)
          have e : ff (fmC b N j) 4 3 = 6 := by rw [ff_y c3, ff_y c4, ff_y c5, ff_n c6]
          refine px_iconst dX3_readEmpty_118 ic_0 ?_
          exact px_zret dX3_readEmpty_119 rfl (by first | rfl | exact zb_nar) (by
                have fk : ∀ k, (k < 3 ∨ 6 < k) → (wI M99 fr 6 (nmV b N (ps b N j 6) 0 (if nI (vv b N j 2) - nI (vv b N j 4) - 1 < 9 then nI (vv b N j 2) - nI (vv b N j 4) - 1 else 9))).1 fr k = M.1 fr k := fun k k1 => by rw [xI_wI, if_neg (fun z => by omega), q7.2.1 fr hf1, xI_wI, if_neg (fun z => by omega), q5.2.1 fr hf1, xI_wI, if_neg (fun z => by omega), q3.2.1 fr hf1, xI_wI, if_neg (fun z => by omega), q1.2.1 fr hf1]
                first
                  | (rw [e]
                     refine ⟨rfl, f3.tr ((q7.f).p hf1), tok_w q8 hf1, fk, fun _ k k1 k2 => ?_⟩
                     rcases (show k = 3 ∨ k = 4 ∨ k = 5 ∨ k = 6 by omega) with rfl | rfl | rfl | rfl
                     · rw [xI_wI, if_neg (fun z => by omega), q7.2.1 fr hf1, xI_wI, if_neg (fun z => by omega), q5.2.1 fr hf1, xI_wI, if_neg (fun z => by omega), q3.2.1 fr hf1, wI_self]; exact (nm_y o3).1
                     · rw [xI_wI, if_neg (fun z => by omega), q7.2.1 fr hf1, xI_wI, if_neg (fun z => by omega), q5.2.1 fr hf1, wI_self]; exact (nm_y o4).1
                     · rw [xI_wI, if_neg (fun z => by omega), q7.2.1 fr hf1, wI_self]; exact (nm_y o5).1
                     · rw [wI_self]; exact (nm_y o6).1)
                  | (rw [e]; rw [(nm_n (nm_9.mp h111)).2] at q8; exact ⟨rfl, f3.tr ((q7.f).p hf1), tok_w q8 hf1, fk, fun z => absurd z (by decide)⟩)) (by first | exact hn5 | exact hn27.trans hn5 | exact hn63.trans (hn27.trans hn5) | exact hn99.trans (hn63.trans (hn27.trans hn5)))
        · have o6 := Classical.byContradiction (fun z => h111 (nm_9.mpr z))
          have c6 : fmC b N j 6 := (fmC_6 hh16 hl4).mp o6
          have q8 : tokS M99 b N (ps b N j 7) := by rw [(nm_y o6).2] at q8; exact q8
          have e : ff (fmC b N j) 4 3 = 7 := by rw [ff_y c3, ff_y c4, ff_y c5, ff_y c6]; rfl
          refine px_iconst dX3_readEmpty_114 ic_1 ?_
          refine px_goto 119 dX3_readEmpty_115 rfl ?_
          exact px_zret dX3_readEmpty_119 rfl (by first | rfl | exact zb_nar) (by
                have fk : ∀ k, (k < 3 ∨ 6 < k) → (wI M99 fr 6 (nmV b N (ps b N j 6) 0 (if nI (vv b N j 2) - nI (vv b N j 4) - 1 < 9 then nI (vv b N j 2) - nI (vv b N j 4) - 1 else 9))).1 fr k = M.1 fr k := fun k k1 => by rw [xI_wI, if_neg (fun z => by omega), q7.2.1 fr hf1, xI_wI, if_neg (fun z => by omega), q5.2.1 fr hf1, xI_wI, if_neg (fun z => by omega), q3.2.1 fr hf1, xI_wI, if_neg (fun z => by omega), q1.2.1 fr hf1]
                first
                  | (rw [e]
                     refine ⟨rfl, f3.tr ((q7.f).p hf1), tok_w q8 hf1, fk, fun _ k k1 k2 => ?_⟩
                     rcases (show k = 3 ∨ k = 4 ∨ k = 5 ∨ k = 6 by omega) with rfl | rfl | rfl | rfl
                     · rw [xI_wI, if_neg (fun z => by omega), q7.2.1 fr hf1, xI_wI, if_neg (fun z => by omega), q5.2.1 fr hf1, xI_wI, if_neg (fun z => by omega), q3.2.1 fr hf1, wI_self]; exact (nm_y o3).1
                     · rw [xI_wI, if_neg (fun z => by omega), q7.2.1 fr hf1, xI_wI, if_neg (fun z => by omega), q5.2.1 fr hf1, wI_self]; exact (nm_y o4).1
                     · rw [xI_wI, if_neg (fun z => by omega), q7.2.1 fr hf1, wI_self]; exact (nm_y o5).1
                     · rw [wI_self]; exact (nm_y o6).1)
                  | (rw [e]; rw [(nm_n (nm_9.mp h111)).2] at q8; exact ⟨rfl, f3.tr ((q7.f).p hf1), tok_w q8 hf1, fk, fun z => absurd z (by decide)⟩)) (by first | exact hn5 | exact hn27.trans hn5 | exact hn63.trans (hn27.trans hn5) | exact hn99.trans (hn63.trans (hn27.trans hn5)))
      · have c5 : ¬ fmC b N j 5 := fun z => nm_9.mp h75 ((fmC_5 hw16 hl3).mpr z)
        have e : ff (fmC b N j) 4 3 = 5 := by rw [ff_y c3, ff_y c4, ff_n c5]
        refine px_iconst dX3_readEmpty_78 ic_0 ?_
        exact px_zret dX3_readEmpty_79 rfl (by first | rfl | exact zb_nar) (by rw [e]; rw [(nm_n (nm_9.mp h75)).2] at q6; exact ⟨rfl, f2.tr ((q5.f).p hf1), tok_w q6 hf1, fun k k1 => by rw [xI_wI, if_neg (fun z => by omega), q5.2.1 fr hf1, xI_wI, if_neg (fun z => by omega), q3.2.1 fr hf1, xI_wI, if_neg (fun z => by omega), q1.2.1 fr hf1], fun z => absurd z (by decide)⟩) (by first | exact hn5 | exact hn27.trans hn5 | exact hn63.trans (hn27.trans hn5) | exact hn99.trans (hn63.trans (hn27.trans hn5)))
    · have c4 : ¬ fmC b N j 4 := fun z => nm_9.mp h39 (fmC_4.mpr z)
      have e : ff (fmC b N j) 4 3 = 4 := by rw [ff_y c3, ff_n c4]
      refine px_iconst dX3_readEmpty_42 ic_0 ?_
      exact px_zret dX3_readEmpty_43 rfl (by first | rfl | exact zb_nar) (by rw [e]; rw [(nm_n (nm_9.mp h39)).2] at q4; exact ⟨rfl, f1.tr ((q3.f).p hf1), tok_w q4 hf1, fun k k1 => by rw [xI_wI, if_neg (fun z => by omega), q3.2.1 fr hf1, xI_wI, if_neg (fun z => by omega), q1.2.1 fr hf1], fun z => absurd z (by decide)⟩) (by first | exact hn5 | exact hn27.trans hn5 | exact hn63.trans (hn27.trans hn5) | exact hn99.trans (hn63.trans (hn27.trans hn5)))
  · have c3 : ¬ fmC b N j 3 := fun z => nm_9.mp h17 (fmC_3.mpr z)
    have e : ff (fmC b N j) 4 3 = 3 := ff_n c3
    refine px_iconst dX3_readEmpty_20 ic_0 ?_
    exact px_zret dX3_readEmpty_21 rfl (by first | rfl | exact zb_nar) (by rw [e]; rw [(nm_n (nm_9.mp h17)).2] at q2; exact ⟨rfl, (q1.f).p hf1, tok_w q2 hf1, fun k k1 => by rw [xI_wI, if_neg (fun z => by omega), q1.2.1 fr hf1], fun z => absurd z (by decide)⟩) (by first | exact hn5 | exact hn27.trans hn5 | exact hn63.trans (hn27.trans hn5) | exact hn99.trans (hn63.trans (hn27.trans hn5)))
