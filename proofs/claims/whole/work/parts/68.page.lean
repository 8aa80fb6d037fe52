/-! ===== readPage, readBleed, settle ===== -/
theorem zcT {p : Prop} (h : p) : zc p = 1 := @zb_t p (Classical.propDecidable p) h
theorem zcF {p : Prop} (h : ¬ p) : zc p = 0 := @zb_f p (Classical.propDecidable p) h
noncomputable def pgJ (b : Nat → Int32) (N j : Nat) : Nat := @ite _ (isW b N j 0) (Classical.propDecidable _) (ps b N j (ff (pgC b N j) 3 1)) j
def bS (d : Nat) (M m : xMem) : Prop := m.2 = M.2 ∧ (∀ a, a ≠ 10 → a ≠ d → m.1 a = M.1 a) ∧ ∀ k, k < 3 → m.1 10 k = M.1 10 k
theorem rdr_7 {M : xMem} {a N : Nat} {b : Nat → Int32} {v : Int32} (hr : rdr M a N b) : rdr (wI M 10 7 v) a N b := by
  obtain ⟨h1, h2, h3, h4, h5, h6, h7⟩ := hr
  have := xob_9 h6
  exact ⟨h1, h2, h3, h4, h5, h6, fun i hi => by rw [xI_wI, if_neg (fun z => by omega)]; exact h7 i hi⟩

set_option maxRecDepth 100000 in
theorem c_X3_readPage {E : xE} {M : xMem} {a N j d : Nat} {b : Nat → Int32} (hr : rdr M a N b) (ht : tokS M b N j) (hdr : M.2.1 10 0 = d) (hd : xob d 7) : Ct E mX3_readPage [.ref 10] M (xN M) (fun r m => r = some (.int (zc (isW b N j 0 ∧ ff (pgC b N j) 3 1 = 4))) ∧ fS d M m ∧ tokS m b N (pgJ b N j) ∧ (∀ k, k ≠ 2 → k ≠ 3 → m.1 d k = M.1 d k) ∧ (isW b N j 0 ∧ ff (pgC b N j) 3 1 = 4 → m.1 d 2 = nI (vv b N j 1) ∧ m.1 d 3 = nI (vv b N j 2))) := by
  have hM := hr.1
  have hW := hr.2.1
  have hd0 : 0 < d := hd.1
  have hd7 := xob_7 hd
  have hf1 : d ≠ 10 := by omega
  have hf2 : d < 54 := by omega
  obtain ⟨hj, eK, eF, eT, eV⟩ := id ht
  have hTb := tT_b (b := b) hj
  refine Ct.of (lo := [some (.ref 10)]) pln_X3 (Nat.le_of_ble_eq_true rfl) rfl (Nat.le_refl _) ?_
  refine px_aload_n dX3_readPage_0 rfl rfl ?_
  refine px_ldcS dX3_readPage_1 (List.mem_of_getElem? (i := 0) rfl) ?_
  refine px_fV1i dX3_readPage_3 kX3_readPage_71 (xol rfl) hM (Nat.le_of_ble_eq_true rfl) (c_X3_isAtWord (w := 0) hr ht (by decide)) ?_
  refine px_cif_ne 11 dX3_readPage_6 rfl (fun h6 => ?_) (fun h6 => ?_)
  · have hpj : pgJ b N j = ps b N j (ff (pgC b N j) 3 1) := if_pos h6
    refine px_aload_n dX3_readPage_11 rfl rfl ?_
    refine px_gV0 dX3_readPage_12 kX3_readPage_56 (xol rfl) hM (Nat.le_of_ble_eq_true rfl) (c_X3_advance hr hTb.2.1 eT) (fun r12 M12 hq12 hn12 => ?_)
    obtain ⟨rfl, q1, q2⟩ := hq12
    have hM : xNT ≤ xN M12 := by rw [hn12]; exact hM
    have hW : xWire M12.2.1 := by rw [q1.1]; exact hW
    have hdr : M12.2.1 10 0 = d := by rw [q1.1]; exact hdr
    refine px_aload_n dX3_readPage_15 rfl rfl ?_
    refine px_getR dX3_readPage_16 fX3_12 (xol rfl) hM rfl (by assumption) (by assumption) ?_
    refine px_aload_n dX3_readPage_19 rfl rfl ?_
    refine px_iconst dX3_readPage_20 ic_4 ?_
    refine px_bipush dX3_readPage_21 bp_16 ?_
    refine px_gV2 dX3_readPage_23 kX3_readPage_75 (xol rfl) hM (Nat.le_of_ble_eq_true rfl) (c_X3_takeNumber (j := ps b N j 1) (q1.r hr) q2) (fun r23 M23 hq23 hn23 => ?_)
    obtain ⟨rfl, q3, q4⟩ := hq23
    have hM : xNT ≤ xN M23 := by rw [hn23]; exact hM
    have hW : xWire M23.2.1 := by rw [q3.1]; exact hW
    have hdr : M23.2.1 10 0 = d := by rw [q3.1]; exact hdr
    refine px_putI dX3_readPage_26 fX3_78 p7_2 hd hM rfl ?_
    refine px_aload_n dX3_readPage_29 rfl rfl ?_
    refine px_getR dX3_readPage_30 fX3_12 (xol rfl) hM rfl (by assumption) (by assumption) ?_
    refine px_getI dX3_readPage_33 fX3_78 hd hM rfl ?_
    refine px_top (y := nmV b N (ps b N j 1) 4 16) (wI_self _ _ _ _) ?_
    refine px_bipush dX3_readPage_36 bp_m9 ?_
    refine px_icmp_ne 43 dX3_readPage_38 rfl (fun h38 => ?_) (fun h38 => ?_)
    · have o1 := Classical.byContradiction (fun z => h38 (nm_9.mpr z))
      have c1 : pgC b N j 1 := pgC_1.mp o1
      have q4 : tokS M23 b N (ps b N j 2) := by rw [(nm_y o1).2] at q4; exact q4
      have f1 := ((q1.tr q3).f (fr := d)).p hf1 (k := 2) (v := nmV b N (ps b N j 1) 4 16)
      refine px_aload_n dX3_readPage_43 rfl rfl ?_
      refine px_getR dX3_readPage_44 fX3_12 (xol rfl) hM rfl (by assumption) (by assumption) ?_
      refine px_aload_n dX3_readPage_47 rfl rfl ?_
      refine px_iconst dX3_readPage_48 ic_4 ?_
      refine px_bipush dX3_readPage_49 bp_16 ?_
      refine px_gV2 dX3_readPage_51 kX3_readPage_75 (xol rfl) hM (Nat.le_of_ble_eq_true rfl) (c_X3_takeNumber (f1.r hf2 hr) (tok_w q4 hf1)) (fun r51 M51 hq51 hn51 => ?_)
      obtain ⟨rfl, q5, q6⟩ := hq51
      have hM : xNT ≤ xN M51 := by rw [hn51]; exact hM
      have hW : xWire M51.2.1 := by rw [q5.1]; exact hW
      have hdr : M51.2.1 10 0 = d := by rw [q5.1]; exact hdr
      refine px_putI dX3_readPage_54 fX3_81 p7_3 hd hM rfl ?_
      refine px_aload_n dX3_readPage_57 rfl rfl ?_
      refine px_getR dX3_readPage_58 fX3_12 (xol rfl) hM rfl (by assumption) (by assumption) ?_
      refine px_getI dX3_readPage_61 fX3_81 hd hM rfl ?_
      refine px_top (y := nmV b N (ps b N j 2) 4 16) (wI_self _ _ _ _) ?_
      refine px_bipush dX3_readPage_64 bp_m9 ?_
      refine px_icmp_eq 80 dX3_readPage_66 rfl (fun h66 => ?_) (fun h66 => ?_)
      · refine px_iconst dX3_readPage_80 ic_0 ?_
        exact px_zret dX3_readPage_81 rfl (by first | rfl | exact zb_nar) (by
              first
                | (rw [zcT ⟨h6, e⟩, hpj, e]
                   refine ⟨rfl, f2.tr q7.f, q8, fun k k1 k2 => by rw [q7.2.1 d hf1, xI_wI, if_neg (fun z => k2 z.2), q5.2.1 d hf1, xI_wI, if_neg (fun z => k1 z.2), q3.2.1 d hf1, q1.2.1 d hf1], fun _ => ⟨?_, ?_⟩⟩
                   · rw [q7.2.1 d hf1, xI_wI, if_neg (fun z => by omega), q5.2.1 d hf1, wI_self]; exact (nm_y o1).1
                   · rw [q7.2.1 d hf1, wI_self]; exact (nm_y o2).1)
                | (have c3 : ¬ pgC b N j 3 := fun z => h73 (pgC_3.mpr z)
                   have e : ff (pgC b N j) 3 1 = 3 := by rw [ff_y c1, ff_y c2, ff_n c3]
                   have q8 : tokS M70 b N (ps b N j 3) := by rw [if_neg h73] at q8; exact q8
                   rw [zcF (fun z => absurd z.2 (by rw [e]; decide)), hpj, e]
                   exact ⟨rfl, f2.tr q7.f, q8, fun k k1 k2 => by rw [q7.2.1 d hf1, xI_wI, if_neg (fun z => k2 z.2), q5.2.1 d hf1, xI_wI, if_neg (fun z => k1 z.2), q3.2.1 d hf1, q1.2.1 d hf1], fun z => absurd z.2 (by decide)⟩)
                | (have c2 : ¬ pgC b N j 2 := fun z => nm_9.mp h66 (pgC_2.mpr z)
                   have e : ff (pgC b N j) 3 1 = 2 := by rw [ff_y c1, ff_n c2]
                   have q6 : tokS M51 b N (ps b N j 2) := by rw [(nm_n (nm_9.mp h66)).2] at q6; exact q6
                   rw [zcF (fun z => absurd z.2 (by rw [e]; decide)), hpj, e]
                   exact ⟨rfl, f1.tr ((q5.f).p hf1), tok_w q6 hf1, fun k k1 k2 => by rw [xI_wI, if_neg (fun z => k2 z.2), q5.2.1 d hf1, xI_wI, if_neg (fun z => k1 z.2), q3.2.1 d hf1, q1.2.1 d hf1], fun z => absurd z.2 (by decide)⟩)) (by first | rfl | exact hn23.trans hn12 | exact hn51.trans (hn23.trans hn12) | exact hn70.trans (hn51.trans (hn23.trans hn12)))
      · have o2 := Classical.byContradiction (fun z => h66 (nm_9.mpr z))
        have c2 : pgC b N j 2 := pgC_2.mp o2
        have q6 : tokS M51 b N (ps b N j 3) := by rw [(nm_y o2).2] at q6; exact q6
        have f2 := f1.tr ((q5.f (fr := d)).p hf1 (k := 3) (v := nmV b N (ps b N j 2) 4 16))
        refine px_aload_n dX3_readPage_69 rfl rfl ?_
        refine px_gV0 dX3_readPage_70 kX3_readPage_84 (xol rfl) hM (Nat.le_of_ble_eq_true rfl) (c_X3_takeStop (f2.r hf2 hr) (tok_w q6 hf1)) (fun r70 M70 hq70 hn70 => ?_)
        obtain ⟨rfl, q7, q8⟩ := hq70
        have hM : xNT ≤ xN M70 := by rw [hn70]; exact hM
        have hW : xWire M70.2.1 := by rw [q7.1]; exact hW
        have hdr : M70.2.1 10 0 = d := by rw [q7.1]; exact hdr
        refine px_zif_eq 80 dX3_readPage_73 rfl (fun h73 => ?_) (fun h73 => ?_)
        · refine px_iconst dX3_readPage_80 ic_0 ?_
          exact px_zret dX3_readPage_81 rfl (by first | rfl | exact zb_nar) (by
                first
                  | (rw [zcT ⟨h6, e⟩, hpj, e]
                     refine ⟨rfl, f2.tr q7.f, q8, fun k k1 k2 => by rw [q7.2.1 d hf1, xI_wI, if_neg (fun z => k2 z.2), q5.2.1 d hf1, xI_wI, if_neg (fun z => k1 z.2), q3.2.1 d hf1, q1.2.1 d hf1], fun _ => ⟨?_, ?_⟩⟩
                     · rw [q7.2.1 d hf1, xI_wI, if_neg (fun z => by omega), q5.2.1 d hf1, wI_self]; exact (nm_y o1).1
                     · rw [q7.2.1 d hf1, wI_self]; exact (nm_y o2).1)
                  | (have c3 : ¬ pgC b N j 3 := fun z => h73 (pgC_3.mpr z)
                     have e : ff (pgC b N j) 3 1 = 3 := by rw [ff_y c1, ff_y c2, ff_n c3]
                     have q8 : tokS M70 b N (ps b N j 3) := by rw [if_neg h73] at q8; exact q8
                     rw [zcF (fun z => absurd z.2 (by rw [e]; decide)), hpj, e]
                     exact ⟨rfl, f2.tr q7.f, q8, fun k k1 k2 => by rw [q7.2.1 d hf1, xI_wI, if_neg (fun z => k2 z.2), q5.2.1 d hf1, xI_wI, if_neg (fun z => k1 z.2), q3.2.1 d hf1, q1.2.1 d hf1], fun z => absurd z.2 (by decide)⟩)
                  | (have c2 : ¬ pgC b N j 2 := fun z => nm_9.mp h66 (pgC_2.mpr z)
                     have e : ff (pgC b N j) 3 1 = 2 := by rw [ff_y c1, ff_n c2]
                     have q6 : tokS M51 b N (ps b N j 2) := by rw [(nm_n (nm_9.mp h66)).2] at q6; exact q6
                     rw [zcF (fun z => absurd z.2 (by rw [e]; decide)), hpj, e]
                     exact ⟨rfl, f1.tr ((q5.f).p hf1), tok_w q6 hf1, fun k k1 k2 => by rw [xI_wI, if_neg (fun z => k2 z.2), q5.2.1 d hf1, xI_wI, if_neg (fun z => k1 z.2), q3.2.1 d hf1, q1.2.1 d hf1], fun z => absurd z.2 (by decide)⟩)) (by first | rfl | exact hn23.trans hn12 | exact hn51.trans (hn23.trans hn12) | exact hn70.trans (hn51.trans (hn23.trans hn12)))
        · have c3 : pgC b N j 3 := pgC_3.mp h73
          have e : ff (pgC b N j) 3 1 = 4 := by rw [ff_y c1, ff_y c2, ff_y c3]; rfl
          have q8 : tokS M70 b N (ps b N j 4) := by rw [if_pos h73] at q8; exact q8
          refine px_iconst dX3_readPage_76 ic_1 ?_
          refine px_goto 81 dX3_readPage_77 rfl ?_
          exact px_zret dX3_readPage_81 rfl (by first | rfl | exact zb_nar) (by
                first
                  | (rw [zcT ⟨h6, e⟩, hpj, e]
                     refine ⟨rfl, f2.tr q7.f, q8, fun k k1 k2 => by rw [q7.2.1 d hf1, xI_wI, if_neg (fun z => k2 z.2), q5.2.1 d hf1, xI_wI, if_neg (fun z => k1 z.2), q3.2.1 d hf1, q1.2.1 d hf1], fun _ => ⟨?_, ?_⟩⟩
                     · rw [q7.2.1 d hf1, xI_wI, if_neg (fun z => by omega), q5.2.1 d hf1, wI_self]; exact (nm_y o1).1
                     · rw [q7.2.1 d hf1, wI_self]; exact (nm_y o2).1)
                  | (have c3 : ¬ pgC b N j 3 := fun z => h73 (pgC_3.mpr z)
                     have e : ff (pgC b N j) 3 1 = 3 := by rw [ff_y c1, ff_y c2, ff_n c3]
                     have q8 : tokS M70 b N (ps b N j 3) := by rw [if_neg h73] at q8; exact q8
                     rw [zcF (fun z => absurd z.2 (by rw [e]; decide)), hpj, e]
                     exact ⟨rfl, f2.tr q7.f, q8, fun k k1 k2 => by rw [q7.2.1 d hf1, xI_wI, if_neg (fun z => k2 z.2), q5.2.1 d hf1, xI_wI, if_neg (fun z => k1 z.2), q3.2.1 d hf1, q1.2.1 d hf1], fun z => absurd z.2 (by decide)⟩)
                  | (have c2 : ¬ pgC b N j 2 := fun z => nm_9.mp h66 (pgC_2.mpr z)
                     have e : ff (pgC b N j) 3 1 = 2 := by rw [ff_y c1, ff_n c2]
                     have q6 : tokS M51 b N (ps b N j 2) := by rw [(nm_n (nm_9.mp h66)).2] at q6; exact q6
                     rw [zcF (fun z => absurd z.2 (by rw [e]; decide)), hpj, e]
                     exact ⟨rfl, f1.tr ((q5.f).p hf1), tok_w q6 hf1, fun k k1 k2 => by rw [xI_wI, if_neg (fun z => k2 z.2), q5.2.1 d hf1, xI_wI, if_neg (fun z => k1 z.2), q3.2.1 d hf1, q1.2.1 d hf1], fun z => absurd z.2 (by decide)⟩)) (by first | rfl | exact hn23.trans hn12 | exact hn51.trans (hn23.trans hn12) | exact hn70.trans (hn51.trans (hn23.trans hn12)))
    · have c1 : ¬ pgC b N j 1 := fun z => nm_9.mp h38 (pgC_1.mpr z)
      have e : ff (pgC b N j) 3 1 = 1 := ff_n c1
      have q4 : tokS M23 b N (ps b N j 1) := by rw [(nm_n (nm_9.mp h38)).2] at q4; exact q4
      refine px_iconst dX3_readPage_41 ic_0 ?_
      exact px_zret dX3_readPage_42 rfl (by first | rfl | exact zb_nar) (by rw [zcF (fun z => absurd z.2 (by rw [e]; decide)), hpj, e]; exact ⟨rfl, ((q1.tr q3).f).p hf1, tok_w q4 hf1, fun k k1 k2 => by rw [xI_wI, if_neg (fun z => k1 z.2), q3.2.1 d hf1, q1.2.1 d hf1], fun z => absurd z.2 (by decide)⟩) (by first | rfl | exact hn23.trans hn12 | exact hn51.trans (hn23.trans hn12) | exact hn70.trans (hn51.trans (hn23.trans hn12)))
  · refine px_iconst dX3_readPage_9 ic_0 ?_
    exact px_zret dX3_readPage_10 rfl (by first | rfl | exact zb_nar) (by rw [zcF (fun z => h6 z.1), show pgJ b N j = j from if_neg h6]; exact ⟨rfl, fS.rf d M, ht, fun _ _ _ => rfl, fun z => absurd z.1 h6⟩) (by first | rfl | exact hn23.trans hn12 | exact hn51.trans (hn23.trans hn12) | exact hn70.trans (hn51.trans (hn23.trans hn12)))

theorem fS.b {d : Nat} {M m : xMem} (hd : d ≠ 10) (h : fS d (wI M 10 7 1) m) : bS d M m ∧ m.1 10 7 = 1 := ⟨⟨h.1, fun a a1 a2 => by rw [h.2.1 a a1 a2]; funext i; rw [xI_wI, if_neg (fun z => a1 z.1)], fun k k1 => by rw [h.2.2 k (by omega), xI_wI, if_neg (fun z => by omega)]⟩, by rw [h.2.2 7 (by omega)]; exact wI_self _ _ _ _⟩

set_option maxRecDepth 100000 in
theorem c_X3_readBleed {E : xE} {M : xMem} {a N j d : Nat} {b : Nat → Int32} (hr : rdr M a N b) (ht : tokS M b N j) (hdr : M.2.1 10 0 = d) (hd : xob d 7) : Ct E mX3_readBleed [.ref 10] M (xN M) (fun r m => r = some (.int (zc (M.1 10 7 = 0 ∧ ff (blC b N j) 2 1 = 3))) ∧ bS d M m ∧ tokS m b N (if M.1 10 7 = 0 then ps b N j (ff (blC b N j) 2 1) else j) ∧ (∀ k, k ≠ 4 → m.1 d k = M.1 d k) ∧ (M.1 10 7 = 0 ∧ ff (blC b N j) 2 1 = 3 → m.1 d 4 = nI (vv b N j 1) ∧ m.1 10 7 = 1)) := by
  have hM := hr.1
  have hW := hr.2.1
  have hd0 : 0 < d := hd.1
  have hd7 := xob_7 hd
  have hf1 : d ≠ 10 := by omega
  have hf2 : d < 54 := by omega
  obtain ⟨hj, eK, eF, eT, eV⟩ := id ht
  have hTb := tT_b (b := b) hj
  refine Ct.of (lo := [some (.ref 10)]) pln_X3 (Nat.le_of_ble_eq_true rfl) rfl (Nat.le_refl _) ?_
  refine px_aload_n dX3_readBleed_0 rfl rfl ?_
  refine px_getI dX3_readBleed_1 fX3_38 (xol rfl) hM rfl ?_
  refine px_if_eq 9 dX3_readBleed_4 rfl (fun h4 => ?_) (fun h4 => ?_)
  · refine px_aload_n dX3_readBleed_9 rfl rfl ?_
    refine px_iconst dX3_readBleed_10 ic_1 ?_
    refine px_putZ dX3_readBleed_11 fX3_38 p3_7 (xol rfl) hM rfl rfl rfl ?_
    refine px_aload_n dX3_readBleed_14 rfl rfl ?_
    refine px_gV0 dX3_readBleed_15 kX3_readBleed_56 (xol rfl) hM (Nat.le_of_ble_eq_true rfl) (c_X3_advance (rdr_7 hr) hTb.2.1 eT) (fun r15 M15 hq15 hn15 => ?_)
    obtain ⟨rfl, q1, q2⟩ := hq15
    have hM : xNT ≤ xN M15 := by rw [hn15]; exact hM
    have hW : xWire M15.2.1 := by rw [q1.1]; exact hW
    have hdr : M15.2.1 10 0 = d := by rw [q1.1]; exact hdr
    refine px_aload_n dX3_readBleed_18 rfl rfl ?_
    refine px_getR dX3_readBleed_19 fX3_12 (xol rfl) hM rfl (by assumption) (by assumption) ?_
    refine px_aload_n dX3_readBleed_22 rfl rfl ?_
    refine px_iconst dX3_readBleed_23 ic_0 ?_
    refine px_iconst dX3_readBleed_24 ic_2 ?_
    refine px_gV2 dX3_readBleed_25 kX3_readBleed_75 (xol rfl) hM (Nat.le_of_ble_eq_true rfl) (c_X3_takeNumber (j := ps b N j 1) (q1.r (rdr_7 hr)) q2) (fun r25 M25 hq25 hn25 => ?_)
    obtain ⟨rfl, q3, q4⟩ := hq25
    have hM : xNT ≤ xN M25 := by rw [hn25]; exact hM
    have hW : xWire M25.2.1 := by rw [q3.1]; exact hW
    have hdr : M25.2.1 10 0 = d := by rw [q3.1]; exact hdr
    refine px_putI dX3_readBleed_28 fX3_53 p7_4 hd hM rfl ?_
    refine px_aload_n dX3_readBleed_31 rfl rfl ?_
    refine px_getR dX3_readBleed_32 fX3_12 (xol rfl) hM rfl (by assumption) (by assumption) ?_
    refine px_getI dX3_readBleed_35 fX3_53 hd hM rfl ?_
    refine px_top (y := nmV b N (ps b N j 1) 0 2) (wI_self _ _ _ _) ?_
    refine px_bipush dX3_readBleed_38 bp_m9 ?_
    refine px_icmp_eq 54 dX3_readBleed_40 rfl (fun h40 => ?_) (fun h40 => ?_)
    · refine px_iconst dX3_readBleed_54 ic_0 ?_
      exact px_zret dX3_readBleed_55 rfl (by first | rfl | exact zb_nar) (by
            have k0 : ∀ k, (wI M 10 7 1).1 d k = M.1 d k := fun k => by rw [xI_wI, if_neg (fun z => hf1 z.1)]
            first
              | (have c2 : blC b N j 2 := blC_2.mp h47
                 have e : ff (blC b N j) 2 1 = 3 := by rw [ff_y c1, ff_y c2]; rfl
                 have q6 : tokS M44 b N (ps b N j 3) := by rw [if_pos h47] at q6; exact q6
                 have fb := fS.b hf1 (f1.tr q5.f)
                 rw [zcT ⟨h4, e⟩, if_pos h4, e]
                 refine ⟨rfl, fb.1, q6, fun k k1 => by rw [q5.2.1 d hf1, xI_wI, if_neg (fun z => k1 z.2), q3.2.1 d hf1, q1.2.1 d hf1]; exact k0 k, fun _ => ⟨?_, fb.2⟩⟩
                 rw [q5.2.1 d hf1, wI_self]; exact (nm_y o1).1)
              | (have c2 : ¬ blC b N j 2 := fun z => h47 (blC_2.mpr z)
                 have e : ff (blC b N j) 2 1 = 2 := by rw [ff_y c1, ff_n c2]
                 have q6 : tokS M44 b N (ps b N j 2) := by rw [if_neg h47] at q6; exact q6
                 have fb := fS.b hf1 (f1.tr q5.f)
                 rw [zcF (fun z => absurd z.2 (by rw [e]; decide)), if_pos h4, e]
                 exact ⟨rfl, fb.1, q6, fun k k1 => by rw [q5.2.1 d hf1, xI_wI, if_neg (fun z => k1 z.2), q3.2.1 d hf1, q1.2.1 d hf1]; exact k0 k, fun z => absurd z.2 (by decide)⟩)
              | (have c1 : ¬ blC b N j 1 := fun z => nm_9.mp h40 (blC_1.mpr z)
                 have e : ff (blC b N j) 2 1 = 1 := ff_n c1
                 have q4 : tokS M25 b N (ps b N j 1) := by rw [(nm_n (nm_9.mp h40)).2] at q4; exact q4
                 have fb := fS.b hf1 (((q1.tr q3).f (fr := d)).p hf1 (k := 4) (v := nmV b N (ps b N j 1) 0 2))
                 rw [zcF (fun z => absurd z.2 (by rw [e]; decide)), if_pos h4, e]
                 exact ⟨rfl, fb.1, tok_w q4 hf1, fun k k1 => by rw [xI_wI, if_neg (fun z => k1 z.2), q3.2.1 d hf1, q1.2.1 d hf1]; exact k0 k, fun z => absurd z.2 (by decide)⟩)) (by first | rfl | exact hn25.trans hn15 | exact hn44.trans (hn25.trans hn15))
    · have o1 := Classical.byContradiction (fun z => h40 (nm_9.mpr z))
      have c1 : blC b N j 1 := blC_1.mp o1
      have q4 : tokS M25 b N (ps b N j 2) := by rw [(nm_y o1).2] at q4; exact q4
      have f1 := ((q1.tr q3).f (fr := d)).p hf1 (k := 4) (v := nmV b N (ps b N j 1) 0 2)
      refine px_aload_n dX3_readBleed_43 rfl rfl ?_
      refine px_gV0 dX3_readBleed_44 kX3_readBleed_84 (xol rfl) hM (Nat.le_of_ble_eq_true rfl) (c_X3_takeStop (f1.r hf2 (rdr_7 hr)) (tok_w q4 hf1)) (fun r44 M44 hq44 hn44 => ?_)
      obtain ⟨rfl, q5, q6⟩ := hq44
      have hM : xNT ≤ xN M44 := by rw [hn44]; exact hM
      have hW : xWire M44.2.1 := by rw [q5.1]; exact hW
      have hdr : M44.2.1 10 0 = d := by rw [q5.1]; exact hdr
      refine px_zif_eq 54 dX3_readBleed_47 rfl (fun h47 => ?_) (fun h47 => ?_)
      · refine px_iconst dX3_readBleed_54 ic_0 ?_
        exact px_zret dX3_readBleed_55 rfl (by first | rfl | exact zb_nar) (by
              have k0 : ∀ k, (wI M 10 7 1).1 d k = M.1 d k := fun k => by rw [xI_wI, if_neg (fun z => hf1 z.1)]
              first
                | (have c2 : blC b N j 2 := blC_2.mp h47
                   have e : ff (blC b N j) 2 1 = 3 := by rw [ff_y c1, ff_y c2]; rfl
                   have q6 : tokS M44 b N (ps b N j 3) := by rw [if_pos h47] at q6; exact q6
                   have fb := fS.b hf1 (f1.tr q5.f)
                   rw [zcT ⟨h4, e⟩, if_pos h4, e]
                   refine ⟨rfl, fb.1, q6, fun k k1 => by rw [q5.2.1 d hf1, xI_wI, if_neg (fun z => k1 z.2), q3.2.1 d hf1, q1.2.1 d hf1]; exact k0 k, fun _ => ⟨?_, fb.2⟩⟩
                   rw [q5.2.1 d hf1, wI_self]; exact (nm_y o1).1)
                | (have c2 : ¬ blC b N j 2 := fun z => h47 (blC_2.mpr z)
                   have e : ff (blC b N j) 2 1 = 2 := by rw [ff_y c1, ff_n c2]
                   have q6 : tokS M44 b N (ps b N j 2) := by rw [if_neg h47] at q6; exact q6
                   have fb := fS.b hf1 (f1.tr q5.f)
                   rw [zcF (fun z => absurd z.2 (by rw [e]; decide)), if_pos h4, e]
                   exact ⟨rfl, fb.1, q6, fun k k1 => by rw [q5.2.1 d hf1, xI_wI, if_neg (fun z => k1 z.2), q3.2.1 d hf1, q1.2.1 d hf1]; exact k0 k, fun z => absurd z.2 (by decide)⟩)
                | (have c1 : ¬ blC b N j 1 := fun z => nm_9.mp h40 (blC_1.mpr z)
                   have e : ff (blC b N j) 2 1 = 1 := ff_n c1
                   have q4 : tokS M25 b N (ps b N j 1) := by rw [(nm_n (nm_9.mp h40)).2] at q4; exact q4
                   have fb := fS.b hf1 (((q1.tr q3).f (fr := d)).p hf1 (k := 4) (v := nmV b N (ps b N j 1) 0 2))
                   rw [zcF (fun z => absurd z.2 (by rw [e]; decide)), if_pos h4, e]
                   exact ⟨rfl, fb.1, tok_w q4 hf1, fun k k1 => by rw [xI_wI, if_neg (fun z => k1 z.2), q3.2.1 d hf1, q1.2.1 d hf1]; exact k0 k, fun z => absurd z.2 (by decide)⟩)) (by first | rfl | exact hn25.trans hn15 | exact hn44.trans (hn25.trans hn15))
      · refine px_iconst dX3_readBleed_50 ic_1 ?_
        refine px_goto 55 dX3_readBleed_51 rfl ?_
        exact px_zret dX3_readBleed_55 rfl (by first | rfl | exact zb_nar) (by
              have k0 : ∀ k, (wI M 10 7 1).1 d k = M.1 d k := fun k => by rw [xI_wI, if_neg (fun z => hf1 z.1)]
              first
                | (have c2 : blC b N j 2 := blC_2.mp h47
                   have e : ff (blC b N j) 2 1 = 3 := by rw [ff_y c1, ff_y c2]; rfl
                   have q6 : tokS M44 b N (ps b N j 3) := by rw [if_pos h47] at q6; exact q6
                   have fb := fS.b hf1 (f1.tr q5.f)
                   rw [zcT ⟨h4, e⟩, if_pos h4, e]
                   refine ⟨rfl, fb.1, q6, fun k k1 => by rw [q5.2.1 d hf1, xI_wI, if_neg (fun z => k1 z.2), q3.2.1 d hf1, q1.2.1 d hf1]; exact k0 k, fun _ => ⟨?_, fb.2⟩⟩
                   rw [q5.2.1 d hf1, wI_self]; exact (nm_y o1).1)
                | (have c2 : ¬ blC b N j 2 := fun z => h47 (blC_2.mpr z)
                   have e : ff (blC b N j) 2 1 = 2 := by rw [ff_y c1, ff_n c2]
                   have q6 : tokS M44 b N (ps b N j 2) := by rw [if_neg h47] at q6; exact q6
                   have fb := fS.b hf1 (f1.tr q5.f)
                   rw [zcF (fun z => absurd z.2 (by rw [e]; decide)), if_pos h4, e]
                   exact ⟨rfl, fb.1, q6, fun k k1 => by rw [q5.2.1 d hf1, xI_wI, if_neg (fun z => k1 z.2), q3.2.1 d hf1, q1.2.1 d hf1]; exact k0 k, fun z => absurd z.2 (by decide)⟩)
                | (have c1 : ¬ blC b N j 1 := fun z => nm_9.mp h40 (blC_1.mpr z)
                   have e : ff (blC b N j) 2 1 = 1 := ff_n c1
                   have q4 : tokS M25 b N (ps b N j 1) := by rw [(nm_n (nm_9.mp h40)).2] at q4; exact q4
                   have fb := fS.b hf1 (((q1.tr q3).f (fr := d)).p hf1 (k := 4) (v := nmV b N (ps b N j 1) 0 2))
                   rw [zcF (fun z => absurd z.2 (by rw [e]; decide)), if_pos h4, e]
                   exact ⟨rfl, fb.1, tok_w q4 hf1, fun k k1 => by rw [xI_wI, if_neg (fun z => k1 z.2), q3.2.1 d hf1, q1.2.1 d hf1]; exact k0 k, fun z => absurd z.2 (by decide)⟩)) (by first | rfl | exact hn25.trans hn15 | exact hn44.trans (hn25.trans hn15))
  · refine px_iconst dX3_readBleed_7 ic_0 ?_
    exact px_zret dX3_readBleed_8 rfl (by first | rfl | exact zb_nar) (by rw [zcF (fun z => h4 z.1), if_neg h4]; exact ⟨rfl, ⟨rfl, fun _ _ _ => rfl, fun _ _ => rfl⟩, ht, fun _ _ => rfl, fun z => absurd z.1 h4⟩) (by first | rfl | exact hn25.trans hn15 | exact hn44.trans (hn25.trans hn15))

set_option maxRecDepth 100000 in
theorem l_stl107 {E : xE} {M : xMem} {fr : Nat} {B : Int32} (hfr : xob fr 0) (hM : xNT ≤ xN M) : PR E mX0_settle (xN M) 107 [some (.ref fr), some (.int B), some (.int (zb (¬ M.1 fr 0 = 3)))] [] (wI (wI (wI (wI M fr 7 (if M.1 fr 0 = 2 then B + 1 else B)) fr 8 (if ¬ M.1 fr 0 = 3 then M.1 fr 1 - M.1 fr 3 - M.1 fr 5 else M.1 fr 1)) fr 9 (if ¬ M.1 fr 0 = 3 then M.1 fr 2 - M.1 fr 4 - M.1 fr 6 else M.1 fr 2)) fr 10 (if ¬ M.1 fr 0 = 3 then M.1 fr 3 else 0)) (fun r m => r = none ∧ m = (wI (wI (wI (wI (wI M fr 7 (if M.1 fr 0 = 2 then B + 1 else B)) fr 8 (if ¬ M.1 fr 0 = 3 then M.1 fr 1 - M.1 fr 3 - M.1 fr 5 else M.1 fr 1)) fr 9 (if ¬ M.1 fr 0 = 3 then M.1 fr 2 - M.1 fr 4 - M.1 fr 6 else M.1 fr 2)) fr 10 (if ¬ M.1 fr 0 = 3 then M.1 fr 3 else 0)) fr 11 (if ¬ M.1 fr 0 = 3 then M.1 fr 4 else 0))) := by
  refine px_aload_n dX0_settle_107 rfl rfl ?_
  refine px_iload_n dX0_settle_108 rfl rfl ?_
  refine px_zif_eq 119 dX0_settle_109 rfl (fun h109 => ?_) (fun h109 => ?_)
  · refine px_iconst dX0_settle_119 ic_0 ?_
    refine px_top (y := (if ¬ M.1 fr 0 = 3 then M.1 fr 4 else 0)) (by first | exact (if_pos h109).symm | exact (if_neg h109).symm | (rw [xI_wI, if_neg (fun z => absurd z.2 (by decide)), xI_wI, if_neg (fun z => absurd z.2 (by decide)), xI_wI, if_neg (fun z => absurd z.2 (by decide)), xI_wI, if_neg (fun z => absurd z.2 (by decide))]; exact (if_neg h109).symm)) ?_
    refine px_putI dX0_settle_120 fX0_45 p0_11 hfr hM rfl ?_
    exact px_ret dX0_settle_123 rfl ⟨rfl, rfl⟩ (rfl)
  · refine px_aload_n dX0_settle_112 rfl rfl ?_
    refine px_getI dX0_settle_113 fX0_33 hfr hM rfl ?_
    refine px_top (y := M.1 fr 4) (by rw [xI_wI, if_neg (fun z => absurd z.2 (by decide)), xI_wI, if_neg (fun z => absurd z.2 (by decide)), xI_wI, if_neg (fun z => absurd z.2 (by decide)), xI_wI, if_neg (fun z => absurd z.2 (by decide))]) ?_
    refine px_goto 120 dX0_settle_116 rfl ?_
    refine px_top (y := (if ¬ M.1 fr 0 = 3 then M.1 fr 4 else 0)) (by first | exact (if_pos h109).symm | exact (if_neg h109).symm | (rw [xI_wI, if_neg (fun z => absurd z.2 (by decide)), xI_wI, if_neg (fun z => absurd z.2 (by decide)), xI_wI, if_neg (fun z => absurd z.2 (by decide)), xI_wI, if_neg (fun z => absurd z.2 (by decide))]; exact (if_neg h109).symm)) ?_
    refine px_putI dX0_settle_120 fX0_45 p0_11 hfr hM rfl ?_
    exact px_ret dX0_settle_123 rfl ⟨rfl, rfl⟩ (rfl)

set_option maxRecDepth 100000 in
theorem l_stl91 {E : xE} {M : xMem} {fr : Nat} {B : Int32} (hfr : xob fr 0) (hM : xNT ≤ xN M) : PR E mX0_settle (xN M) 91 [some (.ref fr), some (.int B), some (.int (zb (¬ M.1 fr 0 = 3)))] [] (wI (wI (wI M fr 7 (if M.1 fr 0 = 2 then B + 1 else B)) fr 8 (if ¬ M.1 fr 0 = 3 then M.1 fr 1 - M.1 fr 3 - M.1 fr 5 else M.1 fr 1)) fr 9 (if ¬ M.1 fr 0 = 3 then M.1 fr 2 - M.1 fr 4 - M.1 fr 6 else M.1 fr 2)) (fun r m => r = none ∧ m = (wI (wI (wI (wI (wI M fr 7 (if M.1 fr 0 = 2 then B + 1 else B)) fr 8 (if ¬ M.1 fr 0 = 3 then M.1 fr 1 - M.1 fr 3 - M.1 fr 5 else M.1 fr 1)) fr 9 (if ¬ M.1 fr 0 = 3 then M.1 fr 2 - M.1 fr 4 - M.1 fr 6 else M.1 fr 2)) fr 10 (if ¬ M.1 fr 0 = 3 then M.1 fr 3 else 0)) fr 11 (if ¬ M.1 fr 0 = 3 then M.1 fr 4 else 0))) := by
  refine px_aload_n dX0_settle_91 rfl rfl ?_
  refine px_iload_n dX0_settle_92 rfl rfl ?_
  refine px_zif_eq 103 dX0_settle_93 rfl (fun h93 => ?_) (fun h93 => ?_)
  · refine px_iconst dX0_settle_103 ic_0 ?_
    refine px_top (y := (if ¬ M.1 fr 0 = 3 then M.1 fr 3 else 0)) (by first | exact (if_pos h93).symm | exact (if_neg h93).symm | (rw [xI_wI, if_neg (fun z => absurd z.2 (by decide)), xI_wI, if_neg (fun z => absurd z.2 (by decide)), xI_wI, if_neg (fun z => absurd z.2 (by decide))]; exact (if_neg h93).symm)) ?_
    refine px_putI dX0_settle_104 fX0_42 p0_10 hfr hM rfl ?_
    exact l_stl107 hfr hM
  · refine px_aload_n dX0_settle_96 rfl rfl ?_
    refine px_getI dX0_settle_97 fX0_21 hfr hM rfl ?_
    refine px_top (y := M.1 fr 3) (by rw [xI_wI, if_neg (fun z => absurd z.2 (by decide)), xI_wI, if_neg (fun z => absurd z.2 (by decide)), xI_wI, if_neg (fun z => absurd z.2 (by decide))]) ?_
    refine px_goto 104 dX0_settle_100 rfl ?_
    refine px_top (y := (if ¬ M.1 fr 0 = 3 then M.1 fr 3 else 0)) (by first | exact (if_pos h93).symm | exact (if_neg h93).symm | (rw [xI_wI, if_neg (fun z => absurd z.2 (by decide)), xI_wI, if_neg (fun z => absurd z.2 (by decide)), xI_wI, if_neg (fun z => absurd z.2 (by decide))]; exact (if_neg h93).symm)) ?_
    refine px_putI dX0_settle_104 fX0_42 p0_10 hfr hM rfl ?_
    exact l_stl107 hfr hM

set_option maxRecDepth 100000 in
theorem l_stl62 {E : xE} {M : xMem} {fr : Nat} {B : Int32} (hfr : xob fr 0) (hM : xNT ≤ xN M) : PR E mX0_settle (xN M) 62 [some (.ref fr), some (.int B), some (.int (zb (¬ M.1 fr 0 = 3)))] [] (wI (wI M fr 7 (if M.1 fr 0 = 2 then B + 1 else B)) fr 8 (if ¬ M.1 fr 0 = 3 then M.1 fr 1 - M.1 fr 3 - M.1 fr 5 else M.1 fr 1)) (fun r m => r = none ∧ m = (wI (wI (wI (wI (wI M fr 7 (if M.1 fr 0 = 2 then B + 1 else B)) fr 8 (if ¬ M.1 fr 0 = 3 then M.1 fr 1 - M.1 fr 3 - M.1 fr 5 else M.1 fr 1)) fr 9 (if ¬ M.1 fr 0 = 3 then M.1 fr 2 - M.1 fr 4 - M.1 fr 6 else M.1 fr 2)) fr 10 (if ¬ M.1 fr 0 = 3 then M.1 fr 3 else 0)) fr 11 (if ¬ M.1 fr 0 = 3 then M.1 fr 4 else 0))) := by
  refine px_aload_n dX0_settle_62 rfl rfl ?_
  refine px_iload_n dX0_settle_63 rfl rfl ?_
  refine px_zif_eq 84 dX0_settle_64 rfl (fun h64 => ?_) (fun h64 => ?_)
  · refine px_aload_n dX0_settle_84 rfl rfl ?_
    refine px_getI dX0_settle_85 fX0_30 hfr hM rfl ?_
    refine px_top (y := (if ¬ M.1 fr 0 = 3 then M.1 fr 2 - M.1 fr 4 - M.1 fr 6 else M.1 fr 2)) (by first | exact (if_pos h64).symm | exact (if_neg h64).symm | (rw [xI_wI, if_neg (fun z => absurd z.2 (by decide)), xI_wI, if_neg (fun z => absurd z.2 (by decide))]; exact (if_neg h64).symm)) ?_
    refine px_putI dX0_settle_88 fX0_39 p0_9 hfr hM rfl ?_
    exact l_stl91 hfr hM
  · refine px_aload_n dX0_settle_67 rfl rfl ?_
    refine px_getI dX0_settle_68 fX0_30 hfr hM rfl ?_
    refine px_top (y := M.1 fr 2) (by rw [xI_wI, if_neg (fun z => absurd z.2 (by decide)), xI_wI, if_neg (fun z => absurd z.2 (by decide))]) ?_
    refine px_aload_n dX0_settle_71 rfl rfl ?_
    refine px_getI dX0_settle_72 fX0_33 hfr hM rfl ?_
    refine px_top (y := M.1 fr 4) (by rw [xI_wI, if_neg (fun z => absurd z.2 (by decide)), xI_wI, if_neg (fun z => absurd z.2 (by decide))]) ?_
    refine px_isub dX0_settle_75 ?_
    refine px_aload_n dX0_settle_76 rfl rfl ?_
    refine px_getI dX0_settle_77 fX0_36 hfr hM rfl ?_
    refine px_top (y := M.1 fr 6) (by rw [xI_wI, if_neg (fun z => absurd z.2 (by decide)), xI_wI, if_neg (fun z => absurd z.2 (by decide))]) ?_
    refine px_isub dX0_settle_80 ?_
    refine px_goto 88 dX0_settle_81 rfl ?_
    refine px_top (y := (if ¬ M.1 fr 0 = 3 then M.1 fr 2 - M.1 fr 4 - M.1 fr 6 else M.1 fr 2)) (by first | exact (if_pos h64).symm | exact (if_neg h64).symm | (rw [xI_wI, if_neg (fun z => absurd z.2 (by decide)), xI_wI, if_neg (fun z => absurd z.2 (by decide))]; exact (if_neg h64).symm)) ?_
    refine px_putI dX0_settle_88 fX0_39 p0_9 hfr hM rfl ?_
    exact l_stl91 hfr hM

set_option maxRecDepth 100000 in
theorem l_stl33 {E : xE} {M : xMem} {fr : Nat} {B : Int32} (hfr : xob fr 0) (hM : xNT ≤ xN M) : PR E mX0_settle (xN M) 33 [some (.ref fr), some (.int B), some (.int (zb (¬ M.1 fr 0 = 3)))] [] (wI M fr 7 (if M.1 fr 0 = 2 then B + 1 else B)) (fun r m => r = none ∧ m = (wI (wI (wI (wI (wI M fr 7 (if M.1 fr 0 = 2 then B + 1 else B)) fr 8 (if ¬ M.1 fr 0 = 3 then M.1 fr 1 - M.1 fr 3 - M.1 fr 5 else M.1 fr 1)) fr 9 (if ¬ M.1 fr 0 = 3 then M.1 fr 2 - M.1 fr 4 - M.1 fr 6 else M.1 fr 2)) fr 10 (if ¬ M.1 fr 0 = 3 then M.1 fr 3 else 0)) fr 11 (if ¬ M.1 fr 0 = 3 then M.1 fr 4 else 0))) := by
  refine px_aload_n dX0_settle_33 rfl rfl ?_
  refine px_iload_n dX0_settle_34 rfl rfl ?_
  refine px_zif_eq 55 dX0_settle_35 rfl (fun h35 => ?_) (fun h35 => ?_)
  · refine px_aload_n dX0_settle_55 rfl rfl ?_
    refine px_getI dX0_settle_56 fX0_18 hfr hM rfl ?_
    refine px_top (y := (if ¬ M.1 fr 0 = 3 then M.1 fr 1 - M.1 fr 3 - M.1 fr 5 else M.1 fr 1)) (by first | exact (if_pos h35).symm | exact (if_neg h35).symm | (rw [xI_wI, if_neg (fun z => absurd z.2 (by decide))]; exact (if_neg h35).symm)) ?_
    refine px_putI dX0_settle_59 fX0_27 p0_8 hfr hM rfl ?_
    exact l_stl62 hfr hM
  · refine px_aload_n dX0_settle_38 rfl rfl ?_
    refine px_getI dX0_settle_39 fX0_18 hfr hM rfl ?_
    refine px_top (y := M.1 fr 1) (by rw [xI_wI, if_neg (fun z => absurd z.2 (by decide))]) ?_
    refine px_aload_n dX0_settle_42 rfl rfl ?_
    refine px_getI dX0_settle_43 fX0_21 hfr hM rfl ?_
    refine px_top (y := M.1 fr 3) (by rw [xI_wI, if_neg (fun z => absurd z.2 (by decide))]) ?_
    refine px_isub dX0_settle_46 ?_
    refine px_aload_n dX0_settle_47 rfl rfl ?_
    refine px_getI dX0_settle_48 fX0_24 hfr hM rfl ?_
    refine px_top (y := M.1 fr 5) (by rw [xI_wI, if_neg (fun z => absurd z.2 (by decide))]) ?_
    refine px_isub dX0_settle_51 ?_
    refine px_goto 59 dX0_settle_52 rfl ?_
    refine px_top (y := (if ¬ M.1 fr 0 = 3 then M.1 fr 1 - M.1 fr 3 - M.1 fr 5 else M.1 fr 1)) (by first | exact (if_pos h35).symm | exact (if_neg h35).symm | (rw [xI_wI, if_neg (fun z => absurd z.2 (by decide))]; exact (if_neg h35).symm)) ?_
    refine px_putI dX0_settle_59 fX0_27 p0_8 hfr hM rfl ?_
    exact l_stl62 hfr hM

set_option maxRecDepth 100000 in
theorem l_stl14 {E : xE} {M : xMem} {fr : Nat} {B : Int32} (hfr : xob fr 0) (hM : xNT ≤ xN M) : PR E mX0_settle (xN M) 14 [some (.ref fr), some (.int B), some (.int (zb (¬ M.1 fr 0 = 3)))] [] M (fun r m => r = none ∧ m = (wI (wI (wI (wI (wI M fr 7 (if M.1 fr 0 = 2 then B + 1 else B)) fr 8 (if ¬ M.1 fr 0 = 3 then M.1 fr 1 - M.1 fr 3 - M.1 fr 5 else M.1 fr 1)) fr 9 (if ¬ M.1 fr 0 = 3 then M.1 fr 2 - M.1 fr 4 - M.1 fr 6 else M.1 fr 2)) fr 10 (if ¬ M.1 fr 0 = 3 then M.1 fr 3 else 0)) fr 11 (if ¬ M.1 fr 0 = 3 then M.1 fr 4 else 0))) := by
  refine px_aload_n dX0_settle_14 rfl rfl ?_
  refine px_aload_n dX0_settle_15 rfl rfl ?_
  refine px_getI dX0_settle_16 fX0_9 hfr hM rfl ?_
  refine px_top (y := M.1 fr 0) (by rfl) ?_
  refine px_iconst dX0_settle_19 ic_2 ?_
  refine px_icmp_ne 29 dX0_settle_20 rfl (fun h20 => ?_) (fun h20 => ?_)
  · refine px_iload_n dX0_settle_29 rfl rfl ?_
    refine px_top (y := (if M.1 fr 0 = 2 then B + 1 else B)) (by first | exact (if_pos h20).symm | exact (if_neg h20).symm) ?_
    refine px_putI dX0_settle_30 fX0_15 p0_7 hfr hM rfl ?_
    exact l_stl33 hfr hM
  · refine px_iload_n dX0_settle_23 rfl rfl ?_
    refine px_iconst dX0_settle_24 ic_1 ?_
    refine px_iadd dX0_settle_25 ?_
    refine px_goto 30 dX0_settle_26 rfl ?_
    refine px_top (y := (if M.1 fr 0 = 2 then B + 1 else B)) (by first | exact (if_pos h20).symm | exact (if_neg h20).symm) ?_
    refine px_putI dX0_settle_30 fX0_15 p0_7 hfr hM rfl ?_
    exact l_stl33 hfr hM

def stlM (M : xMem) (fr : Nat) (B : Int32) : xMem := (wI (wI (wI (wI (wI M fr 7 (if M.1 fr 0 = 2 then B + 1 else B)) fr 8 (if ¬ M.1 fr 0 = 3 then M.1 fr 1 - M.1 fr 3 - M.1 fr 5 else M.1 fr 1)) fr 9 (if ¬ M.1 fr 0 = 3 then M.1 fr 2 - M.1 fr 4 - M.1 fr 6 else M.1 fr 2)) fr 10 (if ¬ M.1 fr 0 = 3 then M.1 fr 3 else 0)) fr 11 (if ¬ M.1 fr 0 = 3 then M.1 fr 4 else 0))

set_option maxRecDepth 100000 in
theorem c_X0_settle {E : xE} {M : xMem} {fr : Nat} {B : Int32} (hfr : xob fr 0) (hM : xNT ≤ xN M) : Cf E mX0_settle [.ref fr, .int B] M none (stlM M fr B) := by
  refine Ct.of (lo := [some (.ref fr), some (.int B), none]) pln_X0 (Nat.le_of_ble_eq_true rfl) rfl (Nat.le_refl _) ?_
  refine px_aload_n dX0_settle_0 rfl rfl ?_
  refine px_getI dX0_settle_1 fX0_9 hfr hM rfl ?_
  refine px_iconst dX0_settle_4 ic_3 ?_
  refine px_icmp_eq 12 dX0_settle_5 rfl (fun h5 => ?_) (fun h5 => ?_)
  · refine px_iconst dX0_settle_12 ic_0 ?_
    refine px_top (y := zb (¬ M.1 fr 0 = 3)) (by first | exact (zb_t h5).symm | exact (zb_f (fun z => z h5)).symm) ?_
    refine px_si_2 dX0_settle_13 rfl ?_
    exact l_stl14 hfr hM
  · refine px_iconst dX0_settle_8 ic_1 ?_
    refine px_goto 13 dX0_settle_9 rfl ?_
    refine px_top (y := zb (¬ M.1 fr 0 = 3)) (by first | exact (zb_t h5).symm | exact (zb_f (fun z => z h5)).symm) ?_
    refine px_si_2 dX0_settle_13 rfl ?_
    exact l_stl14 hfr hM
