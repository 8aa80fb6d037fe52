/-! ===== statements of the reference ===== -/
def mpS (M m : xMem) : Prop := m.2 = M.2 ∧ (∀ a, a ≠ 74 → a ≠ 82 → m.1 a = M.1 a) ∧ ∀ k, (k < 13 ∨ 21 < k) → m.1 74 k = M.1 74 k
theorem mpS.rf (M : xMem) : mpS M M := ⟨rfl, fun _ _ _ => rfl, fun _ _ => rfl⟩
theorem mpS.tr {M M1 M2 : xMem} (h : mpS M M1) (h' : mpS M1 M2) : mpS M M2 := ⟨h'.1.trans h.1, fun a a1 a2 => (h'.2.1 a a1 a2).trans (h.2.1 a a1 a2), fun k k1 => (h'.2.2 k k1).trans (h.2.2 k k1)⟩
theorem mnS.q {M m : xMem} (h : mnS M m) : mpS M m := ⟨h.1, fun a a1 _ => h.2.1 a a1, fun k k1 => h.2.2 k (by omega)⟩
theorem mpS.p {M m : xMem} (h : mpS M m) {k : Nat} {v : Int32} (hk : 13 ≤ k ∧ k ≤ 21) : mpS M (wI m 74 k v) := ⟨h.1, fun a a1 a2 => by funext i; rw [xI_wI, if_neg (fun z => a1 z.1), h.2.1 a a1 a2], fun i i1 => by rw [xI_wI, if_neg (fun z => by omega), h.2.2 i i1]⟩
theorem mpS.g {M m : xMem} (h : mpS M m) {k : Nat} {v : Int32} : mpS M (wI m 82 k v) := ⟨h.1, fun a a1 a2 => by funext i; rw [xI_wI, if_neg (fun z => a2 z.1), h.2.1 a a1 a2], fun i i1 => by rw [xI_wI, if_neg (fun z => by omega), h.2.2 i i1]⟩
theorem mpS.r {M m : xMem} {t N : Nat} {b : Nat → Int32} (h : mpS M m) (hr : mrd M t N b) : mrd m t N b := by
  obtain ⟨h1, h2, h3, h4, h5, h6⟩ := hr
  exact ⟨by show xNT ≤ m.2.2.2; rw [h.1]; exact h1, by rw [h.1]; exact h2, h3, by rw [h.2.1 79 (by decide) (by decide)]; exact h4, h5, fun i hi => by rw [h.2.1 80 (by decide) (by decide)]; exact h6 i hi⟩

set_option maxRecDepth 100000 in
theorem c_X11_readsPage {E : xE} {M : xMem} {t N p : Nat} {b : Nat → Int32} (hr : mrd M t N b) (hp : p ≤ N) (hra : M.1 74 13 = nI (ps b N p 1)) : Ct E mX11_readsPage [.ref 74, .int (nI t)] M (xN M) (fun r m => r = some (.int (zc (ff (pgC b N p) 3 1 = 4))) ∧ mpS M m ∧ (ff (pgC b N p) 3 1 = 4 → m.1 74 13 = nI (ps b N p 4) ∧ m.1 74 18 = nI (vv b N p 1) ∧ m.1 74 19 = nI (vv b N p 2)) ∧ (¬ ff (pgC b N p) 3 1 = 4 → m.1 74 17 = nI (tF b N (ps b N p (ff (pgC b N p) 3 1)))) ∧ (∀ k, 19 < k → m.1 74 k = M.1 74 k) ∧ m.1 82 = M.1 82) := by
  have hM := hr.1
  have hW := hr.2.1
  have hl := fun k => ps_le (b := b) hp k
  refine Ct.of (lo := [some (.ref 74), some (.int (nI t))]) pln_X11 (Nat.le_of_ble_eq_true rfl) rfl (Nat.le_refl _) ?_
  refine px_aload_n dX11_readsPage_0 rfl rfl ?_
  refine px_iload_n dX11_readsPage_1 rfl rfl ?_
  refine px_iconst dX11_readsPage_2 ic_4 ?_
  refine px_bipush dX11_readsPage_3 bp_16 ?_
  refine px_gV3 dX11_readsPage_5 kX11_readsPage_132 (xol rfl) hM (Nat.le_of_ble_eq_true rfl) (c_X11_number hr (hl 1) hra) (fun r5 M5 hq5 hn5 => ?_)
  obtain ⟨rfl, q1, q2, q3⟩ := hq5
  have hM : xNT ≤ xN M5 := by rw [hn5]; exact hM
  have hW : xWire M5.2.1 := by rw [q1.1]; exact hW
  refine px_cif_ne 13 dX11_readsPage_8 rfl (fun h8 => ?_) (fun h8 => ?_)
  · have c1 := pgC_1.mp h8
    refine px_aload_n dX11_readsPage_13 rfl rfl ?_
    refine px_aload_n dX11_readsPage_14 rfl rfl ?_
    refine px_getI dX11_readsPage_15 fX11_119 (xol rfl) hM rfl ?_
    refine px_top (y := nI (vv b N p 1)) (q2.2.2.2 h8.1) ?_
    refine px_putI dX11_readsPage_18 fX11_135 p11_18 (xol rfl) hM rfl ?_
    refine px_aload_n dX11_readsPage_21 rfl rfl ?_
    refine px_iload_n dX11_readsPage_22 rfl rfl ?_
    refine px_iconst dX11_readsPage_23 ic_4 ?_
    refine px_bipush dX11_readsPage_24 bp_16 ?_
    refine px_gV3 dX11_readsPage_26 kX11_readsPage_132 (xol rfl) hM (Nat.le_of_ble_eq_true rfl) (c_X11_number (j := ps b N p 2) ((q1.q.p (by omega)).r hr) (hl 2) (by rw [xI_wI, if_neg (fun z => by omega)]; exact q2.1)) (fun r26 M26 hq26 hn26 => ?_)
    obtain ⟨rfl, q4, q5, q6⟩ := hq26
    have hM : xNT ≤ xN M26 := by rw [hn26]; exact hM
    have hW : xWire M26.2.1 := by rw [q4.1]; exact hW
    refine px_cif_ne 34 dX11_readsPage_29 rfl (fun h29 => ?_) (fun h29 => ?_)
    · have c2 := pgC_2.mp h29
      refine px_aload_n dX11_readsPage_34 rfl rfl ?_
      refine px_aload_n dX11_readsPage_35 rfl rfl ?_
      refine px_getI dX11_readsPage_36 fX11_119 (xol rfl) hM rfl ?_
      refine px_top (y := nI (vv b N p 2)) (q5.2.2.2 h29.1) ?_
      refine px_putI dX11_readsPage_39 fX11_138 p11_19 (xol rfl) hM rfl ?_
      refine px_aload_n dX11_readsPage_42 rfl rfl ?_
      refine px_iload_n dX11_readsPage_43 rfl rfl ?_
      refine px_gV1 dX11_readsPage_44 kX11_readsPage_141 (xol rfl) hM (Nat.le_of_ble_eq_true rfl) (c_X11_ends (j := ps b N p 3) ((((q1.q.p (by omega)).tr q4.q).p (by omega)).r hr) (hl 3) (by rw [xI_wI, if_neg (fun z => by omega)]; exact q5.1)) (fun r44 M44 hq44 hn44 => ?_)
      obtain ⟨rfl, q7, q8, q9⟩ := hq44
      exact px_zret dX11_readsPage_47 rfl (by first | rfl | exact zb_nar | exact zc_nar) (by
            have hiff : tK b N (ps b N p 3) = 3 ↔ ff (pgC b N p) 3 1 = 4 := by
              rw [ff_y c1, ff_y c2]
              constructor
              · intro z; rw [ff_y (pgC_3.mp z)]; rfl
              · intro z
                refine Classical.byContradiction (fun y => ?_)
                rw [ff_n (fun w => y (pgC_3.mpr w))] at z
                omega
            rw [← zc_c hiff]
            refine ⟨rfl, (((q1.q.p (by omega)).tr q4.q).p (by omega)).tr q7.q, fun z => ⟨q8.1, by rw [q7.2.2 18 (by omega), xI_wI, if_neg (fun z => by omega), q4.2.2 18 (by omega), wI_self], by rw [q7.2.2 19 (by omega), wI_self]⟩, fun z => ?_, fun k k1 => by rw [q7.2.2 k (by omega), xI_wI, if_neg (fun z => by omega), q4.2.2 k (by omega), xI_wI, if_neg (fun z => by omega), q1.2.2 k (by omega)], by rw [q7.2.1 82 (by decide)]; exact (q4.2.1 82 (by decide)).trans (q1.2.1 82 (by decide))⟩
            have h3 : ¬ tK b N (ps b N p 3) = 3 := fun y => z (hiff.mp y)
            rw [show ff (pgC b N p) 3 1 = 3 from by rw [ff_y c1, ff_y c2, ff_n (fun w => h3 (pgC_3.mpr w))]]
            exact q9 h3) (by first | exact hn5 | exact hn26.trans hn5 | exact hn44.trans (hn26.trans hn5))
    · have c2 : ¬ pgC b N p 2 := fun z => h29 (pgC_2.mpr z)
      have e : ff (pgC b N p) 3 1 = 2 := by rw [ff_y c1, ff_n c2]
      refine px_iconst dX11_readsPage_32 ic_0 ?_
      exact px_zret dX11_readsPage_33 rfl (by first | rfl | exact zb_nar | exact zc_nar) (by rw [e, zcF (by decide)]; exact ⟨rfl, (q1.q.p (by omega)).tr q4.q, fun z => absurd z (by decide), fun _ => q6 h29, fun k k1 => by rw [q4.2.2 k (by omega), xI_wI, if_neg (fun z => by omega), q1.2.2 k (by omega)], by rw [q4.2.1 82 (by decide)]; exact q1.2.1 82 (by decide)⟩) (by first | exact hn5 | exact hn26.trans hn5 | exact hn44.trans (hn26.trans hn5))
  · have c1 : ¬ pgC b N p 1 := fun z => h8 (pgC_1.mpr z)
    have e : ff (pgC b N p) 3 1 = 1 := ff_n c1
    refine px_iconst dX11_readsPage_11 ic_0 ?_
    exact px_zret dX11_readsPage_12 rfl (by first | rfl | exact zb_nar | exact zc_nar) (by rw [e, zcF (by decide)]; exact ⟨rfl, q1.q, fun z => absurd z (by decide), fun _ => q3 h8, fun k k1 => q1.2.2 k (by omega), q1.2.1 82 (by decide)⟩) (by first | exact hn5 | exact hn26.trans hn5 | exact hn44.trans (hn26.trans hn5))

set_option maxRecDepth 100000 in
theorem c_X11_readsBleed {E : xE} {M : xMem} {t N p : Nat} {b : Nat → Int32} (hr : mrd M t N b) (hp : p ≤ N) (hra : M.1 74 13 = nI (ps b N p 1)) (hta : M.1 74 14 = nI (tF b N p)) {so : Option Nat} (h20 : (so = none → M.1 74 20 = -1) ∧ ∀ B, so = some B → M.1 74 20 = nI B ∧ B ≤ 2) : Ct E mX11_readsBleed [.ref 74, .int (nI t)] M (xN M) (fun r m => r = some (.int (zc (so = none ∧ ff (blC b N p) 2 1 = 3))) ∧ mpS M m ∧ (so = none ∧ ff (blC b N p) 2 1 = 3 → m.1 74 13 = nI (ps b N p 3) ∧ m.1 74 20 = nI (vv b N p 1)) ∧ (¬ (so = none ∧ ff (blC b N p) 2 1 = 3) → m.1 74 17 = nI (tF b N (if so = none then ps b N p (ff (blC b N p) 2 1) else p))) ∧ (∀ k, 17 < k → k ≠ 20 → m.1 74 k = M.1 74 k) ∧ m.1 82 = M.1 82) := by
  have hM := hr.1
  have hW := hr.2.1
  have hl := fun k => ps_le (b := b) hp k
  refine Ct.of (lo := [some (.ref 74), some (.int (nI t))]) pln_X11 (Nat.le_of_ble_eq_true rfl) rfl (Nat.le_refl _) ?_
  refine px_aload_n dX11_readsBleed_0 rfl rfl ?_
  refine px_getI dX11_readsBleed_1 fX11_144 (xol rfl) hM rfl ?_
  refine px_if_lt 12 dX11_readsBleed_4 rfl (fun h4 => ?_) (fun h4 => ?_)
  · have hso : so = none := by
      cases z : so with
      | none => rfl
      | some B => rw [(h20.2 B z).1] at h4; exact absurd h4 (nI_pos (by have := (h20.2 B z).2; omega))
    refine px_aload_n dX11_readsBleed_12 rfl rfl ?_
    refine px_iload_n dX11_readsBleed_13 rfl rfl ?_
    refine px_iconst dX11_readsBleed_14 ic_0 ?_
    refine px_iconst dX11_readsBleed_15 ic_2 ?_
    refine px_gV3 dX11_readsBleed_16 kX11_readsBleed_132 (xol rfl) hM (Nat.le_of_ble_eq_true rfl) (c_X11_number hr (hl 1) hra) (fun r16 M16 hq16 hn16 => ?_)
    obtain ⟨rfl, q1, q2, q3⟩ := hq16
    have hM : xNT ≤ xN M16 := by rw [hn16]; exact hM
    have hW : xWire M16.2.1 := by rw [q1.1]; exact hW
    refine px_cif_ne 24 dX11_readsBleed_19 rfl (fun h19 => ?_) (fun h19 => ?_)
    · have c1 := blC_1.mp h19
      refine px_aload_n dX11_readsBleed_24 rfl rfl ?_
      refine px_aload_n dX11_readsBleed_25 rfl rfl ?_
      refine px_getI dX11_readsBleed_26 fX11_119 (xol rfl) hM rfl ?_
      refine px_top (y := nI (vv b N p 1)) (q2.2.2.2 h19.1) ?_
      refine px_putI dX11_readsBleed_29 fX11_144 p11_20 (xol rfl) hM rfl ?_
      refine px_aload_n dX11_readsBleed_32 rfl rfl ?_
      refine px_iload_n dX11_readsBleed_33 rfl rfl ?_
      refine px_gV1 dX11_readsBleed_34 kX11_readsBleed_141 (xol rfl) hM (Nat.le_of_ble_eq_true rfl) (c_X11_ends (j := ps b N p 2) ((q1.q.p (by omega)).r hr) (hl 2) (by rw [xI_wI, if_neg (fun z => by omega)]; exact q2.1)) (fun r34 M34 hq34 hn34 => ?_)
      obtain ⟨rfl, q4, q5, q6⟩ := hq34
      exact px_zret dX11_readsBleed_37 rfl (by first | rfl | exact zb_nar | exact zc_nar) (by
            have hiff : tK b N (ps b N p 2) = 3 ↔ (so = none ∧ ff (blC b N p) 2 1 = 3) := by
              rw [ff_y c1]
              constructor
              · intro z; rw [ff_y (blC_2.mp z)]; exact ⟨hso, rfl⟩
              · rintro ⟨_, z⟩
                refine Classical.byContradiction (fun y => ?_)
                rw [ff_n (fun w => y (blC_2.mpr w))] at z
                omega
            rw [← zc_c hiff]
            refine ⟨rfl, ((q1.q.p (by omega)).tr q4.q), fun z => ⟨q5.1, by rw [q4.2.2 20 (by omega), wI_self]⟩, fun z => ?_, fun k k1 k2 => by rw [q4.2.2 k (by omega), xI_wI, if_neg (fun z => k2 z.2), q1.2.2 k (by omega)], by rw [q4.2.1 82 (by decide)]; exact q1.2.1 82 (by decide)⟩
            have h3 : ¬ tK b N (ps b N p 2) = 3 := fun y => z (hiff.mp y)
            rw [if_pos hso, show ff (blC b N p) 2 1 = 2 from by rw [ff_y c1, ff_n (fun w => h3 (blC_2.mpr w))]]
            exact q6 h3) (by first | rfl | exact hn16 | exact hn34.trans hn16)
    · have c1 : ¬ blC b N p 1 := fun z => h19 (blC_1.mpr z)
      have e : ff (blC b N p) 2 1 = 1 := ff_n c1
      refine px_iconst dX11_readsBleed_22 ic_0 ?_
      exact px_zret dX11_readsBleed_23 rfl (by first | rfl | exact zb_nar | exact zc_nar) (by rw [zcF (fun z => absurd z.2 (by rw [e]; decide))]; exact ⟨rfl, q1.q, fun z => absurd z.2 (by rw [e]; decide), fun _ => by rw [if_pos hso, e]; exact q3 h19, fun k k1 _ => q1.2.2 k (by omega), q1.2.1 82 (by decide)⟩) (by first | rfl | exact hn16 | exact hn34.trans hn16)
  · have hso : ¬ so = none := fun z => h4 (by rw [h20.1 z]; decide)
    refine px_aload_n dX11_readsBleed_7 rfl rfl ?_
    refine px_fV0i dX11_readsBleed_8 kX11_readsBleed_128 (xol rfl) hM (Nat.le_of_ble_eq_true rfl) (c_X11_fails hM) ?_
    exact px_zret dX11_readsBleed_11 rfl (by first | rfl | exact zb_nar | exact zc_nar) (by rw [zcF (fun z => hso z.1)]; exact ⟨rfl, (mpS.rf M).p (by omega), fun z => absurd z.1 hso, fun _ => by rw [if_neg hso]; exact hta, fun k k1 _ => by rw [xI_wI, if_neg (fun z => by omega)], rfl⟩) (by first | rfl | exact hn16 | exact hn34.trans hn16)
