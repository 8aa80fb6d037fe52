/-! ===== readsOne ===== -/
theorem lk_off {w : Nat} (hw : w < 2 ^ 30) : Op.lookupswitch.offset (#[((179753 : Int), (76 : Int)), (247335, 90), (315851, 57), (1302862, 63), (3544025, 69), (37026792, 83)] : Array (Int × Int)).toList 97 (nI w).toInt = if w = 179753 then 76 else if w = 247335 then 90 else if w = 315851 then 57 else if w = 1302862 then 63 else if w = 3544025 then 69 else if w = 37026792 then 83 else 97 := by
  rw [nI_toInt (by omega)]
  show (if (179753 : Int) = (w : Int) then (76 : Int) else if (247335 : Int) = (w : Int) then 90 else if (315851 : Int) = (w : Int) then 57 else if (1302862 : Int) = (w : Int) then 63 else if (3544025 : Int) = (w : Int) then 69 else if (37026792 : Int) = (w : Int) then 83 else 97) = _
  have c1 : ((179753 : Int) = (w : Int)) ↔ w = 179753 := by omega
  have c2 : ((247335 : Int) = (w : Int)) ↔ w = 247335 := by omega
  have c3 : ((315851 : Int) = (w : Int)) ↔ w = 315851 := by omega
  have c4 : ((1302862 : Int) = (w : Int)) ↔ w = 1302862 := by omega
  have c5 : ((3544025 : Int) = (w : Int)) ↔ w = 3544025 := by omega
  have c6 : ((37026792 : Int) = (w : Int)) ↔ w = 37026792 := by omega
  by_cases h1 : w = 179753
  · rw [if_pos h1, if_pos (c1.mpr h1)]
  · rw [if_neg h1, if_neg (fun z => h1 (c1.mp z))]
    by_cases h2 : w = 247335
    · rw [if_pos h2, if_pos (c2.mpr h2)]
    · rw [if_neg h2, if_neg (fun z => h2 (c2.mp z))]
      by_cases h3 : w = 315851
      · rw [if_pos h3, if_pos (c3.mpr h3)]
      · rw [if_neg h3, if_neg (fun z => h3 (c3.mp z))]
        by_cases h4 : w = 1302862
        · rw [if_pos h4, if_pos (c4.mpr h4)]
        · rw [if_neg h4, if_neg (fun z => h4 (c4.mp z))]
          by_cases h5 : w = 3544025
          · rw [if_pos h5, if_pos (c5.mpr h5)]
          · rw [if_neg h5, if_neg (fun z => h5 (c5.mp z))]
            by_cases h6 : w = 37026792
            · rw [if_pos h6, if_pos (c6.mpr h6)]
            · rw [if_neg h6, if_neg (fun z => h6 (c6.mp z))]
def mP (M : xMem) (s : pSt) : Prop := ((s.1 = none → M.1 74 20 = -1) ∧ ∀ B, s.1 = some B → M.1 74 20 = nI B ∧ B ≤ 2) ∧ M.1 74 21 = nI s.2.1 ∧ s.2.1 ≤ 8 ∧ ∀ f, f < s.2.1 → ∀ k, k < 7 → M.1 82 (7 * f + k) = nI (s.2.2 f k)
def rsQ (M : xMem) (b : Nat → Int32) (N p : Nat) (s : pSt) (m : xMem) : Prop := mpS M m ∧ (stO b N s p → m.1 74 13 = nI (stJ b N s p) ∧ mP m (stS b N s p)) ∧ (¬ stO b N s p → m.1 74 17 = nI (tF b N (stJ b N s p))) ∧ m.1 74 18 = M.1 74 18 ∧ m.1 74 19 = M.1 74 19
theorem rs_no {M M2 : xMem} {b : Nat → Int32} {N p : Nat} {s : pSt} (q1 : mnS M M2) (q2 : mtok M2 b N p) (h1 : ¬ isW b N p 1) (hk : kW b N p = -9) : ¬ stO b N s p ∧ rsQ M b N p s (wI M2 74 17 (M2.1 74 14)) := by
  have hno : ¬ stO b N s p := by
    rintro (z | z)
    · exact h1 z.1
    · exact z.2.1 hk
  have hJ : stJ b N s p = p := by unfold stJ; rw [if_neg h1, if_neg (fun z => z.1 hk)]
  exact ⟨hno, (q1.q).p (by omega), fun z => absurd z hno, fun _ => by rw [hJ]; exact q2.2.1, by rw [xI_wI, if_neg (fun z => by omega)]; exact q1.2.2 18 (by omega), by rw [xI_wI, if_neg (fun z => by omega)]; exact q1.2.2 19 (by omega)⟩
theorem rs_bl {M M2 m : xMem} {b : Nat → Int32} {N p : Nat} {s : pSt} (hm : mP M s) (hok : s.1 = none → ff (blC b N p) 2 1 = 3 → vv b N p 1 ≤ 2) (q1 : mnS M M2) (h1 : isW b N p 1) (q2 : mpS M2 m) (q3 : s.1 = none ∧ ff (blC b N p) 2 1 = 3 → m.1 74 13 = nI (ps b N p 3) ∧ m.1 74 20 = nI (vv b N p 1)) (q4 : ¬ (s.1 = none ∧ ff (blC b N p) 2 1 = 3) → m.1 74 17 = nI (tF b N (if s.1 = none then ps b N p (ff (blC b N p) 2 1) else p))) (q5 : ∀ k, 17 < k → k ≠ 20 → m.1 74 k = M2.1 74 k) (q6 : m.1 82 = M2.1 82) : ((s.1 = none ∧ ff (blC b N p) 2 1 = 3) ↔ stO b N s p) ∧ rsQ M b N p s m := by
  have hiff : (s.1 = none ∧ ff (blC b N p) 2 1 = 3) ↔ stO b N s p := by
    constructor
    · intro z; exact Or.inl ⟨h1, z.1, z.2⟩
    · rintro (z | z)
      · exact z.2
      · exact absurd h1 z.1
  have hJ : stJ b N s p = if s.1 = none then ps b N p (ff (blC b N p) 2 1) else p := by
    unfold stJ
    rw [if_pos h1]
    by_cases z : s.1 = none
    · rw [if_pos z, if_pos z]
    · rw [if_neg z, if_neg z]
  refine ⟨hiff, (q1.q).tr q2, fun z => ?_, fun z => by rw [hJ]; exact q4 (fun y => z (hiff.mp y)), by rw [q5 18 (by omega) (by omega)]; exact q1.2.2 18 (by omega), by rw [q5 19 (by omega) (by omega)]; exact q1.2.2 19 (by omega)⟩
  have z' := hiff.mpr z
  have hz := q3 z'
  have hS : stS b N s p = (some (vv b N p 1), s.2) := if_pos h1
  rw [hS, hJ, if_pos z'.1, z'.2]
  refine ⟨hz.1, ⟨fun y => absurd (show some (vv b N p 1) = none from y) (fun w => (by cases w)), fun B y => ?_⟩, by rw [q5 21 (by omega) (by omega), q1.2.2 21 (by omega)]; exact hm.2.1, hm.2.2.1, fun f hf k hk => by rw [q6, q1.2.1 82 (by decide)]; exact hm.2.2.2 f hf k hk⟩
  have e := Option.some.inj (show some (vv b N p 1) = some B from y)
  rw [← e]
  exact ⟨hz.2, hok z'.1 z'.2⟩
theorem rs_fr {M M2 m : xMem} {b : Nat → Int32} {N p kk : Nat} {s : pSt} (hm : mP M s) (q1 : mnS M M2) (h1 : ¬ isW b N p 1) (hk4 : kk < 4) (hk : kW b N p = nI kk) (q2 : mpS M2 m) (q3 : s.2.1 < 8 ∧ ff (fmC b N p) 7 1 = 8 → m.1 74 13 = nI (ps b N p 8) ∧ m.1 74 21 = nI (s.2.1 + 1) ∧ m.1 82 (7 * s.2.1) = nI kk ∧ ∀ q, 1 ≤ q → q ≤ 6 → m.1 82 (7 * s.2.1 + q) = nI (vv b N p q)) (q4 : ¬ (s.2.1 < 8 ∧ ff (fmC b N p) 7 1 = 8) → m.1 74 17 = nI (tF b N (if s.2.1 < 8 then ps b N p (ff (fmC b N p) 7 1) else p))) (q5 : ∀ k, 17 < k → k ≠ 21 → m.1 74 k = M2.1 74 k) (q6 : ∀ i, i < 7 * s.2.1 → m.1 82 i = M2.1 82 i) : ((s.2.1 < 8 ∧ ff (fmC b N p) 7 1 = 8) ↔ stO b N s p) ∧ rsQ M b N p s m := by
  have h9 : ¬ kW b N p = -9 := by rw [hk]; exact nI_ne9 (by omega)
  have hiff : (s.2.1 < 8 ∧ ff (fmC b N p) 7 1 = 8) ↔ stO b N s p := by
    constructor
    · intro z; exact Or.inr ⟨h1, h9, z.1, z.2⟩
    · rintro (z | z)
      · exact absurd z.1 h1
      · exact z.2.2
  have hJ : stJ b N s p = if s.2.1 < 8 then ps b N p (ff (fmC b N p) 7 1) else p := by
    unfold stJ
    rw [if_neg h1]
    by_cases z : s.2.1 < 8
    · rw [if_pos ⟨h9, z⟩, if_pos z]
    · rw [if_neg (fun y => z y.2), if_neg z]
  refine ⟨hiff, (q1.q).tr q2, fun z => ?_, fun z => by rw [hJ]; exact q4 (fun y => z (hiff.mp y)), by rw [q5 18 (by omega) (by omega)]; exact q1.2.2 18 (by omega), by rw [q5 19 (by omega) (by omega)]; exact q1.2.2 19 (by omega)⟩
  have z' := hiff.mpr z
  have hz := q3 z'
  have hS : stS b N s p = (s.1, s.2.1 + 1, gN b N p s.2.1 s.2.2) := if_neg h1
  rw [hS, hJ, if_pos z'.1, z'.2]
  refine ⟨hz.1, ⟨fun y => by rw [q5 20 (by omega) (by omega), q1.2.2 20 (by omega)]; exact hm.1.1 y, fun B y => by rw [q5 20 (by omega) (by omega), q1.2.2 20 (by omega)]; exact hm.1.2 B y⟩, hz.2.1, by show s.2.1 + 1 ≤ 8; omega, fun f hf k hk2 => ?_⟩
  have hf : f < s.2.1 + 1 := hf
  show m.1 82 (7 * f + k) = nI (gN b N p s.2.1 s.2.2 f k)
  unfold gN
  by_cases e : f = s.2.1
  · rw [if_pos e, e]
    by_cases k0 : k = 0
    · rw [if_pos k0, k0, hk, nI_clamp (by omega)]; exact hz.2.2.1
    · rw [if_neg k0]; exact hz.2.2.2 k (by omega) (by omega)
  · rw [if_neg e, q6 _ (by omega), q1.2.1 82 (by decide)]
    exact hm.2.2.2 f (by omega) k hk2

set_option maxRecDepth 100000 in
theorem c_readsOneP {E : xE} {M : xMem} {t N p : Nat} {b : Nat → Int32} (hr : mrd M t N b) (hp : p ≤ N) (hra : M.1 74 13 = nI p) (h18 : M.1 74 18 = 0) : Ct E mX11_readsOne [.ref 74, .int (nI t)] M (xN M) (fun r m => r = some (.int (zc (isW b N p 0 ∧ ff (pgC b N p) 3 1 = 4))) ∧ mpS M m ∧ (isW b N p 0 ∧ ff (pgC b N p) 3 1 = 4 → m.1 74 13 = nI (ps b N p 4) ∧ m.1 74 18 = nI (vv b N p 1) ∧ m.1 74 19 = nI (vv b N p 2)) ∧ (¬ (isW b N p 0 ∧ ff (pgC b N p) 3 1 = 4) → m.1 74 17 = nI (tF b N (pgJ b N p))) ∧ (∀ k, 19 < k → m.1 74 k = M.1 74 k) ∧ m.1 82 = M.1 82) := by
  have hM := hr.1
  have hW := hr.2.1
  have hwl := wd_lt (b := b) hp
  obtain ⟨wc0, wc1, wc2, wc3, wc4, wc5⟩ := wC_all
  have hW_ := fun i (hi : i < 6) => wd_i (b := b) (N := N) (j := p) (i := i) hp hi
  refine Ct.of (lo := [some (.ref 74), some (.int (nI t)), none]) pln_X11 (Nat.le_of_ble_eq_true rfl) rfl (Nat.le_refl _) ?_
  refine px_aload_n dX11_readsOne_0 rfl rfl ?_
  refine px_iload_n dX11_readsOne_1 rfl rfl ?_
  refine px_gV1 dX11_readsOne_2 kX11_readsOne_125 (xol rfl) hM (Nat.le_of_ble_eq_true rfl) (c_X11_next hr hp hra) (fun r2 M2 hq2 hn2 => ?_)
  obtain ⟨rfl, q1, q2⟩ := hq2
  have hM : xNT ≤ xN M2 := by rw [hn2]; exact hM
  have hW : xWire M2.2.1 := by rw [q1.1]; exact hW
  refine px_aload_n dX11_readsOne_5 rfl rfl ?_
  refine px_getI dX11_readsOne_6 fX11_110 (xol rfl) hM rfl ?_
  refine px_top (y := nI (tK b N p)) q2.2.2.1 ?_
  refine px_iconst dX11_readsOne_9 ic_1 ?_
  refine px_icmp_ne 21 dX11_readsOne_10 rfl (fun h10 => ?_) (fun h10 => ?_)
  · have h10n : ¬ tK b N p = 1 := fun z => h10 (by rw [z]; rfl)
    refine px_iconst dX11_readsOne_21 ic_0 ?_
    refine px_top (y := nI (wdV b N p)) (by first | rfl | (unfold wdV; rw [if_neg h10n]; rfl)) ?_
    refine px_si_2 dX11_readsOne_22 rfl ?_
    refine px_iload_n dX11_readsOne_23 rfl rfl ?_
    refine px_ldc dX11_readsOne_24 xw1263 ?_
    refine px_icmp_ne 33 dX11_readsOne_26 rfl (fun h26 => ?_) (fun h26 => ?_)
    · have e0 : ¬ wdV b N p = 315851 := fun z => h26 (by rw [z]; rfl)
      refine px_iconst dX11_readsOne_33 ic_0 ?_
      refine px_aload_n dX11_readsOne_34 rfl rfl ?_
      refine px_getI dX11_readsOne_35 fX11_135 (xol rfl) hM rfl ?_
      refine px_top (y := 0) (by rw [q1.2.2 18 (by omega)]; exact h18) ?_
      refine px_if_ne 45 dX11_readsOne_38 rfl (fun h38 => ?_) (fun h38 => ?_)
      · exact absurd rfl h38
      · refine px_iconst dX11_readsOne_41 ic_1 ?_
        refine px_goto 46 dX11_readsOne_42 rfl ?_
        refine px_icmp_eq 54 dX11_readsOne_46 rfl (fun h46 => ?_) (fun h46 => ?_)
        · exact absurd h46 (by decide)
        · refine px_aload_n dX11_readsOne_49 rfl rfl ?_
          refine px_fV0i dX11_readsOne_50 kX11_readsOne_128 (xol rfl) hM (Nat.le_of_ble_eq_true rfl) (c_X11_fails hM) ?_
          exact px_zret dX11_readsOne_53 rfl (by first | rfl | exact zb_nar | exact zc_nar) (by
                first
                  | exact absurd rfl h46
                  | (have hi : ¬ isW b N p 0 := fun z => e0 (((hW_ 0 (by decide)).mpr z).trans wc0)
                     rw [zcF (fun z => hi z.1)]
                     exact ⟨rfl, (q1.q).p (by omega), fun z => absurd z.1 hi, fun _ => by rw [show pgJ b N p = p from if_neg hi]; exact q2.2.1, fun k k1 => by rw [xI_wI, if_neg (fun z => by omega)]; exact q1.2.2 k (by omega), q1.2.1 82 (by decide)⟩)) (by first | exact hn2 | exact hn114.trans hn2 | exact hn120.trans hn2 | exact hn127.trans hn2 | exact hn134.trans hn2 | exact hn141.trans hn2 | exact hn148.trans hn2)
    · have e0 : wdV b N p = 315851 := nI_is (show (315851 : Int32) = nI 315851 from rfl) (by omega) (by decide) h26
      refine px_iconst dX11_readsOne_29 ic_1 ?_
      refine px_goto 34 dX11_readsOne_30 rfl ?_
      refine px_aload_n dX11_readsOne_34 rfl rfl ?_
      refine px_getI dX11_readsOne_35 fX11_135 (xol rfl) hM rfl ?_
      refine px_top (y := 0) (by rw [q1.2.2 18 (by omega)]; exact h18) ?_
      refine px_if_ne 45 dX11_readsOne_38 rfl (fun h38 => ?_) (fun h38 => ?_)
      · exact absurd rfl h38
      · refine px_iconst dX11_readsOne_41 ic_1 ?_
        refine px_goto 46 dX11_readsOne_42 rfl ?_
        refine px_icmp_eq 54 dX11_readsOne_46 rfl (fun h46 => ?_) (fun h46 => ?_)
        · refine px_iload_n dX11_readsOne_54 rfl rfl ?_
          refine px_lookup (off := 57) 112 dX11_readsOne_55 (by decide) (by rw [h26]; rfl) rfl ?_
          refine px_aload_n dX11_readsOne_112 rfl rfl ?_
          refine px_iload_n dX11_readsOne_113 rfl rfl ?_
          refine px_gV1 dX11_readsOne_114 kX11_readsOne_154 (xol rfl) hM (Nat.le_of_ble_eq_true rfl) (c_X11_readsPage (p := p) (q1.r hr) hp q2.1) (fun r114 M114 hq114 hn114 => ?_)
          obtain ⟨rfl, q3, q4, q5, q6, q7⟩ := hq114
          exact px_zret dX11_readsOne_117 rfl (by first | rfl | exact zb_nar | exact zc_nar) (by
                have hi : isW b N p 0 := (hW_ 0 (by decide)).mp (e0.trans wc0.symm)
                have hiff : ff (pgC b N p) 3 1 = 4 ↔ (isW b N p 0 ∧ ff (pgC b N p) 3 1 = 4) := ⟨fun z => ⟨hi, z⟩, fun z => z.2⟩
                rw [← zc_c hiff]
                exact ⟨rfl, (q1.q).tr q3, fun z => q4 z.2, fun z => by rw [show pgJ b N p = ps b N p (ff (pgC b N p) 3 1) from if_pos hi]; exact q5 (fun y => z ⟨hi, y⟩), fun k k1 => by rw [q6 k k1]; exact q1.2.2 k (by omega), by rw [q7]; exact q1.2.1 82 (by decide)⟩) (by first | exact hn2 | exact hn114.trans hn2 | exact hn120.trans hn2 | exact hn127.trans hn2 | exact hn134.trans hn2 | exact hn141.trans hn2 | exact hn148.trans hn2)
        · refine px_aload_n dX11_readsOne_49 rfl rfl ?_
          refine px_fV0i dX11_readsOne_50 kX11_readsOne_128 (xol rfl) hM (Nat.le_of_ble_eq_true rfl) (c_X11_fails hM) ?_
          exact px_zret dX11_readsOne_53 rfl (by first | rfl | exact zb_nar | exact zc_nar) (by
                first
                  | exact absurd rfl h46
                  | (have hi : ¬ isW b N p 0 := fun z => e0 (((hW_ 0 (by decide)).mpr z).trans wc0)
                     rw [zcF (fun z => hi z.1)]
                     exact ⟨rfl, (q1.q).p (by omega), fun z => absurd z.1 hi, fun _ => by rw [show pgJ b N p = p from if_neg hi]; exact q2.2.1, fun k k1 => by rw [xI_wI, if_neg (fun z => by omega)]; exact q1.2.2 k (by omega), q1.2.1 82 (by decide)⟩)) (by first | exact hn2 | exact hn114.trans hn2 | exact hn120.trans hn2 | exact hn127.trans hn2 | exact hn134.trans hn2 | exact hn141.trans hn2 | exact hn148.trans hn2)
  · have h10n : tK b N p = 1 := nI_is (show (1 : Int32) = nI 1 from rfl) (by unfold tK; (repeat' split) <;> omega) (by decide) h10
    refine px_aload_n dX11_readsOne_13 rfl rfl ?_
    refine px_iload_n dX11_readsOne_14 rfl rfl ?_
    refine px_fV1i dX11_readsOne_15 kX11_readsOne_150 (xol rfl) hM (Nat.le_of_ble_eq_true rfl) (c_X11_word (q1.r hr) hp q2 h10n) ?_
    refine px_goto 22 dX11_readsOne_18 rfl ?_
    refine px_top (y := nI (wdV b N p)) (by first | rfl | (unfold wdV; rw [if_neg h10n]; rfl)) ?_
    refine px_si_2 dX11_readsOne_22 rfl ?_
    refine px_iload_n dX11_readsOne_23 rfl rfl ?_
    refine px_ldc dX11_readsOne_24 xw1263 ?_
    refine px_icmp_ne 33 dX11_readsOne_26 rfl (fun h26 => ?_) (fun h26 => ?_)
    · have e0 : ¬ wdV b N p = 315851 := fun z => h26 (by rw [z]; rfl)
      refine px_iconst dX11_readsOne_33 ic_0 ?_
      refine px_aload_n dX11_readsOne_34 rfl rfl ?_
      refine px_getI dX11_readsOne_35 fX11_135 (xol rfl) hM rfl ?_
      refine px_top (y := 0) (by rw [q1.2.2 18 (by omega)]; exact h18) ?_
      refine px_if_ne 45 dX11_readsOne_38 rfl (fun h38 => ?_) (fun h38 => ?_)
      · exact absurd rfl h38
      · refine px_iconst dX11_readsOne_41 ic_1 ?_
        refine px_goto 46 dX11_readsOne_42 rfl ?_
        refine px_icmp_eq 54 dX11_readsOne_46 rfl (fun h46 => ?_) (fun h46 => ?_)
        · exact absurd h46 (by decide)
        · refine px_aload_n dX11_readsOne_49 rfl rfl ?_
          refine px_fV0i dX11_readsOne_50 kX11_readsOne_128 (xol rfl) hM (Nat.le_of_ble_eq_true rfl) (c_X11_fails hM) ?_
          exact px_zret dX11_readsOne_53 rfl (by first | rfl | exact zb_nar | exact zc_nar) (by
                first
                  | exact absurd rfl h46
                  | (have hi : ¬ isW b N p 0 := fun z => e0 (((hW_ 0 (by decide)).mpr z).trans wc0)
                     rw [zcF (fun z => hi z.1)]
                     exact ⟨rfl, (q1.q).p (by omega), fun z => absurd z.1 hi, fun _ => by rw [show pgJ b N p = p from if_neg hi]; exact q2.2.1, fun k k1 => by rw [xI_wI, if_neg (fun z => by omega)]; exact q1.2.2 k (by omega), q1.2.1 82 (by decide)⟩)) (by first | exact hn2 | exact hn114.trans hn2 | exact hn120.trans hn2 | exact hn127.trans hn2 | exact hn134.trans hn2 | exact hn141.trans hn2 | exact hn148.trans hn2)
    · have e0 : wdV b N p = 315851 := nI_is (show (315851 : Int32) = nI 315851 from rfl) (by omega) (by decide) h26
      refine px_iconst dX11_readsOne_29 ic_1 ?_
      refine px_goto 34 dX11_readsOne_30 rfl ?_
      refine px_aload_n dX11_readsOne_34 rfl rfl ?_
      refine px_getI dX11_readsOne_35 fX11_135 (xol rfl) hM rfl ?_
      refine px_top (y := 0) (by rw [q1.2.2 18 (by omega)]; exact h18) ?_
      refine px_if_ne 45 dX11_readsOne_38 rfl (fun h38 => ?_) (fun h38 => ?_)
      · exact absurd rfl h38
      · refine px_iconst dX11_readsOne_41 ic_1 ?_
        refine px_goto 46 dX11_readsOne_42 rfl ?_
        refine px_icmp_eq 54 dX11_readsOne_46 rfl (fun h46 => ?_) (fun h46 => ?_)
        · refine px_iload_n dX11_readsOne_54 rfl rfl ?_
          refine px_lookup (off := 57) 112 dX11_readsOne_55 (by decide) (by rw [h26]; rfl) rfl ?_
          refine px_aload_n dX11_readsOne_112 rfl rfl ?_
          refine px_iload_n dX11_readsOne_113 rfl rfl ?_
          refine px_gV1 dX11_readsOne_114 kX11_readsOne_154 (xol rfl) hM (Nat.le_of_ble_eq_true rfl) (c_X11_readsPage (p := p) (q1.r hr) hp q2.1) (fun r114 M114 hq114 hn114 => ?_)
          obtain ⟨rfl, q3, q4, q5, q6, q7⟩ := hq114
          exact px_zret dX11_readsOne_117 rfl (by first | rfl | exact zb_nar | exact zc_nar) (by
                have hi : isW b N p 0 := (hW_ 0 (by decide)).mp (e0.trans wc0.symm)
                have hiff : ff (pgC b N p) 3 1 = 4 ↔ (isW b N p 0 ∧ ff (pgC b N p) 3 1 = 4) := ⟨fun z => ⟨hi, z⟩, fun z => z.2⟩
                rw [← zc_c hiff]
                exact ⟨rfl, (q1.q).tr q3, fun z => q4 z.2, fun z => by rw [show pgJ b N p = ps b N p (ff (pgC b N p) 3 1) from if_pos hi]; exact q5 (fun y => z ⟨hi, y⟩), fun k k1 => by rw [q6 k k1]; exact q1.2.2 k (by omega), by rw [q7]; exact q1.2.1 82 (by decide)⟩) (by first | exact hn2 | exact hn114.trans hn2 | exact hn120.trans hn2 | exact hn127.trans hn2 | exact hn134.trans hn2 | exact hn141.trans hn2 | exact hn148.trans hn2)
        · refine px_aload_n dX11_readsOne_49 rfl rfl ?_
          refine px_fV0i dX11_readsOne_50 kX11_readsOne_128 (xol rfl) hM (Nat.le_of_ble_eq_true rfl) (c_X11_fails hM) ?_
          exact px_zret dX11_readsOne_53 rfl (by first | rfl | exact zb_nar | exact zc_nar) (by
                first
                  | exact absurd rfl h46
                  | (have hi : ¬ isW b N p 0 := fun z => e0 (((hW_ 0 (by decide)).mpr z).trans wc0)
                     rw [zcF (fun z => hi z.1)]
                     exact ⟨rfl, (q1.q).p (by omega), fun z => absurd z.1 hi, fun _ => by rw [show pgJ b N p = p from if_neg hi]; exact q2.2.1, fun k k1 => by rw [xI_wI, if_neg (fun z => by omega)]; exact q1.2.2 k (by omega), q1.2.1 82 (by decide)⟩)) (by first | exact hn2 | exact hn114.trans hn2 | exact hn120.trans hn2 | exact hn127.trans hn2 | exact hn134.trans hn2 | exact hn141.trans hn2 | exact hn148.trans hn2)

set_option maxRecDepth 100000 in
theorem c_readsOneS {E : xE} {M : xMem} {t N p : Nat} {b : Nat → Int32} (hr : mrd M t N b) (hp : p ≤ N) (hra : M.1 74 13 = nI p) {W : Nat} (hW0 : 0 < W) (hW1 : W < 2 ^ 30) (h18 : M.1 74 18 = nI W) {s : pSt} (hmP : mP M s) : Ct E mX11_readsOne [.ref 74, .int (nI t)] M (xN M) (fun r m => r = some (.int (zc (stO b N s p))) ∧ rsQ M b N p s m) := by
  have hM := hr.1
  have hW := hr.2.1
  have hwl := wd_lt (b := b) hp
  obtain ⟨wc0, wc1, wc2, wc3, wc4, wc5⟩ := wC_all
  have hW_ := fun i (hi : i < 6) => wd_i (b := b) (N := N) (j := p) (i := i) hp hi
  refine Ct.of (lo := [some (.ref 74), some (.int (nI t)), none]) pln_X11 (Nat.le_of_ble_eq_true rfl) rfl (Nat.le_refl _) ?_
  refine px_aload_n dX11_readsOne_0 rfl rfl ?_
  refine px_iload_n dX11_readsOne_1 rfl rfl ?_
  refine px_gV1 dX11_readsOne_2 kX11_readsOne_125 (xol rfl) hM (Nat.le_of_ble_eq_true rfl) (c_X11_next hr hp hra) (fun r2 M2 hq2 hn2 => ?_)
  obtain ⟨rfl, q1, q2⟩ := hq2
  have hM : xNT ≤ xN M2 := by rw [hn2]; exact hM
  have hW : xWire M2.2.1 := by rw [q1.1]; exact hW
  refine px_aload_n dX11_readsOne_5 rfl rfl ?_
  refine px_getI dX11_readsOne_6 fX11_110 (xol rfl) hM rfl ?_
  refine px_top (y := nI (tK b N p)) q2.2.2.1 ?_
  refine px_iconst dX11_readsOne_9 ic_1 ?_
  refine px_icmp_ne 21 dX11_readsOne_10 rfl (fun h10 => ?_) (fun h10 => ?_)
  · have h10n : ¬ tK b N p = 1 := fun z => h10 (by rw [z]; rfl)
    refine px_iconst dX11_readsOne_21 ic_0 ?_
    refine px_top (y := nI (wdV b N p)) (by first | rfl | (unfold wdV; rw [if_neg h10n]; rfl)) ?_
    refine px_si_2 dX11_readsOne_22 rfl ?_
    refine px_iload_n dX11_readsOne_23 rfl rfl ?_
    refine px_ldc dX11_readsOne_24 xw1263 ?_
    refine px_icmp_ne 33 dX11_readsOne_26 rfl (fun h26 => ?_) (fun h26 => ?_)
    · have e0 : ¬ wdV b N p = 315851 := fun z => h26 (by rw [z]; rfl)
      refine px_iconst dX11_readsOne_33 ic_0 ?_
      refine px_aload_n dX11_readsOne_34 rfl rfl ?_
      refine px_getI dX11_readsOne_35 fX11_135 (xol rfl) hM rfl ?_
      refine px_top (y := nI W) (by rw [q1.2.2 18 (by omega)]; exact h18) ?_
      refine px_if_ne 45 dX11_readsOne_38 rfl (fun h38 => ?_) (fun h38 => ?_)
      · refine px_iconst dX11_readsOne_45 ic_0 ?_
        refine px_icmp_eq 54 dX11_readsOne_46 rfl (fun h46 => ?_) (fun h46 => ?_)
        · refine px_iload_n dX11_readsOne_54 rfl rfl ?_
          by_cases e1 : wdV b N p = 1302862
          · refine px_lookup (off := 63) 118 dX11_readsOne_55 (by decide) (by rw [e1]; rfl) rfl ?_
            refine px_aload_n dX11_readsOne_118 rfl rfl ?_
            refine px_iload_n dX11_readsOne_119 rfl rfl ?_
            refine px_gV1 dX11_readsOne_120 kX11_readsOne_157 (xol rfl) hM (Nat.le_of_ble_eq_true rfl) (c_X11_readsBleed (p := p) (so := s.1) (q1.r hr) hp q2.1 q2.2.1 (by rw [q1.2.2 20 (by omega)]; exact hmP.1)) (fun r120 M120 hq120 hn120 => ?_)
            obtain ⟨rfl, q3, q4, q5, q6, q7⟩ := hq120
            exact px_zret dX11_readsOne_123 rfl (by first | rfl | exact zb_nar | exact zc_nar) (by
                  have h := rs_bl hmP (fun _ z => ((nN_i (l := 0) (h := 2) (by decide) (by decide)).mp (blC_1.mpr (ff_all 2 1 z 1 (by omega) (by omega)))).2.2) q1 ((hW_ 1 (by decide)).mp (e1.trans wc1.symm)) q3 q4 q5 q6 q7
                  rw [← zc_c h.1]
                  exact ⟨rfl, h.2⟩) (by first | exact hn2 | exact hn114.trans hn2 | exact hn120.trans hn2 | exact hn127.trans hn2 | exact hn134.trans hn2 | exact hn141.trans hn2 | exact hn148.trans hn2)
          by_cases e2 : wdV b N p = 3544025
          · refine px_lookup (off := 69) 124 dX11_readsOne_55 (by decide) (by rw [e2]; rfl) rfl ?_
            refine px_aload_n dX11_readsOne_124 rfl rfl ?_
            refine px_iload_n dX11_readsOne_125 rfl rfl ?_
            refine px_iconst dX11_readsOne_126 ic_0 ?_
            refine px_gV2 dX11_readsOne_127 kX11_readsOne_160 (xol rfl) hM (Nat.le_of_ble_eq_true rfl) (c_X11_readsFrame (p := p) (n := s.2.1) (kd := nI 0) (q1.r hr) hp hmP.2.2.1 q2.1 q2.2.1 (by rw [q1.2.2 21 (by omega)]; exact hmP.2.1)) (fun r127 M127 hq127 hn127 => ?_)
            obtain ⟨rfl, q3, q4, q5, q6, q7⟩ := hq127
            exact px_zret dX11_readsOne_130 rfl (by first | rfl | exact zb_nar | exact zc_nar) (by
                  have hk : kW b N p = nI 0 := by
                    unfold kW
                    rw [if_pos ((hW_ 2 (by decide)).mp (e2.trans wc2.symm))]; rfl
                  have h := rs_fr hmP q1 (fun z => e1 (((hW_ 1 (by decide)).mpr z).trans wc1)) (by decide) hk q3 q4 q5 q6 q7
                  rw [← zc_c h.1]
                  exact ⟨rfl, h.2⟩) (by first | exact hn2 | exact hn114.trans hn2 | exact hn120.trans hn2 | exact hn127.trans hn2 | exact hn134.trans hn2 | exact hn141.trans hn2 | exact hn148.trans hn2)
          by_cases e3 : wdV b N p = 179753
          · refine px_lookup (off := 76) 131 dX11_readsOne_55 (by decide) (by rw [e3]; rfl) rfl ?_
            refine px_aload_n dX11_readsOne_131 rfl rfl ?_
            refine px_iload_n dX11_readsOne_132 rfl rfl ?_
            refine px_iconst dX11_readsOne_133 ic_1 ?_
            refine px_gV2 dX11_readsOne_134 kX11_readsOne_160 (xol rfl) hM (Nat.le_of_ble_eq_true rfl) (c_X11_readsFrame (p := p) (n := s.2.1) (kd := nI 1) (q1.r hr) hp hmP.2.2.1 q2.1 q2.2.1 (by rw [q1.2.2 21 (by omega)]; exact hmP.2.1)) (fun r134 M134 hq134 hn134 => ?_)
            obtain ⟨rfl, q3, q4, q5, q6, q7⟩ := hq134
            exact px_zret dX11_readsOne_137 rfl (by first | rfl | exact zb_nar | exact zc_nar) (by
                  have hk : kW b N p = nI 1 := by
                    unfold kW
                    rw [if_neg (fun z => e2 (((hW_ 2 (by decide)).mpr z).trans wc2)), if_pos ((hW_ 3 (by decide)).mp (e3.trans wc3.symm))]; rfl
                  have h := rs_fr hmP q1 (fun z => e1 (((hW_ 1 (by decide)).mpr z).trans wc1)) (by decide) hk q3 q4 q5 q6 q7
                  rw [← zc_c h.1]
                  exact ⟨rfl, h.2⟩) (by first | exact hn2 | exact hn114.trans hn2 | exact hn120.trans hn2 | exact hn127.trans hn2 | exact hn134.trans hn2 | exact hn141.trans hn2 | exact hn148.trans hn2)
          by_cases e4 : wdV b N p = 37026792
          · refine px_lookup (off := 83) 138 dX11_readsOne_55 (by decide) (by rw [e4]; rfl) rfl ?_
            refine px_aload_n dX11_readsOne_138 rfl rfl ?_
            refine px_iload_n dX11_readsOne_139 rfl rfl ?_
            refine px_iconst dX11_readsOne_140 ic_2 ?_
            refine px_gV2 dX11_readsOne_141 kX11_readsOne_160 (xol rfl) hM (Nat.le_of_ble_eq_true rfl) (c_X11_readsFrame (p := p) (n := s.2.1) (kd := nI 2) (q1.r hr) hp hmP.2.2.1 q2.1 q2.2.1 (by rw [q1.2.2 21 (by omega)]; exact hmP.2.1)) (fun r141 M141 hq141 hn141 => ?_)
            obtain ⟨rfl, q3, q4, q5, q6, q7⟩ := hq141
            exact px_zret dX11_readsOne_144 rfl (by first | rfl | exact zb_nar | exact zc_nar) (by
                  have hk : kW b N p = nI 2 := by
                    unfold kW
                    rw [if_neg (fun z => e2 (((hW_ 2 (by decide)).mpr z).trans wc2)), if_neg (fun z => e3 (((hW_ 3 (by decide)).mpr z).trans wc3)), if_pos ((hW_ 4 (by decide)).mp (e4.trans wc4.symm))]; rfl
                  have h := rs_fr hmP q1 (fun z => e1 (((hW_ 1 (by decide)).mpr z).trans wc1)) (by decide) hk q3 q4 q5 q6 q7
                  rw [← zc_c h.1]
                  exact ⟨rfl, h.2⟩) (by first | exact hn2 | exact hn114.trans hn2 | exact hn120.trans hn2 | exact hn127.trans hn2 | exact hn134.trans hn2 | exact hn141.trans hn2 | exact hn148.trans hn2)
          by_cases e5 : wdV b N p = 247335
          · refine px_lookup (off := 90) 145 dX11_readsOne_55 (by decide) (by rw [e5]; rfl) rfl ?_
            refine px_aload_n dX11_readsOne_145 rfl rfl ?_
            refine px_iload_n dX11_readsOne_146 rfl rfl ?_
            refine px_iconst dX11_readsOne_147 ic_3 ?_
            refine px_gV2 dX11_readsOne_148 kX11_readsOne_160 (xol rfl) hM (Nat.le_of_ble_eq_true rfl) (c_X11_readsFrame (p := p) (n := s.2.1) (kd := nI 3) (q1.r hr) hp hmP.2.2.1 q2.1 q2.2.1 (by rw [q1.2.2 21 (by omega)]; exact hmP.2.1)) (fun r148 M148 hq148 hn148 => ?_)
            obtain ⟨rfl, q3, q4, q5, q6, q7⟩ := hq148
            exact px_zret dX11_readsOne_151 rfl (by first | rfl | exact zb_nar | exact zc_nar) (by
                  have hk : kW b N p = nI 3 := by
                    unfold kW
                    rw [if_neg (fun z => e2 (((hW_ 2 (by decide)).mpr z).trans wc2)), if_neg (fun z => e3 (((hW_ 3 (by decide)).mpr z).trans wc3)), if_neg (fun z => e4 (((hW_ 4 (by decide)).mpr z).trans wc4)), if_pos ((hW_ 5 (by decide)).mp (e5.trans wc5.symm))]; rfl
                  have h := rs_fr hmP q1 (fun z => e1 (((hW_ 1 (by decide)).mpr z).trans wc1)) (by decide) hk q3 q4 q5 q6 q7
                  rw [← zc_c h.1]
                  exact ⟨rfl, h.2⟩) (by first | exact hn2 | exact hn114.trans hn2 | exact hn120.trans hn2 | exact hn127.trans hn2 | exact hn134.trans hn2 | exact hn141.trans hn2 | exact hn148.trans hn2)
          refine px_lookup (off := 97) 152 dX11_readsOne_55 (by decide) (by refine (lk_off hwl).trans ?_; rw [if_neg e3, if_neg e5, if_neg e0, if_neg e1, if_neg e2, if_neg e4]) rfl ?_
          refine px_aload_n dX11_readsOne_152 rfl rfl ?_
          refine px_fV0i dX11_readsOne_153 kX11_readsOne_128 (xol rfl) hM (Nat.le_of_ble_eq_true rfl) (c_X11_fails hM) ?_
          exact px_zret dX11_readsOne_156 rfl (by first | rfl | exact zb_nar | exact zc_nar) (by
                have hk : kW b N p = -9 := by unfold kW; rw [if_neg (fun z => e2 (((hW_ 2 (by decide)).mpr z).trans wc2)), if_neg (fun z => e3 (((hW_ 3 (by decide)).mpr z).trans wc3)), if_neg (fun z => e4 (((hW_ 4 (by decide)).mpr z).trans wc4)), if_neg (fun z => e5 (((hW_ 5 (by decide)).mpr z).trans wc5))]
                have h := rs_no (s := s) q1 q2 (fun z => e1 (((hW_ 1 (by decide)).mpr z).trans wc1)) hk
                rw [zcF h.1]
                exact ⟨rfl, h.2⟩) (by first | exact hn2 | exact hn114.trans hn2 | exact hn120.trans hn2 | exact hn127.trans hn2 | exact hn134.trans hn2 | exact hn141.trans hn2 | exact hn148.trans hn2)
        · refine px_aload_n dX11_readsOne_49 rfl rfl ?_
          refine px_fV0i dX11_readsOne_50 kX11_readsOne_128 (xol rfl) hM (Nat.le_of_ble_eq_true rfl) (c_X11_fails hM) ?_
          exact px_zret dX11_readsOne_53 rfl (by first | rfl | exact zb_nar | exact zc_nar) (by
                first
                  | exact absurd rfl h46
                  | (have h0 : isW b N p 0 := (hW_ 0 (by decide)).mp (e0.trans wc0.symm)
                     have hne : ∀ i, 1 ≤ i → i < 6 → ¬ isW b N p i := fun i i1 i2 z => by
                       have h := (hW_ i i2).mpr z
                       rw [e0] at h
                       rcases (show i = 1 ∨ i = 2 ∨ i = 3 ∨ i = 4 ∨ i = 5 by omega) with rfl | rfl | rfl | rfl | rfl
                       · rw [wc1] at h; exact absurd h (by decide)
                       · rw [wc2] at h; exact absurd h (by decide)
                       · rw [wc3] at h; exact absurd h (by decide)
                       · rw [wc4] at h; exact absurd h (by decide)
                       · rw [wc5] at h; exact absurd h (by decide)
                     have hk : kW b N p = -9 := by unfold kW; rw [if_neg (hne 2 (by omega) (by omega)), if_neg (hne 3 (by omega) (by omega)), if_neg (hne 4 (by omega) (by omega)), if_neg (hne 5 (by omega) (by omega))]
                     have h := rs_no (s := s) q1 q2 (hne 1 (by omega) (by omega)) hk
                     rw [zcF h.1]
                     exact ⟨rfl, h.2⟩)) (by first | exact hn2 | exact hn114.trans hn2 | exact hn120.trans hn2 | exact hn127.trans hn2 | exact hn134.trans hn2 | exact hn141.trans hn2 | exact hn148.trans hn2)
      · exact absurd h38 (nI_ne0 hW0 (by omega))
    · have e0 : wdV b N p = 315851 := nI_is (show (315851 : Int32) = nI 315851 from rfl) (by omega) (by decide) h26
      refine px_iconst dX11_readsOne_29 ic_1 ?_
      refine px_goto 34 dX11_readsOne_30 rfl ?_
      refine px_aload_n dX11_readsOne_34 rfl rfl ?_
      refine px_getI dX11_readsOne_35 fX11_135 (xol rfl) hM rfl ?_
      refine px_top (y := nI W) (by rw [q1.2.2 18 (by omega)]; exact h18) ?_
      refine px_if_ne 45 dX11_readsOne_38 rfl (fun h38 => ?_) (fun h38 => ?_)
      · refine px_iconst dX11_readsOne_45 ic_0 ?_
        refine px_icmp_eq 54 dX11_readsOne_46 rfl (fun h46 => ?_) (fun h46 => ?_)
        · exact absurd h46 (by decide)
        · refine px_aload_n dX11_readsOne_49 rfl rfl ?_
          refine px_fV0i dX11_readsOne_50 kX11_readsOne_128 (xol rfl) hM (Nat.le_of_ble_eq_true rfl) (c_X11_fails hM) ?_
          exact px_zret dX11_readsOne_53 rfl (by first | rfl | exact zb_nar | exact zc_nar) (by
                first
                  | exact absurd rfl h46
                  | (have h0 : isW b N p 0 := (hW_ 0 (by decide)).mp (e0.trans wc0.symm)
                     have hne : ∀ i, 1 ≤ i → i < 6 → ¬ isW b N p i := fun i i1 i2 z => by
                       have h := (hW_ i i2).mpr z
                       rw [e0] at h
                       rcases (show i = 1 ∨ i = 2 ∨ i = 3 ∨ i = 4 ∨ i = 5 by omega) with rfl | rfl | rfl | rfl | rfl
                       · rw [wc1] at h; exact absurd h (by decide)
                       · rw [wc2] at h; exact absurd h (by decide)
                       · rw [wc3] at h; exact absurd h (by decide)
                       · rw [wc4] at h; exact absurd h (by decide)
                       · rw [wc5] at h; exact absurd h (by decide)
                     have hk : kW b N p = -9 := by unfold kW; rw [if_neg (hne 2 (by omega) (by omega)), if_neg (hne 3 (by omega) (by omega)), if_neg (hne 4 (by omega) (by omega)), if_neg (hne 5 (by omega) (by omega))]
                     have h := rs_no (s := s) q1 q2 (hne 1 (by omega) (by omega)) hk
                     rw [zcF h.1]
                     exact ⟨rfl, h.2⟩)) (by first | exact hn2 | exact hn114.trans hn2 | exact hn120.trans hn2 | exact hn127.trans hn2 | exact hn134.trans hn2 | exact hn141.trans hn2 | exact hn148.trans hn2)
      · exact absurd h38 (nI_ne0 hW0 (by omega))
  · have h10n : tK b N p = 1 := nI_is (show (1 : Int32) = nI 1 from rfl) (by unfold tK; (repeat' split) <;> omega) (by decide) h10
    refine px_aload_n dX11_readsOne_13 rfl rfl ?_
    refine px_iload_n dX11_readsOne_14 rfl rfl ?_
    refine px_fV1i dX11_readsOne_15 kX11_readsOne_150 (xol rfl) hM (Nat.le_of_ble_eq_true rfl) (c_X11_word (q1.r hr) hp q2 h10n) ?_
    refine px_goto 22 dX11_readsOne_18 rfl ?_
    refine px_top (y := nI (wdV b N p)) (by first | rfl | (unfold wdV; rw [if_neg h10n]; rfl)) ?_
    refine px_si_2 dX11_readsOne_22 rfl ?_
    refine px_iload_n dX11_readsOne_23 rfl rfl ?_
    refine px_ldc dX11_readsOne_24 xw1263 ?_
    refine px_icmp_ne 33 dX11_readsOne_26 rfl (fun h26 => ?_) (fun h26 => ?_)
    · have e0 : ¬ wdV b N p = 315851 := fun z => h26 (by rw [z]; rfl)
      refine px_iconst dX11_readsOne_33 ic_0 ?_
      refine px_aload_n dX11_readsOne_34 rfl rfl ?_
      refine px_getI dX11_readsOne_35 fX11_135 (xol rfl) hM rfl ?_
      refine px_top (y := nI W) (by rw [q1.2.2 18 (by omega)]; exact h18) ?_
      refine px_if_ne 45 dX11_readsOne_38 rfl (fun h38 => ?_) (fun h38 => ?_)
      · refine px_iconst dX11_readsOne_45 ic_0 ?_
        refine px_icmp_eq 54 dX11_readsOne_46 rfl (fun h46 => ?_) (fun h46 => ?_)
        · refine px_iload_n dX11_readsOne_54 rfl rfl ?_
          by_cases e1 : wdV b N p = 1302862
          · refine px_lookup (off := 63) 118 dX11_readsOne_55 (by decide) (by rw [e1]; rfl) rfl ?_
            refine px_aload_n dX11_readsOne_118 rfl rfl ?_
            refine px_iload_n dX11_readsOne_119 rfl rfl ?_
            refine px_gV1 dX11_readsOne_120 kX11_readsOne_157 (xol rfl) hM (Nat.le_of_ble_eq_true rfl) (c_X11_readsBleed (p := p) (so := s.1) (q1.r hr) hp q2.1 q2.2.1 (by rw [q1.2.2 20 (by omega)]; exact hmP.1)) (fun r120 M120 hq120 hn120 => ?_)
            obtain ⟨rfl, q3, q4, q5, q6, q7⟩ := hq120
            exact px_zret dX11_readsOne_123 rfl (by first | rfl | exact zb_nar | exact zc_nar) (by
                  have h := rs_bl hmP (fun _ z => ((nN_i (l := 0) (h := 2) (by decide) (by decide)).mp (blC_1.mpr (ff_all 2 1 z 1 (by omega) (by omega)))).2.2) q1 ((hW_ 1 (by decide)).mp (e1.trans wc1.symm)) q3 q4 q5 q6 q7
                  rw [← zc_c h.1]
                  exact ⟨rfl, h.2⟩) (by first | exact hn2 | exact hn114.trans hn2 | exact hn120.trans hn2 | exact hn127.trans hn2 | exact hn134.trans hn2 | exact hn141.trans hn2 | exact hn148.trans hn2)
          by_cases e2 : wdV b N p = 3544025
          · refine px_lookup (off := 69) 124 dX11_readsOne_55 (by decide) (by rw [e2]; rfl) rfl ?_
            refine px_aload_n dX11_readsOne_124 rfl rfl ?_
            refine px_iload_n dX11_readsOne_125 rfl rfl ?_
            refine px_iconst dX11_readsOne_126 ic_0 ?_
            refine px_gV2 dX11_readsOne_127 kX11_readsOne_160 (xol rfl) hM (Nat.le_of_ble_eq_true rfl) (c_X11_readsFrame (p := p) (n := s.2.1) (kd := nI 0) (q1.r hr) hp hmP.2.2.1 q2.1 q2.2.1 (by rw [q1.2.2 21 (by omega)]; exact hmP.2.1)) (fun r127 M127 hq127 hn127 => ?_)
            obtain ⟨rfl, q3, q4, q5, q6, q7⟩ := hq127
            exact px_zret dX11_readsOne_130 rfl (by first | rfl | exact zb_nar | exact zc_nar) (by
                  have hk : kW b N p = nI 0 := by
                    unfold kW
                    rw [if_pos ((hW_ 2 (by decide)).mp (e2.trans wc2.symm))]; rfl
                  have h := rs_fr hmP q1 (fun z => e1 (((hW_ 1 (by decide)).mpr z).trans wc1)) (by decide) hk q3 q4 q5 q6 q7
                  rw [← zc_c h.1]
                  exact ⟨rfl, h.2⟩) (by first | exact hn2 | exact hn114.trans hn2 | exact hn120.trans hn2 | exact hn127.trans hn2 | exact hn134.trans hn2 | exact hn141.trans hn2 | exact hn148.trans hn2)
          by_cases e3 : wdV b N p = 179753
          · refine px_lookup (off := 76) 131 dX11_readsOne_55 (by decide) (by rw [e3]; rfl) rfl ?_
            refine px_aload_n dX11_readsOne_131 rfl rfl ?_
            refine px_iload_n dX11_readsOne_132 rfl rfl ?_
            refine px_iconst dX11_readsOne_133 ic_1 ?_
            refine px_gV2 dX11_readsOne_134 kX11_readsOne_160 (xol rfl) hM (Nat.le_of_ble_eq_true rfl) (c_X11_readsFrame (p := p) (n := s.2.1) (kd := nI 1) (q1.r hr) hp hmP.2.2.1 q2.1 q2.2.1 (by rw [q1.2.2 21 (by omega)]; exact hmP.2.1)) (fun r134 M134 hq134 hn134 => ?_)
            obtain ⟨rfl, q3, q4, q5, q6, q7⟩ := hq134
            exact px_zret dX11_readsOne_137 rfl (by first | rfl | exact zb_nar | exact zc_nar) (by
                  have hk : kW b N p = nI 1 := by
                    unfold kW
                    rw [if_neg (fun z => e2 (((hW_ 2 (by decide)).mpr z).trans wc2)), if_pos ((hW_ 3 (by decide)).mp (e3.trans wc3.symm))]; rfl
                  have h := rs_fr hmP q1 (fun z => e1 (((hW_ 1 (by decide)).mpr z).trans wc1)) (by decide) hk q3 q4 q5 q6 q7
                  rw [← zc_c h.1]
                  exact ⟨rfl, h.2⟩) (by first | exact hn2 | exact hn114.trans hn2 | exact hn120.trans hn2 | exact hn127.trans hn2 | exact hn134.trans hn2 | exact hn141.trans hn2 | exact hn148.trans hn2)
          by_cases e4 : wdV b N p = 37026792
          · refine px_lookup (off := 83) 138 dX11_readsOne_55 (by decide) (by rw [e4]; rfl) rfl ?_
            refine px_aload_n dX11_readsOne_138 rfl rfl ?_
            refine px_iload_n dX11_readsOne_139 rfl rfl ?_
            refine px_iconst dX11_readsOne_140 ic_2 ?_
            refine px_gV2 dX11_readsOne_141 kX11_readsOne_160 (xol rfl) hM (Nat.le_of_ble_eq_true rfl) (c_X11_readsFrame (p := p) (n := s.2.1) (kd := nI 2) (q1.r hr) hp hmP.2.2.1 q2.1 q2.2.1 (by rw [q1.2.2 21 (by omega)]; exact hmP.2.1)) (fun r141 M141 hq141 hn141 => ?_)
            obtain ⟨rfl, q3, q4, q5, q6, q7⟩ := hq141
            exact px_zret dX11_readsOne_144 rfl (by first | rfl | exact zb_nar | exact zc_nar) (by
                  have hk : kW b N p = nI 2 := by
                    unfold kW
                    rw [if_neg (fun z => e2 (((hW_ 2 (by decide)).mpr z).trans wc2)), if_neg (fun z => e3 (((hW_ 3 (by decide)).mpr z).trans wc3)), if_pos ((hW_ 4 (by decide)).mp (e4.trans wc4.symm))]; rfl
                  have h := rs_fr hmP q1 (fun z => e1 (((hW_ 1 (by decide)).mpr z).trans wc1)) (by decide) hk q3 q4 q5 q6 q7
                  rw [← zc_c h.1]
                  exact ⟨rfl, h.2⟩) (by first | exact hn2 | exact hn114.trans hn2 | exact hn120.trans hn2 | exact hn127.trans hn2 | exact hn134.trans hn2 | exact hn141.trans hn2 | exact hn148.trans hn2)
          by_cases e5 : wdV b N p = 247335
          · refine px_lookup (off := 90) 145 dX11_readsOne_55 (by decide) (by rw [e5]; rfl) rfl ?_
            refine px_aload_n dX11_readsOne_145 rfl rfl ?_
            refine px_iload_n dX11_readsOne_146 rfl rfl ?_
            refine px_iconst dX11_readsOne_147 ic_3 ?_
            refine px_gV2 dX11_readsOne_148 kX11_readsOne_160 (xol rfl) hM (Nat.le_of_ble_eq_true rfl) (c_X11_readsFrame (p := p) (n := s.2.1) (kd := nI 3) (q1.r hr) hp hmP.2.2.1 q2.1 q2.2.1 (by rw [q1.2.2 21 (by omega)]; exact hmP.2.1)) (fun r148 M148 hq148 hn148 => ?_)
            obtain ⟨rfl, q3, q4, q5, q6, q7⟩ := hq148
            exact px_zret dX11_readsOne_151 rfl (by first | rfl | exact zb_nar | exact zc_nar) (by
                  have hk : kW b N p = nI 3 := by
                    unfold kW
                    rw [if_neg (fun z => e2 (((hW_ 2 (by decide)).mpr z).trans wc2)), if_neg (fun z => e3 (((hW_ 3 (by decide)).mpr z).trans wc3)), if_neg (fun z => e4 (((hW_ 4 (by decide)).mpr z).trans wc4)), if_pos ((hW_ 5 (by decide)).mp (e5.trans wc5.symm))]; rfl
                  have h := rs_fr hmP q1 (fun z => e1 (((hW_ 1 (by decide)).mpr z).trans wc1)) (by decide) hk q3 q4 q5 q6 q7
                  rw [← zc_c h.1]
                  exact ⟨rfl, h.2⟩) (by first | exact hn2 | exact hn114.trans hn2 | exact hn120.trans hn2 | exact hn127.trans hn2 | exact hn134.trans hn2 | exact hn141.trans hn2 | exact hn148.trans hn2)
          refine px_lookup (off := 97) 152 dX11_readsOne_55 (by decide) (by refine (lk_off hwl).trans ?_; rw [if_neg e3, if_neg e5, if_neg e0, if_neg e1, if_neg e2, if_neg e4]) rfl ?_
          refine px_aload_n dX11_readsOne_152 rfl rfl ?_
          refine px_fV0i dX11_readsOne_153 kX11_readsOne_128 (xol rfl) hM (Nat.le_of_ble_eq_true rfl) (c_X11_fails hM) ?_
          exact px_zret dX11_readsOne_156 rfl (by first | rfl | exact zb_nar | exact zc_nar) (by
                have hk : kW b N p = -9 := by unfold kW; rw [if_neg (fun z => e2 (((hW_ 2 (by decide)).mpr z).trans wc2)), if_neg (fun z => e3 (((hW_ 3 (by decide)).mpr z).trans wc3)), if_neg (fun z => e4 (((hW_ 4 (by decide)).mpr z).trans wc4)), if_neg (fun z => e5 (((hW_ 5 (by decide)).mpr z).trans wc5))]
                have h := rs_no (s := s) q1 q2 (fun z => e1 (((hW_ 1 (by decide)).mpr z).trans wc1)) hk
                rw [zcF h.1]
                exact ⟨rfl, h.2⟩) (by first | exact hn2 | exact hn114.trans hn2 | exact hn120.trans hn2 | exact hn127.trans hn2 | exact hn134.trans hn2 | exact hn141.trans hn2 | exact hn148.trans hn2)
        · refine px_aload_n dX11_readsOne_49 rfl rfl ?_
          refine px_fV0i dX11_readsOne_50 kX11_readsOne_128 (xol rfl) hM (Nat.le_of_ble_eq_true rfl) (c_X11_fails hM) ?_
          exact px_zret dX11_readsOne_53 rfl (by first | rfl | exact zb_nar | exact zc_nar) (by
                first
                  | exact absurd rfl h46
                  | (have h0 : isW b N p 0 := (hW_ 0 (by decide)).mp (e0.trans wc0.symm)
                     have hne : ∀ i, 1 ≤ i → i < 6 → ¬ isW b N p i := fun i i1 i2 z => by
                       have h := (hW_ i i2).mpr z
                       rw [e0] at h
                       rcases (show i = 1 ∨ i = 2 ∨ i = 3 ∨ i = 4 ∨ i = 5 by omega) with rfl | rfl | rfl | rfl | rfl
                       · rw [wc1] at h; exact absurd h (by decide)
                       · rw [wc2] at h; exact absurd h (by decide)
                       · rw [wc3] at h; exact absurd h (by decide)
                       · rw [wc4] at h; exact absurd h (by decide)
                       · rw [wc5] at h; exact absurd h (by decide)
                     have hk : kW b N p = -9 := by unfold kW; rw [if_neg (hne 2 (by omega) (by omega)), if_neg (hne 3 (by omega) (by omega)), if_neg (hne 4 (by omega) (by omega)), if_neg (hne 5 (by omega) (by omega))]
                     have h := rs_no (s := s) q1 q2 (hne 1 (by omega) (by omega)) hk
                     rw [zcF h.1]
                     exact ⟨rfl, h.2⟩)) (by first | exact hn2 | exact hn114.trans hn2 | exact hn120.trans hn2 | exact hn127.trans hn2 | exact hn134.trans hn2 | exact hn141.trans hn2 | exact hn148.trans hn2)
      · exact absurd h38 (nI_ne0 hW0 (by omega))
    · have e0 : wdV b N p = 315851 := nI_is (show (315851 : Int32) = nI 315851 from rfl) (by omega) (by decide) h26
      refine px_iconst dX11_readsOne_29 ic_1 ?_
      refine px_goto 34 dX11_readsOne_30 rfl ?_
      refine px_aload_n dX11_readsOne_34 rfl rfl ?_
      refine px_getI dX11_readsOne_35 fX11_135 (xol rfl) hM rfl ?_
      refine px_top (y := nI W) (by rw [q1.2.2 18 (by omega)]; exact h18) ?_
      refine px_if_ne 45 dX11_readsOne_38 rfl (fun h38 => ?_) (fun h38 => ?_)
      · refine px_iconst dX11_readsOne_45 ic_0 ?_
        refine px_icmp_eq 54 dX11_readsOne_46 rfl (fun h46 => ?_) (fun h46 => ?_)
        · exact absurd h46 (by decide)
        · refine px_aload_n dX11_readsOne_49 rfl rfl ?_
          refine px_fV0i dX11_readsOne_50 kX11_readsOne_128 (xol rfl) hM (Nat.le_of_ble_eq_true rfl) (c_X11_fails hM) ?_
          exact px_zret dX11_readsOne_53 rfl (by first | rfl | exact zb_nar | exact zc_nar) (by
                first
                  | exact absurd rfl h46
                  | (have h0 : isW b N p 0 := (hW_ 0 (by decide)).mp (e0.trans wc0.symm)
                     have hne : ∀ i, 1 ≤ i → i < 6 → ¬ isW b N p i := fun i i1 i2 z => by
                       have h := (hW_ i i2).mpr z
                       rw [e0] at h
                       rcases (show i = 1 ∨ i = 2 ∨ i = 3 ∨ i = 4 ∨ i = 5 by omega) with rfl | rfl | rfl | rfl | rfl
                       · rw [wc1] at h; exact absurd h (by decide)
                       · rw [wc2] at h; exact absurd h (by decide)
                       · rw [wc3] at h; exact absurd h (by decide)
                       · rw [wc4] at h; exact absurd h (by decide)
                       · rw [wc5] at h; exact absurd h (by decide)
                     have hk : kW b N p = -9 := by unfold kW; rw [if_neg (hne 2 (by omega) (by omega)), if_neg (hne 3 (by omega) (by omega)), if_neg (hne 4 (by omega) (by omega)), if_neg (hne 5 (by omega) (by omega))]
                     have h := rs_no (s := s) q1 q2 (hne 1 (by omega) (by omega)) hk
                     rw [zcF h.1]
                     exact ⟨rfl, h.2⟩)) (by first | exact hn2 | exact hn114.trans hn2 | exact hn120.trans hn2 | exact hn127.trans hn2 | exact hn134.trans hn2 | exact hn141.trans hn2 | exact hn148.trans hn2)
      · exact absurd h38 (nI_ne0 hW0 (by omega))
