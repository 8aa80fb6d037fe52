/-! ===== fault and sheet, class ===== -/
theorem lp_b {b : Nat → Int32} {N : Nat} : ∀ k s j, j ≤ N → (lp b N k s j).1 ≤ N
  | 0, s, j, h => by
    show (j, _).1 ≤ N
    exact h
  | k + 1, s, j, h => by
    by_cases h1 : tK b N j = 0
    · rw [lp_e h1]; exact h
    · by_cases h2 : stO b N s j
      · rw [lp_s h1 h2]; exact lp_b k _ _ (stJ_b h)
      · rw [lp_f h1 h2]; exact stJ_b h
theorem pgJ_b {b : Nat → Int32} {N : Nat} : pgJ b N 0 ≤ N := by
  unfold pgJ
  by_cases h : isW b N 0 0
  · rw [if_pos h]; exact ps_le (Nat.zero_le N) _
  · rw [if_neg h]; exact Nat.zero_le N
theorem flR_b {b : Nat → Int32} {N : Nat} : (flR b N).1 ≤ N := by
  unfold flR
  by_cases h : isW b N 0 0 ∧ ff (pgC b N 0) 3 1 = 4
  · rw [if_pos h]; exact lp_b _ _ _ pgJ_b
  · rw [if_neg h]; exact pgJ_b
/-- a sheet: frames, width, height, bleed, what is given -/
abbrev aSh : Type := Nat × Nat × Nat × Nat × (Nat → Nat → Nat)
noncomputable def shQ (b : Nat → Int32) (N : Nat) : Nat × Option pSt → Int32 × Option aSh
  | (_, none) => (-4, none)
  | (_, some s) => if s.2.1 = 0 then (-4, none) else (nI s.2.1, some (s.2.1, vv b N 0 1, vv b N 0 2, s.1.getD 0, s.2.2))
theorem fl_9 {b : Nat → Int32} {N : Nat} (hN : N ≤ 120) : (flQ b N (flR b N) = -9 ↔ ∃ j s, flR b N = (j, some s) ∧ ¬ s.2.1 = 0) := by
  have hb := flR_b (b := b) (N := N)
  rcases e : flR b N with ⟨j, _ | s⟩
  · rw [e] at hb
    have := (tF_b (b := b) (show j ≤ N from hb)).2
    exact ⟨fun z => absurd z (nI_ne9 (by omega)), fun ⟨j', s', z, _⟩ => absurd (congrArg Prod.snd z) (fun w => (by cases w))⟩
  · rw [e] at hb
    have := (tF_b (b := b) (show j ≤ N from hb)).2
    by_cases h : s.2.1 = 0
    · refine ⟨fun z => ?_, fun ⟨j', s', z, y⟩ => ?_⟩
      · rw [show flQ b N (j, some s) = nI (tF b N j) from if_pos h] at z
        exact absurd z (nI_ne9 (by omega))
      · have w := Option.some.inj (congrArg Prod.snd z)
        rw [← w] at y
        exact absurd h y
    · exact ⟨fun _ => ⟨j, s, rfl, h⟩, fun _ => if_neg h⟩
theorem shQ_n {b : Nat → Int32} {N : Nat} (h : ¬ ∃ j s, flR b N = (j, some s) ∧ ¬ s.2.1 = 0) : shQ b N (flR b N) = (-4, none) := by
  rcases e : flR b N with ⟨j, _ | s⟩
  · rfl
  · by_cases h0 : s.2.1 = 0
    · exact if_pos h0
    · exact absurd ⟨j, s, e, h0⟩ h
noncomputable def aFau (z : Int32) (b : Nat → Int32) (v : Int32) : Int32 × Option Int32 := if ¬ (0 ≤ v ∧ v < 4) then (-1, none) else if z = -1 then (-3, some 1) else (flQ b z.toNatClampNeg (flR b z.toNatClampNeg), none)
noncomputable def aShe (z : Int32) (b : Nat → Int32) (v : Int32) : Int32 × Option Int32 × Option aSh := if ¬ (0 ≤ v ∧ v < 4) then (-1, none, none) else if z = -1 then (-3, some 1, none) else ((shQ b z.toNatClampNeg (flR b z.toNatClampNeg)).1, none, (shQ b z.toNatClampNeg (flR b z.toNatClampNeg)).2)
def fo0 (d : Nat) (M m : xMem) : Prop := m.2.2 = M.2.2 ∧ (∀ a j, (a ≠ 10 ∨ j ≠ 1) → m.2.1 a j = M.2.1 a j) ∧ ∀ c, c ≠ 10 → (c < d ∨ d + 9 < c) → m.1 c = M.1 c
def fo1 (d : Nat) (M m : xMem) : Prop := m.2.2 = M.2.2 ∧ (∀ a j, (a ≠ 10 ∨ 1 < j) → (a ≠ 1 ∨ j ≠ 10) → m.2.1 a j = M.2.1 a j) ∧ ∀ c, c ≠ 10 → (c < 5 ∨ 9 < c) → (c < d ∨ d + 9 < c) → m.1 c = M.1 c
theorem fo0rf (d : Nat) (M : xMem) : fo0 d M M := ⟨rfl, fun _ _ _ => rfl, fun _ _ _ => rfl⟩
theorem foS0 {d a : Nat} {M m : xMem} (h : foS d a M m) : fo0 d M m := ⟨by rw [h.1]; rfl, fun c j q => by rw [h.1]; exact if_neg (fun z => by omega), h.2⟩

set_option maxRecDepth 100000 in
theorem c_X3_exchangeDraft {E : xE} {M : xMem} {d s : Nat} (hM : xNT ≤ xN M) (hd0 : 0 < d) (hs0 : 0 < s) (hdr : M.2.1 10 0 = d) : Cf E mX3_exchangeDraft [.ref 10, .ref s] M (some (.ref d)) (wR M 10 0 s) := by
  refine Ct.of (lo := [some (.ref 10), some (.ref s), none]) pln_X3 (Nat.le_of_ble_eq_true rfl) rfl (Nat.le_refl _) ?_
  refine px_aload_n dX3_exchangeDraft_0 rfl rfl ?_
  refine px_getR dX3_exchangeDraft_1 fX3_12 (xol rfl) hM rfl (by assumption) (by assumption) ?_
  refine px_sa_2 dX3_exchangeDraft_4 rfl ?_
  refine px_aload_n dX3_exchangeDraft_5 rfl rfl ?_
  refine px_aload_n dX3_exchangeDraft_6 rfl rfl ?_
  refine px_putR dX3_exchangeDraft_7 fX3_12 p3_0 (xol rfl) hM rfl (by first | assumption | exact Nat.succ_pos _ | omega) (fun _ => rfl) (fun _ => rfl) ?_
  refine px_aload_n dX3_exchangeDraft_10 rfl rfl ?_
  exact px_aret dX3_exchangeDraft_11 rfl ⟨rfl, rfl⟩ (rfl)

set_option maxRecDepth 100000 in
theorem c_X10_fault {E : xE} {M : xMem} {d : Nat} (hM : xNT ≤ xN M) (hW : xWire M.2.1) (hdr : M.2.1 10 0 = d) (hd : xob d 7) (hz : szOK M) {v : Int32} : Ct E mX10_fault [.ref 1, .int v] M (xN M) (fun r m => r = some (.int (aFau (M.1 (tA v) 1) (M.1 (tA v + 1)) v).1) ∧ fo0 d (oC M none (aFau (M.1 (tA v) 1) (M.1 (tA v + 1)) v).2) m) := by
  refine Ct.of (lo := [some (.ref 1), some (.int v)]) pln_X10 (Nat.le_of_ble_eq_true rfl) rfl (Nat.le_refl _) ?_
  refine px_iload_n dX10_fault_0 rfl rfl ?_
  refine px_iconst dX10_fault_1 ic_4 ?_
  refine px_fS2i dX10_fault_2 kX10_fault_84 (Nat.le_of_ble_eq_true rfl) (c_X10_isBelow) ?_
  refine px_zif_ne 10 dX10_fault_5 rfl (fun h5 => ?_) (fun h5 => ?_)
  · have tl : v.toNatClampNeg < 4 := r_lt (k := 4) rfl h5
    have htx : xob (tA v) 9 := ob_text tl
    refine px_aload_n dX10_fault_10 rfl rfl ?_
    refine px_getR dX10_fault_11 fX10_17 (xol rfl) hM rfl (wr_10_1 hW (xol rfl)) (Nat.succ_pos _) ?_
    refine px_iload_n dX10_fault_14 rfl rfl ?_
    refine px_aald (t0 := 4) dX10_fault_15 (xal (n := 4) rfl) (by decide) (fun _ => rfl) hM (i_idx h5.1 h5.2 (by decide)) (wa_3 hW tl) (by omega) ?_
    refine px_fV0i dX10_fault_16 kX10_fault_123 htx hM (Nat.le_of_ble_eq_true rfl) (c_X9_isMissing htx hM) ?_
    refine px_zif_eq 28 dX10_fault_19 rfl (fun h19 => ?_) (fun h19 => ?_)
    · obtain ⟨N, hN, eN⟩ := sz_pos (hz.2 _ tl) h19
      have hNc : (M.1 (tA v) 1).toNatClampNeg = N := by rw [eN, nI_clamp (by omega)]
      refine px_aload_n dX10_fault_28 rfl rfl ?_
      refine px_getR dX10_fault_29 fX10_39 (xol rfl) hM rfl (wr_10_5 hW (xol rfl)) (Nat.succ_pos _) ?_
      refine px_aload_n dX10_fault_32 rfl rfl ?_
      refine px_getR dX10_fault_33 fX10_17 (xol rfl) hM rfl (wr_10_1 hW (xol rfl)) (Nat.succ_pos _) ?_
      refine px_iload_n dX10_fault_36 rfl rfl ?_
      refine px_aald (t0 := 4) dX10_fault_37 (xal (n := 4) rfl) (by decide) (fun _ => rfl) hM (i_idx h5.1 h5.2 (by decide)) (wa_3 hW tl) (by omega) ?_
      refine px_gV1 dX10_fault_38 kX10_fault_129 (xol rfl) hM (Nat.le_of_ble_eq_true rfl) (c_X3_faultOf (b := M.1 (tA v + 1)) hM hW hdr hd htx eN hN (fun i _ => rfl)) (fun r38 M38 hq38 hn38 => ?_)
      obtain ⟨rfl, q1, q2⟩ := hq38
      exact px_iret dX10_fault_41 rfl (by rw [show aFau (M.1 (tA v) 1) (M.1 (tA v + 1)) v = (flQ (M.1 (tA v + 1)) N (flR (M.1 (tA v + 1)) N), none) from by unfold aFau; rw [if_neg (not_not_intro h5), if_neg h19, hNc]]; exact ⟨rfl, foS0 q1⟩) (by first | rfl | exact hn38)
    · refine px_aload_n dX10_fault_22 rfl rfl ?_
      refine px_iconst dX10_fault_23 ic_1 ?_
      refine px_fV1i dX10_fault_24 kX10_fault_88 (xol rfl) hM (Nat.le_of_ble_eq_true rfl) (c_X10_refuse hM hW (vp_in_nI (n := 1) (by decide) (by decide))) ?_
      exact px_iret dX10_fault_27 rfl (by rw [show aFau (M.1 (tA v) 1) (M.1 (tA v + 1)) v = (-3, some 1) from by unfold aFau; rw [if_neg (not_not_intro h5), if_pos h19]]; exact ⟨rfl, fo0rf _ _⟩) (by first | rfl | exact hn38)
  · refine px_iconst dX10_fault_8 ic_m1 ?_
    exact px_iret dX10_fault_9 rfl (by rw [show aFau (M.1 (tA v) 1) (M.1 (tA v + 1)) v = (-1, none) from if_pos h5]; exact ⟨rfl, fo0rf _ _⟩) (by first | rfl | exact hn38)

set_option maxRecDepth 100000 in
theorem l_sh73 {E : xE} {M : xMem} {s n : Nat} {v : Int32} {QQ : Option Value → xMem → Prop} (hM : xNT ≤ xN M) (hW : xWire M.2.1) (hs : xob s 7) (hcu : M.2.1 1 10 = s) (en : M.1 s 1 = nI n) (kf : ∀ m, m.2 = M.2 → (∀ a, a ≠ 5 → m.1 a = M.1 a) → (∀ k, k < 3 → m.1 5 k = 0) → QQ (some (.int (nI n))) m) : ∀ m, m.2 = M.2 → (∀ a, a ≠ 5 → m.1 a = M.1 a) → (∀ k, k < 0 → m.1 5 k = 0) → PR E mX10_sheet (xN M) 73 [some (.ref 1), some (.int v), some (.int (nI 0))] [] (m) (QQ) := by
  have hp0 : 0 < s := hs.1
  have hs7 := xob_7 hs
  refine px_for (P := fun i => ∀ m, m.2 = M.2 → (∀ a, a ≠ 5 → m.1 a = M.1 a) → (∀ k, k < i → m.1 5 k = 0) → PR E mX10_sheet (xN M) 73 [some (.ref 1), some (.int v), some (.int (nI i))] [] (m) (QQ)) (3) (fun i hi nx => ?_) (0) (Nat.zero_le _)
  intro m g1 g2 g3
  have hnm : xN m = xN M := by show m.2.2.2 = M.2.2.2; rw [g1]
  have hM : xNT ≤ xN m := by rw [hnm]; exact hM
  have hW : xWire m.2.1 := by rw [g1]; exact hW
  have hcu : m.2.1 1 10 = s := by rw [g1]; exact hcu
  refine px_iload_n dX10_sheet_73 rfl rfl ?_
  refine px_iconst dX10_sheet_74 ic_3 ?_
  refine px_icmp_ge 91 dX10_sheet_75 rfl (fun h75 => ?_) (fun h75 => ?_)
  · have hi2 : i = 3 := by rw [show (3 : Int32) = nI 3 from rfl, nI_leI (by omega) (by omega)] at h75; omega
    refine px_aload_n dX10_sheet_91 rfl rfl ?_
    refine px_getR dX10_sheet_92 fX10_71 (xol rfl) hM rfl (by assumption) (by assumption) ?_
    refine px_getI dX10_sheet_95 fX10_140 hs hM rfl ?_
    refine px_top (y := nI n) (by rw [g2 s (by omega)]; exact en) ?_
    exact px_iret dX10_sheet_98 rfl (kf _ g1 g2 (fun k hk => g3 k (by omega))) (hnm)
  · have hlt : i < 3 := by rw [show (3 : Int32) = nI 3 from rfl, nI_leI (by omega) (by omega)] at h75; omega
    refine px_aload_n dX10_sheet_78 rfl rfl ?_
    refine px_getR dX10_sheet_79 fX10_27 (xol rfl) hM rfl (wr_10_3 hW (xol rfl)) (Nat.succ_pos _) ?_
    refine px_iload_n dX10_sheet_82 rfl rfl ?_
    refine px_iconst dX10_sheet_83 ic_0 ?_
    refine px_zast dX10_sheet_84 (xal (n := 3) rfl) hM (vp_in_nI (by omega) (by decide)) ?_
    refine px_inc_2 dX10_sheet_85 rfl ic_1 ?_
    refine px_goto 73 dX10_sheet_88 rfl ?_
    exact px_eq (by rw [nI_1]) rfl (nx hlt _ g1 (fun a a1 => by rw [← g2 a a1]; funext i; rw [xI_wI, if_neg (fun z => a1 z.1)]) (fun k hk => by rw [nI_clamp (by omega), xI_wI]; by_cases z : k = i; (rw [if_pos ⟨rfl, z⟩]; rfl); (rw [if_neg (fun y => z y.2)]; exact g3 k (by omega))))

set_option maxRecDepth 100000 in
theorem c_X10_sheet {E : xE} {M : xMem} {d : Nat} (hM : xNT ≤ xN M) (hW : xWire M.2.1) (hdr : M.2.1 10 0 = d) (hd : xob d 7) {s : Nat} (hs : xob s 7) (hcu : M.2.1 1 10 = s) (hz : szOK M) {v : Int32} : Ct E mX10_sheet [.ref 1, .int v] M (xN M) (fun r m => r = some (.int (aShe (M.1 (tA v) 1) (M.1 (tA v + 1)) v).1) ∧ ((aShe (M.1 (tA v) 1) (M.1 (tA v + 1)) v).2.2 = none → fo0 d (oC M none (aShe (M.1 (tA v) 1) (M.1 (tA v + 1)) v).2.1) m) ∧ ∀ q, (aShe (M.1 (tA v) 1) (M.1 (tA v + 1)) v).2.2 = some q → (aShe (M.1 (tA v) 1) (M.1 (tA v + 1)) v).2.1 = none ∧ okSh q.1 q.2.1 q.2.2.1 q.2.2.2.1 q.2.2.2.2 ∧ cSh m d q.1 q.2.1 q.2.2.1 q.2.2.2.1 q.2.2.2.2 ∧ 0 < q.1 ∧ m.2.1 1 10 = d ∧ m.2.1 10 0 = s ∧ (∀ P, stC m 6 0 (fun _ => none, 0) P) ∧ (∀ k, k < 3 → m.1 5 k = 0) ∧ fo1 d M m) := by
  have hp0 : 0 < s := hs.1
  have hd0 : 0 < d := hd.1
  have hd7 := xob_7 hd
  refine Ct.of (lo := [some (.ref 1), some (.int v), none]) pln_X10 (Nat.le_of_ble_eq_true rfl) rfl (Nat.le_refl _) ?_
  refine px_iload_n dX10_sheet_0 rfl rfl ?_
  refine px_iconst dX10_sheet_1 ic_4 ?_
  refine px_fS2i dX10_sheet_2 kX10_sheet_84 (Nat.le_of_ble_eq_true rfl) (c_X10_isBelow) ?_
  refine px_zif_ne 10 dX10_sheet_5 rfl (fun h5 => ?_) (fun h5 => ?_)
  · have tl : v.toNatClampNeg < 4 := r_lt (k := 4) rfl h5
    have htx : xob (tA v) 9 := ob_text tl
    refine px_aload_n dX10_sheet_10 rfl rfl ?_
    refine px_getR dX10_sheet_11 fX10_17 (xol rfl) hM rfl (wr_10_1 hW (xol rfl)) (Nat.succ_pos _) ?_
    refine px_iload_n dX10_sheet_14 rfl rfl ?_
    refine px_aald (t0 := 4) dX10_sheet_15 (xal (n := 4) rfl) (by decide) (fun _ => rfl) hM (i_idx h5.1 h5.2 (by decide)) (wa_3 hW tl) (by omega) ?_
    refine px_fV0i dX10_sheet_16 kX10_sheet_123 htx hM (Nat.le_of_ble_eq_true rfl) (c_X9_isMissing htx hM) ?_
    refine px_zif_eq 28 dX10_sheet_19 rfl (fun h19 => ?_) (fun h19 => ?_)
    · obtain ⟨N, hN, eN⟩ := sz_pos (hz.2 _ tl) h19
      have hNc : (M.1 (tA v) 1).toNatClampNeg = N := by rw [eN, nI_clamp (by omega)]
      have e3 : aShe (M.1 (tA v) 1) (M.1 (tA v + 1)) v = ((shQ (M.1 (tA v + 1)) N (flR (M.1 (tA v + 1)) N)).1, none, (shQ (M.1 (tA v + 1)) N (flR (M.1 (tA v + 1)) N)).2) := by unfold aShe; rw [if_neg (not_not_intro h5), if_neg h19, hNc]
      refine px_aload_n dX10_sheet_28 rfl rfl ?_
      refine px_getR dX10_sheet_29 fX10_39 (xol rfl) hM rfl (wr_10_5 hW (xol rfl)) (Nat.succ_pos _) ?_
      refine px_aload_n dX10_sheet_32 rfl rfl ?_
      refine px_getR dX10_sheet_33 fX10_17 (xol rfl) hM rfl (wr_10_1 hW (xol rfl)) (Nat.succ_pos _) ?_
      refine px_iload_n dX10_sheet_36 rfl rfl ?_
      refine px_aald (t0 := 4) dX10_sheet_37 (xal (n := 4) rfl) (by decide) (fun _ => rfl) hM (i_idx h5.1 h5.2 (by decide)) (wa_3 hW tl) (by omega) ?_
      refine px_gV1 dX10_sheet_38 kX10_sheet_129 (xol rfl) hM (Nat.le_of_ble_eq_true rfl) (c_X3_faultOf (b := M.1 (tA v + 1)) hM hW hdr hd htx eN hN (fun i _ => rfl)) (fun r38 M38 hq38 hn38 => ?_)
      obtain ⟨rfl, q1, q2⟩ := hq38
      have hM : xNT ≤ xN M38 := by rw [hn38]; exact hM
      have hW : xWire M38.2.1 := wire_c hW (fun c j c1 _ => by rw [q1.1]; exact if_neg (fun z => c1 z.1))
      have hcu : M38.2.1 1 10 = s := by rw [q1.1]; exact hcu
      have hdr : M38.2.1 10 0 = d := by rw [q1.1]; exact hdr
      refine px_bipush dX10_sheet_41 bp_m9 ?_
      refine px_icmp_eq 49 dX10_sheet_43 rfl (fun h43 => ?_) (fun h43 => ?_)
      · obtain ⟨j, u, eR, hu⟩ := (fl_9 (b := M.1 (tA v + 1)) hN).mp h43
        obtain ⟨q3, q4⟩ := q2 j u eR hu
        refine px_aload_n dX10_sheet_49 rfl rfl ?_
        refine px_aload_n dX10_sheet_50 rfl rfl ?_
        refine px_getR dX10_sheet_51 fX10_39 (xol rfl) hM rfl (wr_10_5 hW (xol rfl)) (Nat.succ_pos _) ?_
        refine px_aload_n dX10_sheet_54 rfl rfl ?_
        refine px_getR dX10_sheet_55 fX10_71 (xol rfl) hM rfl (by assumption) (by assumption) ?_
        refine px_fV1i dX10_sheet_58 kX10_sheet_133 (xol rfl) hM (Nat.le_of_ble_eq_true rfl) (c_X3_exchangeDraft hM hd0 hp0 hdr) ?_
        refine px_putR dX10_sheet_61 fX10_71 p10_10 (xol rfl) hM rfl (by first | assumption | exact Nat.succ_pos _ | omega) (fun _ => rfl) (fun _ => rfl) ?_
        have hW : xWire (wR (wR M38 10 0 s) 1 10 d).2.1 := wire_c hW (fun c j c1 c2 => by rw [xR_wR, if_neg (fun z => by omega), xR_wR, if_neg (fun z => by omega)])
        refine px_aload_n dX10_sheet_64 rfl rfl ?_
        refine px_getR dX10_sheet_65 fX10_32 (xol rfl) hM rfl (wr_10_4 hW (xol rfl)) (Nat.succ_pos _) ?_
        refine px_fV0v dX10_sheet_68 kX10_sheet_137 (xol rfl) hM (Nat.le_of_ble_eq_true rfl) (c_X8_start (a := 6) (xol rfl) hM hW) ?_
        refine px_iconst dX10_sheet_71 ic_0 ?_
        refine px_si_2 dX10_sheet_72 rfl ?_
        have eq3 : aShe (M.1 (tA v) 1) (M.1 (tA v + 1)) v = (nI u.2.1, none, some (u.2.1, vv (M.1 (tA v + 1)) N 0 1, vv (M.1 (tA v + 1)) N 0 2, u.1.getD 0, u.2.2)) := by rw [e3, eR]; show ((if _ then _ else _ : Int32 × Option aSh).1, none, (if _ then _ else _ : Int32 × Option aSh).2) = _; rw [if_neg hu]
        have e6 : ∀ c, (c < 6 ∨ 9 < c) → (stStart (wR (wR M38 10 0 s) 1 10 d) 6).1 c = M38.1 c := fun c hc => by funext i; rw [xI_wI, if_neg (fun z => by omega), xI_wI, if_neg (fun z => by omega), xI_wF, if_neg (by omega)]; rfl
        have hx := l_sh73 (E := E) (M := stStart (wR (wR M38 10 0 s) 1 10 d) 6) (s := d) (n := u.2.1) (v := v) (QQ := fun r m => r = some (.int (aShe (M.1 (tA v) 1) (M.1 (tA v + 1)) v).1) ∧ ((aShe (M.1 (tA v) 1) (M.1 (tA v + 1)) v).2.2 = none → fo0 d (oC M none (aShe (M.1 (tA v) 1) (M.1 (tA v + 1)) v).2.1) m) ∧ ∀ q, (aShe (M.1 (tA v) 1) (M.1 (tA v + 1)) v).2.2 = some q → (aShe (M.1 (tA v) 1) (M.1 (tA v + 1)) v).2.1 = none ∧ okSh q.1 q.2.1 q.2.2.1 q.2.2.2.1 q.2.2.2.2 ∧ cSh m d q.1 q.2.1 q.2.2.1 q.2.2.2.1 q.2.2.2.2 ∧ 0 < q.1 ∧ m.2.1 1 10 = d ∧ m.2.1 10 0 = s ∧ (∀ P, stC m 6 0 (fun _ => none, 0) P) ∧ (∀ k, k < 3 → m.1 5 k = 0) ∧ fo1 d M m) hM hW hd rfl (by rw [e6 d (by omega)]; exact q4.1)
          (fun m g1 g2 g3 => by
            rw [eq3]
            refine ⟨rfl, fun z => absurd z (fun w => (by cases w)), fun q z => ?_⟩
            have w := Option.some.inj z
            rw [← w]
            have em : ∀ c, (c < 5 ∨ 9 < c) → m.1 c = M38.1 c := fun c hc => by rw [g2 c (by omega), e6 c (by omega)]
            refine ⟨rfl, q3, ⟨by rw [em d (by omega)]; exact q4.1, by rw [em d (by omega)]; exact q4.2.1, by rw [em d (by omega)]; exact q4.2.2.1, by rw [em d (by omega)]; exact q4.2.2.2.1, fun f hf k hk => by rw [em (fA d f) (show d + 1 + 1 + f < 5 ∨ 9 < d + 1 + 1 + f by omega)]; exact q4.2.2.2.2 f hf k hk⟩, Nat.pos_of_ne_zero hu, by rw [g1]; rfl, by rw [g1]; rfl, fun P => ⟨by rw [g2 6 (by decide)]; rfl, by omega, ⟨fun f hf _ => by rw [g2 (6 + 2) (by decide)]; exact if_pos hf, fun f p x y t hf e => absurd e (fun w => (by cases w))⟩, by rw [g2 (6 + 1) (by decide)]; rfl, fun i hi => absurd hi (Nat.not_lt_zero i)⟩, g3, ?_⟩
            refine ⟨by rw [g1]; show M38.2.2 = M.2.2; rw [q1.1]; rfl, fun a j a1 a2 => ?_, fun c c1 c2 c3 => by rw [em c c2, q1.2 c c1 c3]⟩
            rw [g1]
            show (wR (wR M38 10 0 s) 1 10 d).2.1 a j = M.2.1 a j
            rw [xR_wR, if_neg (fun z => by omega), xR_wR, if_neg (fun z => by omega), q1.1]
            exact if_neg (fun z => by omega))
          _ rfl (fun _ _ => rfl) (fun k hk => absurd hk (Nat.not_lt_zero k))
        rw [show xN (stStart (wR (wR M38 10 0 s) 1 10 d) 6) = xN M from hn38] at hx
        exact hx
      · refine px_bipush dX10_sheet_46 bp_m4 ?_
        exact px_iret dX10_sheet_48 rfl (by rw [e3, shQ_n (fun z => h43 ((fl_9 hN).mpr z))]; exact ⟨rfl, fun _ => foS0 q1, fun q z => absurd z (fun w => (by cases w))⟩) (by first | rfl | exact hn38)
    · refine px_aload_n dX10_sheet_22 rfl rfl ?_
      refine px_iconst dX10_sheet_23 ic_1 ?_
      refine px_fV1i dX10_sheet_24 kX10_sheet_88 (xol rfl) hM (Nat.le_of_ble_eq_true rfl) (c_X10_refuse hM hW (vp_in_nI (n := 1) (by decide) (by decide))) ?_
      exact px_iret dX10_sheet_27 rfl (by rw [show aShe (M.1 (tA v) 1) (M.1 (tA v + 1)) v = (-3, some 1, none) from by unfold aShe; rw [if_neg (not_not_intro h5), if_pos h19]]; exact ⟨rfl, fun _ => fo0rf _ _, fun q z => absurd z (fun w => (by cases w))⟩) (by first | rfl | exact hn38)
  · refine px_iconst dX10_sheet_8 ic_m1 ?_
    exact px_iret dX10_sheet_9 rfl (by rw [show aShe (M.1 (tA v) 1) (M.1 (tA v + 1)) v = (-1, none, none) from if_pos h5]; exact ⟨rfl, fun _ => fo0rf _ _, fun q z => absurd z (fun w => (by cases w))⟩) (by first | rfl | exact hn38)
