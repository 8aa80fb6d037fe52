/-! ===== fault and sheet, reference ===== -/
theorem nI_nn {n : Nat} (h : n < 2 ^ 31) : 0 ≤ nI n := by rw [show (0 : Int32) = nI 0 from rfl, nI_leI (by decide) h]; exact Nat.zero_le _
def txH (M : xMem) (z : Int32) (b : Nat → Int32) (v : Int32) : Prop := 0 ≤ v ∧ v < 4 → (z = -1 ∨ ∃ N, N ≤ 120 ∧ z = nI N) ∧ M.1 79 v.toNatClampNeg = z ∧ ∀ i, i < z.toNatClampNeg → M.1 80 (120 * v.toNatClampNeg + i) = b i
theorem tx_n {M : xMem} {z : Int32} {b : Nat → Int32} {v : Int32} (h : txH M z b v) (hv : 0 ≤ v ∧ v < 4) (h0 : ¬ 0 ≤ M.1 79 v.toNatClampNeg) : z = -1 := by
  obtain ⟨h1, h2, _⟩ := h hv
  rcases h1 with e | ⟨N, hN, e⟩
  · exact e
  · rw [h2, e] at h0
    exact absurd (nI_nn (by omega)) h0
theorem tx_s {M : xMem} {z : Int32} {b : Nat → Int32} {t : Nat} (hM : xNT ≤ xN M) (hW : xWire M.2.1) (ht : t < 4) (h : txH M z b (nI t)) (hv : 0 ≤ nI t ∧ nI t < 4) (h0 : 0 ≤ M.1 79 (nI t).toNatClampNeg) : ¬ z = -1 ∧ z.toNatClampNeg ≤ 120 ∧ mrd M t z.toNatClampNeg b := by
  obtain ⟨h1, h2, h3⟩ := h hv
  have et : (nI t).toNatClampNeg = t := nI_clamp (by omega)
  rw [et] at h2 h3
  rw [et] at h0
  have hz : ¬ z = -1 := fun e => by rw [h2, e] at h0; exact absurd h0 (by decide)
  rcases h1 with e | ⟨N, hN, e⟩
  · exact absurd e hz
  · have ec : z.toNatClampNeg = N := by rw [e, nI_clamp (by omega)]
    exact ⟨hz, by omega, hM, hW, ht, by rw [h2, ec]; exact e, by omega, h3⟩
theorem bl_p {m : xMem} {s : pSt} (h : mP m s) (g : 0 ≤ m.1 74 20) : m.1 74 20 = nI (s.1.getD 0) := by
  obtain ⟨⟨h1, h2⟩, _⟩ := h
  rcases e : s.1 with _ | B
  · rw [h1 e] at g; exact absurd g (by decide)
  · exact (h2 B e).1
theorem bl_n {m : xMem} {s : pSt} (h : mP m s) (g : ¬ 0 ≤ m.1 74 20) : 0 = nI (s.1.getD 0) := by
  obtain ⟨⟨h1, h2⟩, _⟩ := h
  rcases e : s.1 with _ | B
  · rfl
  · rw [(h2 B e).1] at g
    exact absurd (nI_nn (by have := (h2 B e).2; omega)) g
def ro1 (M m : xMem) : Prop := m.2 = M.2 ∧ (∀ a, a ≠ 74 → (a < 81 ∨ 83 < a) → a ≠ 91 → m.1 a = M.1 a) ∧ ∀ k, (k < 8 ∨ 21 < k) → k ≠ 36 → m.1 74 k = M.1 74 k

set_option maxRecDepth 100000 in
theorem c_X11_fault {E : xE} {M : xMem} (hM : xNT ≤ xN M) (hW : xWire M.2.1) {z v : Int32} {b : Nat → Int32} (hz : txH M z b v) : Ct E mX11_fault [.ref 74, .int v] M (xN M) (fun r m => r = some (.int (aFau z b v).1) ∧ mpS (oR M none (aFau z b v).2) m) := by
  have hiv : (0 ≤ v ∧ v ≤ 3) ↔ (0 ≤ v ∧ v < 4) := in_l2 (n := 4) (c := 3) (by decide) rfl
  refine Ct.of (lo := [some (.ref 74), some (.int v)]) pln_X11 (Nat.le_of_ble_eq_true rfl) rfl (Nat.le_refl _) ?_
  refine px_iload_n dX11_fault_0 rfl rfl ?_
  refine px_fS1i dX11_fault_1 kX11_fault_94 (Nat.le_of_ble_eq_true rfl) (c_X11_isText) ?_
  refine px_zif_ne 11 dX11_fault_4 rfl (fun h4 => ?_) (fun h4 => ?_)
  · obtain ⟨t, ht, rfl⟩ := in_nat (n := 4) (by decide) (show 0 ≤ v ∧ v < nI 4 from hiv.mp h4)
    have hti : vp_in (nI t) 4 := vp_in_nI ht (by decide)
    refine px_aload_n dX11_fault_11 rfl rfl ?_
    refine px_getR dX11_fault_12 fX11_22 (xol rfl) hM rfl (wr_11_6 hW (xol rfl)) (Nat.succ_pos _) ?_
    refine px_iload_n dX11_fault_15 rfl rfl ?_
    refine px_iald dX11_fault_16 (xal (n := 4) rfl) hM hti ?_
    refine px_if_ge 28 dX11_fault_17 rfl (fun h17 => ?_) (fun h17 => ?_)
    · obtain ⟨z1, z2, hr⟩ := tx_s hM hW ht hz (hiv.mp h4) h17
      generalize hNz : z.toNatClampNeg = N at z2 hr
      refine px_aload_n dX11_fault_28 rfl rfl ?_
      refine px_iload_n dX11_fault_29 rfl rfl ?_
      refine px_gV1 dX11_fault_30 kX11_fault_167 (xol rfl) hM (Nat.le_of_ble_eq_true rfl) (c_X11_faultOf hr) (fun r30 M30 hq30 hn30 => ?_)
      obtain ⟨rfl, q1, q2⟩ := hq30
      exact px_iret dX11_fault_33 rfl (by first | (rw [show aFau z b (nI t) = (flQ b N (flR b N), none) from by unfold aFau; rw [if_neg (not_not_intro (hiv.mp h4)), if_neg z1, hNz]]; exact ⟨rfl, q1⟩) | (rw [show aFau z b (nI t) = (-3, some 1) from by unfold aFau; rw [if_neg (not_not_intro (hiv.mp h4)), if_pos (tx_n hz (hiv.mp h4) h17)]]; exact ⟨rfl, mpS.rf _⟩) | (rw [show aFau z b v = (-1, none) from if_pos (fun y => h4 (hiv.mpr y))]; exact ⟨rfl, mpS.rf _⟩)) (by first | rfl | exact hn30)
    · refine px_aload_n dX11_fault_20 rfl rfl ?_
      refine px_iconst dX11_fault_21 ic_1 ?_
      refine px_fV1i dX11_fault_22 kX11_fault_83 (xol rfl) hM (Nat.le_of_ble_eq_true rfl) (c_X11_found hM hW (vp_in_nI (n := 1) (by decide) (by decide))) ?_
      refine px_goto 33 dX11_fault_25 rfl ?_
      exact px_iret dX11_fault_33 rfl (by first | (rw [show aFau z b (nI t) = (flQ b N (flR b N), none) from by unfold aFau; rw [if_neg (not_not_intro (hiv.mp h4)), if_neg z1, hNz]]; exact ⟨rfl, q1⟩) | (rw [show aFau z b (nI t) = (-3, some 1) from by unfold aFau; rw [if_neg (not_not_intro (hiv.mp h4)), if_pos (tx_n hz (hiv.mp h4) h17)]]; exact ⟨rfl, mpS.rf _⟩) | (rw [show aFau z b v = (-1, none) from if_pos (fun y => h4 (hiv.mpr y))]; exact ⟨rfl, mpS.rf _⟩)) (by first | rfl | exact hn30)
  · refine px_iconst dX11_fault_7 ic_m1 ?_
    refine px_goto 33 dX11_fault_8 rfl ?_
    exact px_iret dX11_fault_33 rfl (by first | (rw [show aFau z b (nI t) = (flQ b N (flR b N), none) from by unfold aFau; rw [if_neg (not_not_intro (hiv.mp h4)), if_neg z1, hNz]]; exact ⟨rfl, q1⟩) | (rw [show aFau z b (nI t) = (-3, some 1) from by unfold aFau; rw [if_neg (not_not_intro (hiv.mp h4)), if_pos (tx_n hz (hiv.mp h4) h17)]]; exact ⟨rfl, mpS.rf _⟩) | (rw [show aFau z b v = (-1, none) from if_pos (fun y => h4 (hiv.mpr y))]; exact ⟨rfl, mpS.rf _⟩)) (by first | rfl | exact hn30)

set_option maxRecDepth 100000 in
theorem l_ms138 {E : xE} {M : xMem} {n : Nat} {v : Int32} {QQ : Option Value → xMem → Prop} (hM : xNT ≤ xN M) (hW : xWire M.2.1) (en : M.1 74 11 = nI n) (kf : ∀ m, m.2 = M.2 → (∀ a, a ≠ 91 → m.1 a = M.1 a) → (∀ k, k < 3 → m.1 91 k = -1) → QQ (some (.int (nI n))) m) : ∀ m, m.2 = M.2 → (∀ a, a ≠ 91 → m.1 a = M.1 a) → (∀ k, k < 0 → m.1 91 k = -1) → PR E mX11_sheet (xN M) 138 [some (.ref 74), some (.int v), some (.int (nI 0))] [] (m) (QQ) := by
  refine px_for (P := fun i => ∀ m, m.2 = M.2 → (∀ a, a ≠ 91 → m.1 a = M.1 a) → (∀ k, k < i → m.1 91 k = -1) → PR E mX11_sheet (xN M) 138 [some (.ref 74), some (.int v), some (.int (nI i))] [] (m) (QQ)) (3) (fun i hi nx => ?_) (0) (Nat.zero_le _)
  intro m g1 g2 g3
  have hnm : xN m = xN M := by show m.2.2.2 = M.2.2.2; rw [g1]
  have hM : xNT ≤ xN m := by rw [hnm]; exact hM
  have hW : xWire m.2.1 := by rw [g1]; exact hW
  refine px_iload_n dX11_sheet_138 rfl rfl ?_
  refine px_iconst dX11_sheet_139 ic_3 ?_
  refine px_icmp_ge 156 dX11_sheet_140 rfl (fun h140 => ?_) (fun h140 => ?_)
  · have hi2 : i = 3 := by rw [show (3 : Int32) = nI 3 from rfl, nI_leI (by omega) (by omega)] at h140; omega
    refine px_aload_n dX11_sheet_156 rfl rfl ?_
    refine px_getI dX11_sheet_157 fX11_179 (xol rfl) hM rfl ?_
    refine px_top (y := nI n) (by rw [g2 74 (by decide)]; exact en) ?_
    exact px_iret dX11_sheet_160 rfl (kf _ g1 g2 (fun k hk => g3 k (by omega))) (hnm)
  · have hlt : i < 3 := by rw [show (3 : Int32) = nI 3 from rfl, nI_leI (by omega) (by omega)] at h140; omega
    refine px_aload_n dX11_sheet_143 rfl rfl ?_
    refine px_getR dX11_sheet_144 fX11_59 (xol rfl) hM rfl (wr_11_38 hW (xol rfl)) (Nat.succ_pos _) ?_
    refine px_iload_n dX11_sheet_147 rfl rfl ?_
    refine px_iconst dX11_sheet_148 ic_m1 ?_
    refine px_iast dX11_sheet_149 (xal (n := 3) rfl) hM (vp_in_nI (by omega) (by decide)) ?_
    refine px_inc_2 dX11_sheet_150 rfl ic_1 ?_
    refine px_goto 138 dX11_sheet_153 rfl ?_
    exact px_eq (by rw [nI_1]) rfl (nx hlt _ g1 (fun a a1 => by rw [← g2 a a1]; funext i; rw [xI_wI, if_neg (fun z => a1 z.1)]) (fun k hk => by rw [nI_clamp (by omega), xI_wI]; by_cases z : k = i; (rw [if_pos ⟨rfl, z⟩]); (rw [if_neg (fun y => z y.2)]; exact g3 k (by omega))))

set_option maxRecDepth 100000 in
theorem l_ms108 {E : xE} {M : xMem} {n : Nat} {v : Int32} {QQ : Option Value → xMem → Prop} (hM : xNT ≤ xN M) (hW : xWire M.2.1) (en : M.1 74 11 = nI n) (kf : ∀ m, m.2 = M.2 → (∀ a, a ≠ 74 → a ≠ 83 → a ≠ 91 → m.1 a = M.1 a) → (∀ k, k ≠ 36 → m.1 74 k = M.1 74 k) → m.1 74 36 = 0 → lyM (m.1 83) (fun _ => none) → m.1 83 32 = 0 → (∀ k, k < 3 → m.1 91 k = -1) → QQ (some (.int (nI n))) m) : ∀ m, m.2 = M.2 → (∀ a, a ≠ 83 → m.1 a = M.1 a) → (∀ k, k < 0 → m.1 83 k = 0) → PR E mX11_sheet (xN M) 108 [some (.ref 74), some (.int v), some (.int (nI 0))] [] (m) (QQ) := by
  refine px_for (P := fun i => ∀ m, m.2 = M.2 → (∀ a, a ≠ 83 → m.1 a = M.1 a) → (∀ k, k < i → m.1 83 k = 0) → PR E mX11_sheet (xN M) 108 [some (.ref 74), some (.int v), some (.int (nI i))] [] (m) (QQ)) (33) (fun i hi nx => ?_) (0) (Nat.zero_le _)
  intro m g1 g2 g3
  have hnm : xN m = xN M := by show m.2.2.2 = M.2.2.2; rw [g1]
  have hM : xNT ≤ xN m := by rw [hnm]; exact hM
  have hW : xWire m.2.1 := by rw [g1]; exact hW
  refine px_iload_n dX11_sheet_108 rfl rfl ?_
  refine px_bipush dX11_sheet_109 bp_33 ?_
  refine px_icmp_ge 127 dX11_sheet_111 rfl (fun h111 => ?_) (fun h111 => ?_)
  · have hi2 : i = 33 := by rw [show (33 : Int32) = nI 33 from rfl, nI_leI (by omega) (by omega)] at h111; omega
    refine px_aload_n dX11_sheet_127 rfl rfl ?_
    refine px_fV0v dX11_sheet_128 kX11_sheet_182 (xol rfl) hM (Nat.le_of_ble_eq_true rfl) (c_X11_liftsAll hM hW) ?_
    refine px_aload_n dX11_sheet_131 rfl rfl ?_
    refine px_iconst dX11_sheet_132 ic_0 ?_
    refine px_putI dX11_sheet_133 fX11_185 p11_36 (xol rfl) hM rfl ?_
    refine px_iconst dX11_sheet_136 ic_0 ?_
    refine px_si_2 dX11_sheet_137 rfl ?_
    have hx := l_ms138 (E := E) (M := wI (wF m 83 (lfF (m.1 83) 8)) 74 36 0) (n := n) (v := v) (QQ := QQ) hM hW (by show m.1 74 11 = nI n; rw [g2 74 (by decide)]; exact en)
      (fun m' y1 y2 y3 => kf m' (y1.trans g1) (fun a a1 a2 a3 => by rw [y2 a a3, ← g2 a a2]; funext i; rw [xI_wI, if_neg (fun z => a1 z.1), xI_wF, if_neg a2]) (fun k hk => by rw [y2 74 (by decide), xI_wI, if_neg (fun z => hk z.2), xI_wF, if_neg (by decide), g2 74 (by decide)]) (by rw [y2 74 (by decide)]; rfl)
        (by rw [y2 83 (by decide), show (wI (wF m 83 (lfF (m.1 83) 8)) 74 36 0).1 83 = lfF (m.1 83) 8 from by funext i; rw [xI_wI, if_neg (fun z => by omega), xI_wF, if_pos rfl]]; exact lfF_ly _)
        (by rw [y2 83 (by decide), xI_wI, if_neg (fun z => by omega), xI_wF, if_pos rfl, lfF_32]; exact g3 32 (by omega)) y3)
      _ rfl (fun _ _ => rfl) (fun k hk => absurd hk (Nat.not_lt_zero k))
    rw [show xN (wI (wF m 83 (lfF (m.1 83) 8)) 74 36 0) = xN M from hnm] at hx
    exact hx
  · have hlt : i < 33 := by rw [show (33 : Int32) = nI 33 from rfl, nI_leI (by omega) (by omega)] at h111; omega
    refine px_aload_n dX11_sheet_114 rfl rfl ?_
    refine px_getR dX11_sheet_115 fX11_35 (xol rfl) hM rfl (wr_11_23 hW (xol rfl)) (Nat.succ_pos _) ?_
    refine px_iload_n dX11_sheet_118 rfl rfl ?_
    refine px_iconst dX11_sheet_119 ic_0 ?_
    refine px_iast dX11_sheet_120 (xal (n := 33) rfl) hM (vp_in_nI (by omega) (by decide)) ?_
    refine px_inc_2 dX11_sheet_121 rfl ic_1 ?_
    refine px_goto 108 dX11_sheet_124 rfl ?_
    exact px_eq (by rw [nI_1]) rfl (nx hlt _ g1 (fun a a1 => by rw [← g2 a a1]; funext i; rw [xI_wI, if_neg (fun z => a1 z.1)]) (fun k hk => by rw [nI_clamp (by omega), xI_wI]; by_cases z : k = i; (rw [if_pos ⟨rfl, z⟩]); (rw [if_neg (fun y => z y.2)]; exact g3 k (by omega))))

set_option maxRecDepth 100000 in
theorem l_ms82 {E : xE} {M : xMem} {n : Nat} {v : Int32} {QQ : Option Value → xMem → Prop} (hM : xNT ≤ xN M) (hW : xWire M.2.1) (en : M.1 74 11 = nI n) (kf : ∀ m, m.2 = M.2 → (∀ a, a ≠ 74 → a ≠ 81 → a ≠ 83 → a ≠ 91 → m.1 a = M.1 a) → (∀ k, k ≠ 36 → m.1 74 k = M.1 74 k) → m.1 74 36 = 0 → (∀ k, k < 56 → m.1 81 k = M.1 82 k) → lyM (m.1 83) (fun _ => none) → m.1 83 32 = 0 → (∀ k, k < 3 → m.1 91 k = -1) → QQ (some (.int (nI n))) m) : ∀ m, m.2 = M.2 → (∀ a, a ≠ 81 → m.1 a = M.1 a) → (∀ k, k < 0 → m.1 81 k = M.1 82 k) → PR E mX11_sheet (xN M) 82 [some (.ref 74), some (.int v), some (.int (nI 0))] [] (m) (QQ) := by
  refine px_for (P := fun i => ∀ m, m.2 = M.2 → (∀ a, a ≠ 81 → m.1 a = M.1 a) → (∀ k, k < i → m.1 81 k = M.1 82 k) → PR E mX11_sheet (xN M) 82 [some (.ref 74), some (.int v), some (.int (nI i))] [] (m) (QQ)) (56) (fun i hi nx => ?_) (0) (Nat.zero_le _)
  intro m g1 g2 g3
  have hnm : xN m = xN M := by show m.2.2.2 = M.2.2.2; rw [g1]
  have hM : xNT ≤ xN m := by rw [hnm]; exact hM
  have hW : xWire m.2.1 := by rw [g1]; exact hW
  refine px_iload_n dX11_sheet_82 rfl rfl ?_
  refine px_bipush dX11_sheet_83 bp_56 ?_
  refine px_icmp_ge 106 dX11_sheet_85 rfl (fun h85 => ?_) (fun h85 => ?_)
  · have hi2 : i = 56 := by rw [show (56 : Int32) = nI 56 from rfl, nI_leI (by omega) (by omega)] at h85; omega
    refine px_iconst dX11_sheet_106 ic_0 ?_
    refine px_si_2 dX11_sheet_107 rfl ?_
    have hx := l_ms108 (E := E) (M := m) (n := n) (v := v) (QQ := QQ) hM hW (by rw [g2 74 (by decide)]; exact en)
      (fun m' y1 y2 y3 y4 y5 y6 y7 => kf m' (y1.trans g1) (fun a a1 a2 a3 a4 => by rw [y2 a a1 a3 a4, g2 a a2]) (fun k hk => by rw [y3 k hk, g2 74 (by decide)]) y4 (fun k hk => by rw [y2 81 (by decide) (by decide) (by decide)]; exact g3 k (by omega)) y5 y6 y7)
      _ rfl (fun _ _ => rfl) (fun k hk => absurd hk (Nat.not_lt_zero k))
    rw [hnm] at hx
    exact hx
  · have hlt : i < 56 := by rw [show (56 : Int32) = nI 56 from rfl, nI_leI (by omega) (by omega)] at h85; omega
    refine px_aload_n dX11_sheet_88 rfl rfl ?_
    refine px_getR dX11_sheet_89 fX11_29 (xol rfl) hM rfl (wr_11_12 hW (xol rfl)) (Nat.succ_pos _) ?_
    refine px_iload_n dX11_sheet_92 rfl rfl ?_
    refine px_aload_n dX11_sheet_93 rfl rfl ?_
    refine px_getR dX11_sheet_94 fX11_32 (xol rfl) hM rfl (wr_11_22 hW (xol rfl)) (Nat.succ_pos _) ?_
    refine px_iload_n dX11_sheet_97 rfl rfl ?_
    refine px_iald dX11_sheet_98 (xal (n := 56) rfl) hM (vp_in_nI (by omega) (by decide)) ?_
    refine px_iast dX11_sheet_99 (xal (n := 56) rfl) hM (vp_in_nI (by omega) (by decide)) ?_
    refine px_inc_2 dX11_sheet_100 rfl ic_1 ?_
    refine px_goto 82 dX11_sheet_103 rfl ?_
    exact px_eq (by rw [nI_1]) rfl (nx hlt _ g1 (fun a a1 => by rw [← g2 a a1]; funext i; rw [xI_wI, if_neg (fun z => a1 z.1)]) (fun k hk => by rw [nI_clamp (by omega), xI_wI]; by_cases z : k = i; (rw [if_pos ⟨rfl, z⟩, z, g2 82 (by decide)]); (rw [if_neg (fun y => z y.2)]; exact g3 k (by omega))))

set_option maxRecDepth 100000 in
theorem c_X11_sheet {E : xE} {M : xMem} (hM : xNT ≤ xN M) (hW : xWire M.2.1) {z v : Int32} {b : Nat → Int32} (hz : txH M z b v) : Ct E mX11_sheet [.ref 74, .int v] M (xN M) (fun r m => r = some (.int (aShe z b v).1) ∧ ((aShe z b v).2.2 = none → mpS (oR M none (aShe z b v).2.1) m) ∧ ∀ q, (aShe z b v).2.2 = some q → mSh m q.1 q.2.1 q.2.2.1 q.2.2.2.1 q.2.2.2.2 ∧ (∀ P, stM m 0 (fun _ => none, 0) P) ∧ (∀ k, k < 3 → m.1 91 k = -1) ∧ ro1 M m) := by
  have hiv : (0 ≤ v ∧ v ≤ 3) ↔ (0 ≤ v ∧ v < 4) := in_l2 (n := 4) (c := 3) (by decide) rfl
  refine Ct.of (lo := [some (.ref 74), some (.int v), none]) pln_X11 (Nat.le_of_ble_eq_true rfl) rfl (Nat.le_refl _) ?_
  refine px_iload_n dX11_sheet_0 rfl rfl ?_
  refine px_fS1i dX11_sheet_1 kX11_sheet_94 (Nat.le_of_ble_eq_true rfl) (c_X11_isText) ?_
  refine px_zif_ne 9 dX11_sheet_4 rfl (fun h4 => ?_) (fun h4 => ?_)
  · obtain ⟨t, ht, rfl⟩ := in_nat (n := 4) (by decide) (show 0 ≤ v ∧ v < nI 4 from hiv.mp h4)
    have hti : vp_in (nI t) 4 := vp_in_nI ht (by decide)
    refine px_aload_n dX11_sheet_9 rfl rfl ?_
    refine px_getR dX11_sheet_10 fX11_22 (xol rfl) hM rfl (wr_11_6 hW (xol rfl)) (Nat.succ_pos _) ?_
    refine px_iload_n dX11_sheet_13 rfl rfl ?_
    refine px_iald dX11_sheet_14 (xal (n := 4) rfl) hM hti ?_
    refine px_if_ge 24 dX11_sheet_15 rfl (fun h15 => ?_) (fun h15 => ?_)
    · obtain ⟨z1, z2, hr⟩ := tx_s hM hW ht hz (hiv.mp h4) h15
      generalize hNz : z.toNatClampNeg = N at z2 hr
      have e3 : aShe z b (nI t) = ((shQ b N (flR b N)).1, none, (shQ b N (flR b N)).2) := by unfold aShe; rw [if_neg (not_not_intro (hiv.mp h4)), if_neg z1, hNz]
      refine px_aload_n dX11_sheet_24 rfl rfl ?_
      refine px_iload_n dX11_sheet_25 rfl rfl ?_
      refine px_gV1 dX11_sheet_26 kX11_sheet_167 (xol rfl) hM (Nat.le_of_ble_eq_true rfl) (c_X11_faultOf hr) (fun r26 M26 hq26 hn26 => ?_)
      obtain ⟨rfl, q1, q2⟩ := hq26
      have hM : xNT ≤ xN M26 := by rw [hn26]; exact hM
      have hW : xWire M26.2.1 := by rw [q1.1]; exact hW
      refine px_bipush dX11_sheet_29 bp_m9 ?_
      refine px_icmp_eq 37 dX11_sheet_31 rfl (fun h31 => ?_) (fun h31 => ?_)
      · obtain ⟨j, u, eR, hu⟩ := (fl_9 (b := b) z2).mp h31
        obtain ⟨q3, q4, hP⟩ := q2 j u eR hu
        refine px_aload_n dX11_sheet_37 rfl rfl ?_
        refine px_aload_n dX11_sheet_38 rfl rfl ?_
        refine px_getI dX11_sheet_39 fX11_135 (xol rfl) hM rfl ?_
        refine px_top (y := nI (vv b N 0 1)) q3 ?_
        refine px_putI dX11_sheet_42 fX11_170 p11_8 (xol rfl) hM rfl ?_
        refine px_aload_n dX11_sheet_45 rfl rfl ?_
        refine px_aload_n dX11_sheet_46 rfl rfl ?_
        refine px_getI dX11_sheet_47 fX11_138 (xol rfl) hM rfl ?_
        refine px_top (y := nI (vv b N 0 2)) q4 ?_
        refine px_putI dX11_sheet_50 fX11_173 p11_9 (xol rfl) hM rfl ?_
        refine px_aload_n dX11_sheet_53 rfl rfl ?_
        refine px_aload_n dX11_sheet_54 rfl rfl ?_
        refine px_getI dX11_sheet_55 fX11_144 (xol rfl) hM rfl ?_
        refine px_top (y := M26.1 74 20) rfl ?_
        refine px_if_ge 65 dX11_sheet_58 rfl (fun h58 => ?_) (fun h58 => ?_)
        · refine px_aload_n dX11_sheet_65 rfl rfl ?_
          refine px_getI dX11_sheet_66 fX11_144 (xol rfl) hM rfl ?_
          refine px_top (y := nI (u.1.getD 0)) (by first | exact bl_p hP h58 | exact bl_n hP h58) ?_
          refine px_putI dX11_sheet_69 fX11_176 p11_10 (xol rfl) hM rfl ?_
          refine px_aload_n dX11_sheet_72 rfl rfl ?_
          refine px_aload_n dX11_sheet_73 rfl rfl ?_
          refine px_getI dX11_sheet_74 fX11_147 (xol rfl) hM rfl ?_
          refine px_top (y := nI u.2.1) hP.2.1 ?_
          refine px_putI dX11_sheet_77 fX11_179 p11_11 (xol rfl) hM rfl ?_
          refine px_iconst dX11_sheet_80 ic_0 ?_
          refine px_si_2 dX11_sheet_81 rfl ?_
          have eq3 : aShe z b (nI t) = (nI u.2.1, none, some (u.2.1, vv b N 0 1, vv b N 0 2, u.1.getD 0, u.2.2)) := by rw [e3, eR]; show ((if _ then _ else _ : Int32 × Option aSh).1, none, (if _ then _ else _ : Int32 × Option aSh).2) = _; rw [if_neg hu]
          have hx := l_ms82 (E := E) (M := (wI (wI (wI (wI M26 74 8 (nI (vv b N 0 1))) 74 9 (nI (vv b N 0 2))) 74 10 (nI (u.1.getD 0))) 74 11 (nI u.2.1))) (n := u.2.1) (v := nI t) (QQ := fun r m => r = some (.int (aShe z b (nI t)).1) ∧ ((aShe z b (nI t)).2.2 = none → mpS (oR M none (aShe z b (nI t)).2.1) m) ∧ ∀ q, (aShe z b (nI t)).2.2 = some q → mSh m q.1 q.2.1 q.2.2.1 q.2.2.2.1 q.2.2.2.2 ∧ (∀ P, stM m 0 (fun _ => none, 0) P) ∧ (∀ k, k < 3 → m.1 91 k = -1) ∧ ro1 M m) hM hW rfl
            (fun m g1 g2 g3 g4 g5 g6 g7 g8 => by
              rw [eq3]
              refine ⟨rfl, fun z => absurd z (fun w => (by cases w)), fun q z => ?_⟩
              have w := Option.some.inj z
              rw [← w]
              have h8 := hP.2.2.1
              refine ⟨⟨by rw [g3 11 (by decide)]; rfl, by rw [g3 8 (by decide)]; rfl, by rw [g3 9 (by decide)]; rfl, by rw [g3 10 (by decide)]; rfl, fun f hf k hk => ?_⟩, fun P => ⟨g4, by omega, ⟨lyM_c g6 (fun k _ => by rw [Nat.zero_add]), g7⟩, fun i hi => absurd hi (Nat.not_lt_zero i)⟩, g8, ?_⟩
              · have hf8 : f < 8 := Nat.lt_of_lt_of_le hf h8
                rw [g5 (7 * f + k) (by omega), xI_wI, if_neg (fun z => by omega), xI_wI, if_neg (fun z => by omega), xI_wI, if_neg (fun z => by omega), xI_wI, if_neg (fun z => by omega)]
                exact hP.2.2.2 f hf k hk
              · refine ⟨by rw [g1]; exact q1.1, fun a a1 a2 a3 => ?_, fun k k1 k2 => ?_⟩
                · rw [g2 a a1 (by omega) (by omega) a3, ← q1.2.1 a a1 (by omega)]
                  funext i
                  rw [xI_wI, if_neg (fun z => a1 z.1), xI_wI, if_neg (fun z => a1 z.1), xI_wI, if_neg (fun z => a1 z.1), xI_wI, if_neg (fun z => a1 z.1)]
                · rw [g3 k k2, xI_wI, if_neg (fun z => by omega), xI_wI, if_neg (fun z => by omega), xI_wI, if_neg (fun z => by omega), xI_wI, if_neg (fun z => by omega), q1.2.2 k (by omega)])
            _ rfl (fun _ _ => rfl) (fun k hk => absurd hk (Nat.not_lt_zero k))
          rw [show xN (wI (wI (wI (wI M26 74 8 (nI (vv b N 0 1))) 74 9 (nI (vv b N 0 2))) 74 10 (nI (u.1.getD 0))) 74 11 (nI u.2.1)) = xN M from hn26] at hx
          exact hx
        · refine px_iconst dX11_sheet_61 ic_0 ?_
          refine px_goto 69 dX11_sheet_62 rfl ?_
          refine px_top (y := nI (u.1.getD 0)) (by first | exact bl_p hP h58 | exact bl_n hP h58) ?_
          refine px_putI dX11_sheet_69 fX11_176 p11_10 (xol rfl) hM rfl ?_
          refine px_aload_n dX11_sheet_72 rfl rfl ?_
          refine px_aload_n dX11_sheet_73 rfl rfl ?_
          refine px_getI dX11_sheet_74 fX11_147 (xol rfl) hM rfl ?_
          refine px_top (y := nI u.2.1) hP.2.1 ?_
          refine px_putI dX11_sheet_77 fX11_179 p11_11 (xol rfl) hM rfl ?_
          refine px_iconst dX11_sheet_80 ic_0 ?_
          refine px_si_2 dX11_sheet_81 rfl ?_
          have eq3 : aShe z b (nI t) = (nI u.2.1, none, some (u.2.1, vv b N 0 1, vv b N 0 2, u.1.getD 0, u.2.2)) := by rw [e3, eR]; show ((if _ then _ else _ : Int32 × Option aSh).1, none, (if _ then _ else _ : Int32 × Option aSh).2) = _; rw [if_neg hu]
          have hx := l_ms82 (E := E) (M := (wI (wI (wI (wI M26 74 8 (nI (vv b N 0 1))) 74 9 (nI (vv b N 0 2))) 74 10 (nI (u.1.getD 0))) 74 11 (nI u.2.1))) (n := u.2.1) (v := nI t) (QQ := fun r m => r = some (.int (aShe z b (nI t)).1) ∧ ((aShe z b (nI t)).2.2 = none → mpS (oR M none (aShe z b (nI t)).2.1) m) ∧ ∀ q, (aShe z b (nI t)).2.2 = some q → mSh m q.1 q.2.1 q.2.2.1 q.2.2.2.1 q.2.2.2.2 ∧ (∀ P, stM m 0 (fun _ => none, 0) P) ∧ (∀ k, k < 3 → m.1 91 k = -1) ∧ ro1 M m) hM hW rfl
            (fun m g1 g2 g3 g4 g5 g6 g7 g8 => by
              rw [eq3]
              refine ⟨rfl, fun z => absurd z (fun w => (by cases w)), fun q z => ?_⟩
              have w := Option.some.inj z
              rw [← w]
              have h8 := hP.2.2.1
              refine ⟨⟨by rw [g3 11 (by decide)]; rfl, by rw [g3 8 (by decide)]; rfl, by rw [g3 9 (by decide)]; rfl, by rw [g3 10 (by decide)]; rfl, fun f hf k hk => ?_⟩, fun P => ⟨g4, by omega, ⟨lyM_c g6 (fun k _ => by rw [Nat.zero_add]), g7⟩, fun i hi => absurd hi (Nat.not_lt_zero i)⟩, g8, ?_⟩
              · have hf8 : f < 8 := Nat.lt_of_lt_of_le hf h8
                rw [g5 (7 * f + k) (by omega), xI_wI, if_neg (fun z => by omega), xI_wI, if_neg (fun z => by omega), xI_wI, if_neg (fun z => by omega), xI_wI, if_neg (fun z => by omega)]
                exact hP.2.2.2 f hf k hk
              · refine ⟨by rw [g1]; exact q1.1, fun a a1 a2 a3 => ?_, fun k k1 k2 => ?_⟩
                · rw [g2 a a1 (by omega) (by omega) a3, ← q1.2.1 a a1 (by omega)]
                  funext i
                  rw [xI_wI, if_neg (fun z => a1 z.1), xI_wI, if_neg (fun z => a1 z.1), xI_wI, if_neg (fun z => a1 z.1), xI_wI, if_neg (fun z => a1 z.1)]
                · rw [g3 k k2, xI_wI, if_neg (fun z => by omega), xI_wI, if_neg (fun z => by omega), xI_wI, if_neg (fun z => by omega), xI_wI, if_neg (fun z => by omega), q1.2.2 k (by omega)])
            _ rfl (fun _ _ => rfl) (fun k hk => absurd hk (Nat.not_lt_zero k))
          rw [show xN (wI (wI (wI (wI M26 74 8 (nI (vv b N 0 1))) 74 9 (nI (vv b N 0 2))) 74 10 (nI (u.1.getD 0))) 74 11 (nI u.2.1)) = xN M from hn26] at hx
          exact hx
      · refine px_bipush dX11_sheet_34 bp_m4 ?_
        exact px_iret dX11_sheet_36 rfl (by rw [e3, shQ_n (fun z => h31 ((fl_9 z2).mpr z))]; exact ⟨rfl, fun _ => q1, fun q z => absurd z (fun w => (by cases w))⟩) (by first | rfl | exact hn26)
    · refine px_aload_n dX11_sheet_18 rfl rfl ?_
      refine px_iconst dX11_sheet_19 ic_1 ?_
      refine px_fV1i dX11_sheet_20 kX11_sheet_83 (xol rfl) hM (Nat.le_of_ble_eq_true rfl) (c_X11_found hM hW (vp_in_nI (n := 1) (by decide) (by decide))) ?_
      exact px_iret dX11_sheet_23 rfl (by rw [show aShe z b (nI t) = (-3, some 1, none) from by unfold aShe; rw [if_neg (not_not_intro (hiv.mp h4)), if_pos (tx_n hz (hiv.mp h4) h15)]]; exact ⟨rfl, fun _ => mpS.rf _, fun q z => absurd z (fun w => (by cases w))⟩) (by first | rfl | exact hn26)
  · refine px_iconst dX11_sheet_7 ic_m1 ?_
    exact px_iret dX11_sheet_8 rfl (by rw [show aShe z b v = (-1, none, none) from if_pos (fun y => h4 (hiv.mpr y))]; exact ⟨rfl, fun _ => mpS.rf _, fun q z => absurd z (fun w => (by cases w))⟩) (by first | rfl | exact hn26)
