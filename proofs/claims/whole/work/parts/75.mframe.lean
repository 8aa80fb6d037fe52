/-! ===== readsFrame ===== -/
theorem ff_at {c : Nat → Prop} : ∀ k q i, q ≤ i → i < q + k → (∀ x, q ≤ x → x < i → c x) → ¬ c i → ff c k q = i
  | 0, q, i, h1, h2, _, _ => by omega
  | k + 1, q, i, h1, h2, hy, hn => by
    by_cases e : q = i
    · rw [e, ff_n hn]
    · rw [ff_y (hy q (Nat.le_refl _) (by omega))]
      exact ff_at k (q + 1) i (by omega) (by omega) (fun x x1 x2 => hy x (by omega) x2) hn
theorem ff_to {c : Nat → Prop} : ∀ k q, (∀ x, q ≤ x → x < q + k → c x) → ff c k q = q + k
  | 0, q, _ => rfl
  | k + 1, q, h => by
    rw [ff_y (h q (Nat.le_refl _) (by omega)), ff_to k (q + 1) (fun x x1 x2 => h x (by omega) (by omega))]; omega
theorem fm_5 {b : Nat → Int32} {N p : Nat} : fmC b N p 5 ↔ (nOK b N (ps b N p 5) 0 9 ∧ vv b N p 3 + vv b N p 5 < vv b N p 1) := by
  have e : fmC b N p 5 = (nN b N (ps b N p 5) 0 9 ∧ vv b N p 3 + vv b N p 5 < vv b N p 1) := by unfold fmC; rw [if_neg (by omega), if_neg (by omega), if_pos rfl]
  rw [e]
  exact ⟨fun z => ⟨(nN_i (l := 0) (h := 9) (by decide) (by decide)).mpr z.1, z.2⟩, fun z => ⟨(nN_i (l := 0) (h := 9) (by decide) (by decide)).mp z.1, z.2⟩⟩
theorem fm_6 {b : Nat → Int32} {N p : Nat} : fmC b N p 6 ↔ (nOK b N (ps b N p 6) 0 9 ∧ vv b N p 4 + vv b N p 6 < vv b N p 2) := by
  have e : fmC b N p 6 = (nN b N (ps b N p 6) 0 9 ∧ vv b N p 4 + vv b N p 6 < vv b N p 2) := by unfold fmC; rw [if_neg (by omega), if_neg (by omega), if_neg (by omega), if_pos rfl]
  rw [e]
  exact ⟨fun z => ⟨(nN_i (l := 0) (h := 9) (by decide) (by decide)).mpr z.1, z.2⟩, fun z => ⟨(nN_i (l := 0) (h := 9) (by decide) (by decide)).mp z.1, z.2⟩⟩
theorem fm_i {b : Nat → Int32} {N p i : Nat} (h1 : 1 ≤ i) (h6 : i ≤ 6) : fmC b N p i ↔ (nOK b N (ps b N p i) (if i < 3 then 1 else 0) (if i < 3 then 16 else 9) ∧ (4 < i → vv b N p (i - 2) + vv b N p i < vv b N p (i - 4))) := by
  rcases (show i = 1 ∨ i = 2 ∨ i = 3 ∨ i = 4 ∨ i = 5 ∨ i = 6 by omega) with rfl | rfl | rfl | rfl | rfl | rfl
  · exact ⟨fun z => ⟨fmC_1.mpr z, fun y => by omega⟩, fun z => fmC_1.mp z.1⟩
  · exact ⟨fun z => ⟨fmC_2.mpr z, fun y => by omega⟩, fun z => fmC_2.mp z.1⟩
  · exact ⟨fun z => ⟨fmC_3.mpr z, fun y => by omega⟩, fun z => fmC_3.mp z.1⟩
  · exact ⟨fun z => ⟨fmC_4.mpr z, fun y => by omega⟩, fun z => fmC_4.mp z.1⟩
  · exact ⟨fun z => ⟨(fm_5.mp z).1, fun _ => (fm_5.mp z).2⟩, fun z => fm_5.mpr ⟨z.1, z.2 (by omega)⟩⟩
  · exact ⟨fun z => ⟨(fm_6.mp z).1, fun _ => (fm_6.mp z).2⟩, fun z => fm_6.mpr ⟨z.1, z.2 (by omega)⟩⟩

set_option maxRecDepth 100000 in
theorem l_rf32 {E : xE} {M : xMem} {t N p n : Nat} {b : Nat → Int32} {kd : Int32} (hr : mrd M t N b) (hp : p ≤ N) (hn8 : n ≤ 8) (h8 : n < 8) (hmn : M.1 74 21 = nI n) : 1 ≤ (1) → ∀ m, mpS M m → m.1 74 13 = nI (ps b N p (1)) → (∀ k, 17 < k → m.1 74 k = M.1 74 k) → (∀ i, i < 7 * n → m.1 82 i = M.1 82 i) → m.1 82 (7 * n) = kd → (∀ q, 1 ≤ q → q < (1) → fmC b N p q ∧ m.1 82 (7 * n + q) = nI (vv b N p q)) → PR E mX11_readsFrame (xN M) 32 [some (.ref 74), some (.int (nI t)), some (.int kd), some (.int (nI (7 * n))), some (.int (nI (1)))] [] (m) (fun r m => r = some (.int (zc (n < 8 ∧ ff (fmC b N p) 7 1 = 8))) ∧ mpS M m ∧ ((n < 8 ∧ ff (fmC b N p) 7 1 = 8) → m.1 74 13 = nI (ps b N p 8) ∧ m.1 74 21 = nI (n + 1) ∧ m.1 82 (7 * n) = kd ∧ ∀ q, 1 ≤ q → q ≤ 6 → m.1 82 (7 * n + q) = nI (vv b N p q)) ∧ (¬ (n < 8 ∧ ff (fmC b N p) 7 1 = 8) → m.1 74 17 = nI (tF b N (if n < 8 then ps b N p (ff (fmC b N p) 7 1) else p))) ∧ (∀ k, 17 < k → k ≠ 21 → m.1 74 k = M.1 74 k) ∧ ∀ i, i < 7 * n → m.1 82 i = M.1 82 i) := by
  have hM := hr.1
  have hW := hr.2.1
  have hl := fun k => ps_le (b := b) hp k
  refine px_for (P := fun i => 1 ≤ i → ∀ m, mpS M m → m.1 74 13 = nI (ps b N p i) → (∀ k, 17 < k → m.1 74 k = M.1 74 k) → (∀ i, i < 7 * n → m.1 82 i = M.1 82 i) → m.1 82 (7 * n) = kd → (∀ q, 1 ≤ q → q < i → fmC b N p q ∧ m.1 82 (7 * n + q) = nI (vv b N p q)) → PR E mX11_readsFrame (xN M) 32 [some (.ref 74), some (.int (nI t)), some (.int kd), some (.int (nI (7 * n))), some (.int (nI i))] [] (m) (fun r m => r = some (.int (zc (n < 8 ∧ ff (fmC b N p) 7 1 = 8))) ∧ mpS M m ∧ ((n < 8 ∧ ff (fmC b N p) 7 1 = 8) → m.1 74 13 = nI (ps b N p 8) ∧ m.1 74 21 = nI (n + 1) ∧ m.1 82 (7 * n) = kd ∧ ∀ q, 1 ≤ q → q ≤ 6 → m.1 82 (7 * n + q) = nI (vv b N p q)) ∧ (¬ (n < 8 ∧ ff (fmC b N p) 7 1 = 8) → m.1 74 17 = nI (tF b N (if n < 8 then ps b N p (ff (fmC b N p) 7 1) else p))) ∧ (∀ k, 17 < k → k ≠ 21 → m.1 74 k = M.1 74 k) ∧ ∀ i, i < 7 * n → m.1 82 i = M.1 82 i)) (7) (fun i hi nx => ?_) (1) (by decide)
  intro h1i m hk hra hkk hlo h0 hv
  have hm : xNT ≤ xN m := by show xNT ≤ m.2.2.2; rw [hk.1]; exact hM
  have hw : xWire m.2.1 := by rw [hk.1]; exact hW
  have hnm : xN m = xN M := by show m.2.2.2 = M.2.2.2; rw [hk.1]
  refine px_iload dX11_readsFrame_32 rfl ?_
  refine px_bipush dX11_readsFrame_34 bp_7 ?_
  refine px_icmp_ge 133 dX11_readsFrame_36 rfl (fun h36 => ?_) (fun h36 => ?_)
  · have hi2 : i = 7 := by rw [show (7 : Int32) = nI 7 from rfl, nI_leI (by omega) (by omega)] at h36; omega
    subst hi2
    refine px_aload_n dX11_readsFrame_133 rfl rfl ?_
    first | refine px_dupi dX11_readsFrame_134 ?_ | refine px_dupa dX11_readsFrame_134 ?_
    refine px_getI dX11_readsFrame_135 fX11_147 (xol rfl) hm rfl ?_
    refine px_top (y := nI n) (by rw [hkk 21 (by omega)]; exact hmn) ?_
    refine px_iconst dX11_readsFrame_138 ic_1 ?_
    refine px_iadd dX11_readsFrame_139 ?_
    refine px_top (y := nI (n + 1)) (nI_1 _) ?_
    refine px_putI dX11_readsFrame_140 fX11_147 p11_21 (xol rfl) hm rfl ?_
    refine px_aload_n dX11_readsFrame_143 rfl rfl ?_
    refine px_iload_n dX11_readsFrame_144 rfl rfl ?_
    refine px_gV1 dX11_readsFrame_145 kX11_readsFrame_141 (xol rfl) hm (Nat.le_of_ble_eq_true rfl) (c_X11_ends (j := ps b N p 7) ((hk.p (by omega)).r hr) (hl 7) (by rw [xI_wI, if_neg (fun z => by omega)]; exact hra)) (fun r145 M145 hq145 hn145 => ?_)
    obtain ⟨rfl, q4, q5, q6⟩ := hq145
    exact px_zret dX11_readsFrame_148 rfl (by first | rfl | exact zb_nar | exact zc_nar) (by
          have hiff : tK b N (ps b N p 7) = 3 ↔ (n < 8 ∧ ff (fmC b N p) 7 1 = 8) := by
            constructor
            · intro z
              refine ⟨h8, ff_to 7 1 (fun x x1 x2 => ?_)⟩
              by_cases e : x = 7
              · rw [e]; exact fmC_7.mp z
              · exact (hv x x1 (by omega)).1
            · rintro ⟨_, z⟩
              exact fmC_7.mpr (ff_all 7 1 z 7 (by omega) (by omega))
          rw [← zc_c hiff]
          refine ⟨rfl, (hk.p (by omega)).tr q4.q, fun z => ⟨q5.1, by rw [q4.2.2 21 (by omega), wI_self], by rw [q4.2.1 82 (by decide)]; exact h0, fun q q1 q2 => by rw [q4.2.1 82 (by decide)]; exact (hv q q1 (by omega)).2⟩, fun z => ?_, fun k k1 k2 => by rw [q4.2.2 k (by omega), xI_wI, if_neg (fun z => k2 z.2)]; exact hkk k k1, fun x x1 => by rw [q4.2.1 82 (by decide)]; exact hlo x x1⟩
          have h3 : ¬ tK b N (ps b N p 7) = 3 := fun y => z (hiff.mp y)
          have e : ff (fmC b N p) 7 1 = 7 := ff_at 7 1 7 (by omega) (by omega) (fun x x1 x2 => (hv x x1 x2).1) (fun w => h3 (fmC_7.mpr w))
          rw [if_pos h8, e]
          exact q6 h3) (by first | exact hn65.trans hnm | exact hn145.trans hnm)
  · have hlt : i < 7 := by rw [show (7 : Int32) = nI 7 from rfl, nI_leI (by omega) (by omega)] at h36; omega
    refine px_aload_n dX11_readsFrame_39 rfl rfl ?_
    refine px_iload_n dX11_readsFrame_40 rfl rfl ?_
    refine px_iload dX11_readsFrame_41 rfl ?_
    refine px_iconst dX11_readsFrame_43 ic_3 ?_
    refine px_icmp_ge 51 dX11_readsFrame_44 rfl (fun h44 => ?_) (fun h44 => ?_)
    · have h3 : ¬ i < 3 := by rw [show (3 : Int32) = nI 3 from rfl, nI_leI (by omega) (by omega)] at h44; omega
      refine px_iconst dX11_readsFrame_51 ic_0 ?_
      refine px_top (y := (if i < 3 then (1 : Int32) else 0)) (by first | exact (if_pos h3).symm | exact (if_neg h3).symm) ?_
      refine px_iload dX11_readsFrame_52 rfl ?_
      refine px_iconst dX11_readsFrame_54 ic_3 ?_
      refine px_icmp_ge 63 dX11_readsFrame_55 rfl (fun h55 => ?_) (fun h55 => ?_)
      · have h3b : ¬ i < 3 := by rw [show (3 : Int32) = nI 3 from rfl, nI_leI (by omega) (by omega)] at h55; omega
        refine px_bipush dX11_readsFrame_63 bp_9 ?_
        refine px_top (y := (if i < 3 then (16 : Int32) else 9)) (by first | exact (if_pos h3b).symm | exact (if_neg h3b).symm) ?_
        refine px_gV3 dX11_readsFrame_65 kX11_readsFrame_132 (xol rfl) hm (Nat.le_of_ble_eq_true rfl) (c_X11_number (j := ps b N p i) (hk.r hr) (hl i) hra) (fun r65 M65 hq65 hn65 => ?_)
        obtain ⟨rfl, q1, q2, q3⟩ := hq65
        have hm5 : xNT ≤ xN M65 := by rw [hn65]; exact hm
        have hw5 : xWire M65.2.1 := by rw [q1.1]; exact hw
        refine px_cif_ne 73 dX11_readsFrame_68 rfl (fun h68 => ?_) (fun h68 => ?_)
        · have hnx : (nI (7 * n + i)).toNatClampNeg = 7 * n + i := nI_clamp (by omega)
          refine px_aload_n dX11_readsFrame_73 rfl rfl ?_
          refine px_getR dX11_readsFrame_74 fX11_32 (xol rfl) hm5 rfl (wr_11_22 hw5 (xol rfl)) (Nat.succ_pos _) ?_
          refine px_iload_n dX11_readsFrame_77 rfl rfl ?_
          refine px_iload dX11_readsFrame_78 rfl ?_
          refine px_iadd dX11_readsFrame_80 ?_
          refine px_top (y := nI (7 * n + i)) (nI_add _ _) ?_
          refine px_aload_n dX11_readsFrame_81 rfl rfl ?_
          refine px_getI dX11_readsFrame_82 fX11_119 (xol rfl) hm5 rfl ?_
          refine px_top (y := nI (vv b N p i)) (q2.2.2.2 h68.1) ?_
          refine px_iast dX11_readsFrame_85 (xal (n := 56) rfl) hm5 (vp_in_nI (by omega) (by decide)) ?_
          refine px_mem (M' := (wI M65 82 (7 * n + i) (nI (vv b N p i)))) (by rw [hnx]) ?_
          refine px_iload dX11_readsFrame_86 rfl ?_
          refine px_iconst dX11_readsFrame_88 ic_4 ?_
          refine px_icmp_le 127 dX11_readsFrame_89 rfl (fun h89 => ?_) (fun h89 => ?_)
          · have ci : fmC b N p i := (fm_i h1i (by omega)).mpr ⟨h68, fun h4 => by
              have := vv_le b N p i
              have := vv_le b N p (i - 2)
              have := vv_le b N p (i - 4)
              first
                | (rw [nI_ltI (by omega) (by omega)] at h119; exact h119)
                | (rw [show (4 : Int32) = nI 4 from rfl, nI_leI (by omega) (by omega)] at h89; omega)⟩
            refine px_inc_4 dX11_readsFrame_127 rfl ic_1 ?_
            refine px_goto 32 dX11_readsFrame_130 rfl ?_
            refine px_eq (by rw [nI_1]) rfl (nx hlt (by omega) _ ((hk.tr q1.q).g) (by rw [xI_wI, if_neg (fun z => by omega)]; exact q2.1) (fun k k1 => by rw [xI_wI, if_neg (fun z => by omega), q1.2.2 k (by omega)]; exact hkk k k1) (fun x x1 => by rw [xI_wI, if_neg (fun z => by omega), q1.2.1 82 (by decide)]; exact hlo x x1) (by rw [xI_wI, if_neg (fun z => by omega), q1.2.1 82 (by decide)]; exact h0) (fun x x1 x2 => ?_))
            by_cases ex : x = i
            · rw [ex]; exact ⟨ci, wI_self _ _ _ _⟩
            · exact ⟨(hv x x1 (by omega)).1, by rw [xI_wI, if_neg (fun z => by omega), q1.2.1 82 (by decide)]; exact (hv x x1 (by omega)).2⟩
          · have h4 : 4 < i := by rw [show (4 : Int32) = nI 4 from rfl, nI_leI (by omega) (by omega)] at h89; omega
            have hq : ∀ x, 1 ≤ x → x < i → (wI M65 82 (7 * n + i) (nI (vv b N p i))).1 82 (nI (7 * n + x)).toNatClampNeg = nI (vv b N p x) := fun x x1 x2 => by rw [nI_clamp (by omega), xI_wI, if_neg (fun z => by omega), q1.2.1 82 (by decide)]; exact (hv x x1 x2).2
            refine px_aload_n dX11_readsFrame_92 rfl rfl ?_
            refine px_getR dX11_readsFrame_93 fX11_32 (xol rfl) hm5 rfl (wr_11_22 hw5 (xol rfl)) (Nat.succ_pos _) ?_
            refine px_iload_n dX11_readsFrame_96 rfl rfl ?_
            refine px_iload dX11_readsFrame_97 rfl ?_
            refine px_iadd dX11_readsFrame_99 ?_
            refine px_top (y := nI (7 * n + i)) (nI_add _ _) ?_
            refine px_iconst dX11_readsFrame_100 ic_2 ?_
            refine px_isub dX11_readsFrame_101 ?_
            refine px_top (y := nI (7 * n + (i - 2))) (by rw [show (2 : Int32) = nI 2 from rfl, pk_sub (by omega)]; congr 1; omega) ?_
            refine px_iald dX11_readsFrame_102 (xal (n := 56) rfl) hm5 (vp_in_nI (by omega) (by decide)) ?_
            refine px_top (y := nI (vv b N p (i - 2))) (hq (i - 2) (by omega) (by omega)) ?_
            refine px_aload_n dX11_readsFrame_103 rfl rfl ?_
            refine px_getI dX11_readsFrame_104 fX11_119 (xol rfl) hm5 rfl ?_
            refine px_top (y := nI (vv b N p i)) (q2.2.2.2 h68.1) ?_
            refine px_iadd dX11_readsFrame_107 ?_
            refine px_top (y := nI (vv b N p (i - 2) + vv b N p i)) (nI_add _ _) ?_
            refine px_aload_n dX11_readsFrame_108 rfl rfl ?_
            refine px_getR dX11_readsFrame_109 fX11_32 (xol rfl) hm5 rfl (wr_11_22 hw5 (xol rfl)) (Nat.succ_pos _) ?_
            refine px_iload_n dX11_readsFrame_112 rfl rfl ?_
            refine px_iload dX11_readsFrame_113 rfl ?_
            refine px_iadd dX11_readsFrame_115 ?_
            refine px_top (y := nI (7 * n + i)) (nI_add _ _) ?_
            refine px_iconst dX11_readsFrame_116 ic_4 ?_
            refine px_isub dX11_readsFrame_117 ?_
            refine px_top (y := nI (7 * n + (i - 4))) (by rw [show (4 : Int32) = nI 4 from rfl, pk_sub (by omega)]; congr 1; omega) ?_
            refine px_iald dX11_readsFrame_118 (xal (n := 56) rfl) hm5 (vp_in_nI (by omega) (by decide)) ?_
            refine px_top (y := nI (vv b N p (i - 4))) (hq (i - 4) (by omega) (by omega)) ?_
            refine px_icmp_lt 127 dX11_readsFrame_119 rfl (fun h119 => ?_) (fun h119 => ?_)
            · have ci : fmC b N p i := (fm_i h1i (by omega)).mpr ⟨h68, fun h4 => by
                have := vv_le b N p i
                have := vv_le b N p (i - 2)
                have := vv_le b N p (i - 4)
                first
                  | (rw [nI_ltI (by omega) (by omega)] at h119; exact h119)
                  | (rw [show (4 : Int32) = nI 4 from rfl, nI_leI (by omega) (by omega)] at h89; omega)⟩
              refine px_inc_4 dX11_readsFrame_127 rfl ic_1 ?_
              refine px_goto 32 dX11_readsFrame_130 rfl ?_
              refine px_eq (by rw [nI_1]) rfl (nx hlt (by omega) _ ((hk.tr q1.q).g) (by rw [xI_wI, if_neg (fun z => by omega)]; exact q2.1) (fun k k1 => by rw [xI_wI, if_neg (fun z => by omega), q1.2.2 k (by omega)]; exact hkk k k1) (fun x x1 => by rw [xI_wI, if_neg (fun z => by omega), q1.2.1 82 (by decide)]; exact hlo x x1) (by rw [xI_wI, if_neg (fun z => by omega), q1.2.1 82 (by decide)]; exact h0) (fun x x1 x2 => ?_))
              by_cases ex : x = i
              · rw [ex]; exact ⟨ci, wI_self _ _ _ _⟩
              · exact ⟨(hv x x1 (by omega)).1, by rw [xI_wI, if_neg (fun z => by omega), q1.2.1 82 (by decide)]; exact (hv x x1 (by omega)).2⟩
            · have ci : ¬ fmC b N p i := fun z => by
                have z2 := ((fm_i h1i (by omega)).mp z).2 h4
                have := vv_le b N p i
                have := vv_le b N p (i - 2)
                have := vv_le b N p (i - 4)
                exact h119 (by rw [nI_ltI (by omega) (by omega)]; exact z2)
              have e : ff (fmC b N p) 7 1 = i := ff_at 7 1 i h1i (by omega) (fun x x1 x2 => (hv x x1 x2).1) ci
              have hno : ¬ (n < 8 ∧ ff (fmC b N p) 7 1 = 8) := fun z => by have := z.2; omega
              refine px_aload_n dX11_readsFrame_122 rfl rfl ?_
              refine px_fV0i dX11_readsFrame_123 kX11_readsFrame_128 (xol rfl) hm5 (Nat.le_of_ble_eq_true rfl) (c_X11_fails hm5) ?_
              exact px_zret dX11_readsFrame_126 rfl (by first | rfl | exact zb_nar | exact zc_nar) (by rw [zcF hno]; exact ⟨rfl, ((hk.tr q1.q).g).p (by omega), fun z => absurd z hno, fun _ => by rw [if_pos h8, e]; exact q2.2.1, fun k k1 _ => by rw [xI_wI, if_neg (fun z => by omega), xI_wI, if_neg (fun z => by omega), q1.2.2 k (by omega)]; exact hkk k k1, fun x x1 => by rw [xI_wI, if_neg (fun z => by omega), xI_wI, if_neg (fun z => by omega), q1.2.1 82 (by decide)]; exact hlo x x1⟩) (by first | exact hn65.trans hnm | exact hn145.trans hnm)
        · have ci : ¬ fmC b N p i := fun z => h68 ((fm_i h1i (by omega)).mp z).1
          have e : ff (fmC b N p) 7 1 = i := ff_at 7 1 i h1i (by omega) (fun x x1 x2 => (hv x x1 x2).1) ci
          have hno : ¬ (n < 8 ∧ ff (fmC b N p) 7 1 = 8) := fun z => by have := z.2; omega
          refine px_iconst dX11_readsFrame_71 ic_0 ?_
          exact px_zret dX11_readsFrame_72 rfl (by first | rfl | exact zb_nar | exact zc_nar) (by rw [zcF hno]; exact ⟨rfl, hk.tr q1.q, fun z => absurd z hno, fun _ => by rw [if_pos h8, e]; exact q3 h68, fun k k1 _ => by rw [q1.2.2 k (by omega)]; exact hkk k k1, fun x x1 => by rw [q1.2.1 82 (by decide)]; exact hlo x x1⟩) (by first | exact hn65.trans hnm | exact hn145.trans hnm)
      · have h3b : i < 3 := by rw [show (3 : Int32) = nI 3 from rfl, nI_leI (by omega) (by omega)] at h55; omega
        refine px_bipush dX11_readsFrame_58 bp_16 ?_
        refine px_goto 65 dX11_readsFrame_60 rfl ?_
        refine px_top (y := (if i < 3 then (16 : Int32) else 9)) (by first | exact (if_pos h3b).symm | exact (if_neg h3b).symm) ?_
        refine px_gV3 dX11_readsFrame_65 kX11_readsFrame_132 (xol rfl) hm (Nat.le_of_ble_eq_true rfl) (c_X11_number (j := ps b N p i) (hk.r hr) (hl i) hra) (fun r65 M65 hq65 hn65 => ?_)
        obtain ⟨rfl, q1, q2, q3⟩ := hq65
        have hm5 : xNT ≤ xN M65 := by rw [hn65]; exact hm
        have hw5 : xWire M65.2.1 := by rw [q1.1]; exact hw
        refine px_cif_ne 73 dX11_readsFrame_68 rfl (fun h68 => ?_) (fun h68 => ?_)
        · have hnx : (nI (7 * n + i)).toNatClampNeg = 7 * n + i := nI_clamp (by omega)
          refine px_aload_n dX11_readsFrame_73 rfl rfl ?_
          refine px_getR dX11_readsFrame_74 fX11_32 (xol rfl) hm5 rfl (wr_11_22 hw5 (xol rfl)) (Nat.succ_pos _) ?_
          refine px_iload_n dX11_readsFrame_77 rfl rfl ?_
          refine px_iload dX11_readsFrame_78 rfl ?_
          refine px_iadd dX11_readsFrame_80 ?_
          refine px_top (y := nI (7 * n + i)) (nI_add _ _) ?_
          refine px_aload_n dX11_readsFrame_81 rfl rfl ?_
          refine px_getI dX11_readsFrame_82 fX11_119 (xol rfl) hm5 rfl ?_
          refine px_top (y := nI (vv b N p i)) (q2.2.2.2 h68.1) ?_
          refine px_iast dX11_readsFrame_85 (xal (n := 56) rfl) hm5 (vp_in_nI (by omega) (by decide)) ?_
          refine px_mem (M' := (wI M65 82 (7 * n + i) (nI (vv b N p i)))) (by rw [hnx]) ?_
          refine px_iload dX11_readsFrame_86 rfl ?_
          refine px_iconst dX11_readsFrame_88 ic_4 ?_
          refine px_icmp_le 127 dX11_readsFrame_89 rfl (fun h89 => ?_) (fun h89 => ?_)
          · have ci : fmC b N p i := (fm_i h1i (by omega)).mpr ⟨h68, fun h4 => by
              have := vv_le b N p i
              have := vv_le b N p (i - 2)
              have := vv_le b N p (i - 4)
              first
                | (rw [nI_ltI (by omega) (by omega)] at h119; exact h119)
                | (rw [show (4 : Int32) = nI 4 from rfl, nI_leI (by omega) (by omega)] at h89; omega)⟩
            refine px_inc_4 dX11_readsFrame_127 rfl ic_1 ?_
            refine px_goto 32 dX11_readsFrame_130 rfl ?_
            refine px_eq (by rw [nI_1]) rfl (nx hlt (by omega) _ ((hk.tr q1.q).g) (by rw [xI_wI, if_neg (fun z => by omega)]; exact q2.1) (fun k k1 => by rw [xI_wI, if_neg (fun z => by omega), q1.2.2 k (by omega)]; exact hkk k k1) (fun x x1 => by rw [xI_wI, if_neg (fun z => by omega), q1.2.1 82 (by decide)]; exact hlo x x1) (by rw [xI_wI, if_neg (fun z => by omega), q1.2.1 82 (by decide)]; exact h0) (fun x x1 x2 => ?_))
            by_cases ex : x = i
            · rw [ex]; exact ⟨ci, wI_self _ _ _ _⟩
            · exact ⟨(hv x x1 (by omega)).1, by rw [xI_wI, if_neg (fun z => by omega), q1.2.1 82 (by decide)]; exact (hv x x1 (by omega)).2⟩
          · have h4 : 4 < i := by rw [show (4 : Int32) = nI 4 from rfl, nI_leI (by omega) (by omega)] at h89; omega
            have hq : ∀ x, 1 ≤ x → x < i → (wI M65 82 (7 * n + i) (nI (vv b N p i))).1 82 (nI (7 * n + x)).toNatClampNeg = nI (vv b N p x) := fun x x1 x2 => by rw [nI_clamp (by omega), xI_wI, if_neg (fun z => by omega), q1.2.1 82 (by decide)]; exact (hv x x1 x2).2
            refine px_aload_n dX11_readsFrame_92 rfl rfl ?_
            refine px_getR dX11_readsFrame_93 fX11_32 (xol rfl) hm5 rfl (wr_11_22 hw5 (xol rfl)) (Nat.succ_pos _) ?_
            refine px_iload_n dX11_readsFrame_96 rfl rfl ?_
            refine px_iload dX11_readsFrame_97 rfl ?_
            refine px_iadd dX11_readsFrame_99 ?_
            refine px_top (y := nI (7 * n + i)) (nI_add _ _) ?_
            refine px_iconst dX11_readsFrame_100 ic_2 ?_
            refine px_isub dX11_readsFrame_101 ?_
            refine px_top (y := nI (7 * n + (i - 2))) (by rw [show (2 : Int32) = nI 2 from rfl, pk_sub (by omega)]; congr 1; omega) ?_
            refine px_iald dX11_readsFrame_102 (xal (n := 56) rfl) hm5 (vp_in_nI (by omega) (by decide)) ?_
            refine px_top (y := nI (vv b N p (i - 2))) (hq (i - 2) (by omega) (by omega)) ?_
            refine px_aload_n dX11_readsFrame_103 rfl rfl ?_
            refine px_getI dX11_readsFrame_104 fX11_119 (xol rfl) hm5 rfl ?_
            refine px_top (y := nI (vv b N p i)) (q2.2.2.2 h68.1) ?_
            refine px_iadd dX11_readsFrame_107 ?_
            refine px_top (y := nI (vv b N p (i - 2) + vv b N p i)) (nI_add _ _) ?_
            refine px_aload_n dX11_readsFrame_108 rfl rfl ?_
            refine px_getR dX11_readsFrame_109 fX11_32 (xol rfl) hm5 rfl (wr_11_22 hw5 (xol rfl)) (Nat.succ_pos _) ?_
            refine px_iload_n dX11_readsFrame_112 rfl rfl ?_
            refine px_iload dX11_readsFrame_113 rfl ?_
            refine px_iadd dX11_readsFrame_115 ?_
            refine px_top (y := nI (7 * n + i)) (nI_add _ _) ?_
            refine px_iconst dX11_readsFrame_116 ic_4 ?_
            refine px_isub dX11_readsFrame_117 ?_
            refine px_top (y := nI (7 * n + (i - 4))) (by rw [show (4 : Int32) = nI 4 from rfl, pk_sub (by omega)]; congr 1; omega) ?_
            refine px_iald dX11_readsFrame_118 (xal (n := 56) rfl) hm5 (vp_in_nI (by omega) (by decide)) ?_
            refine px_top (y := nI (vv b N p (i - 4))) (hq (i - 4) (by omega) (by omega)) ?_
            refine px_icmp_lt 127 dX11_readsFrame_119 rfl (fun h119 => ?_) (fun h119 => ?_)
            · have ci : fmC b N p i := (fm_i h1i (by omega)).mpr ⟨h68, fun h4 => by
                have := vv_le b N p i
                have := vv_le b N p (i - 2)
                have := vv_le b N p (i - 4)
                first
                  | (rw [nI_ltI (by omega) (by omega)] at h119; exact h119)
                  | (rw [show (4 : Int32) = nI 4 from rfl, nI_leI (by omega) (by omega)] at h89; omega)⟩
              refine px_inc_4 dX11_readsFrame_127 rfl ic_1 ?_
              refine px_goto 32 dX11_readsFrame_130 rfl ?_
              refine px_eq (by rw [nI_1]) rfl (nx hlt (by omega) _ ((hk.tr q1.q).g) (by rw [xI_wI, if_neg (fun z => by omega)]; exact q2.1) (fun k k1 => by rw [xI_wI, if_neg (fun z => by omega), q1.2.2 k (by omega)]; exact hkk k k1) (fun x x1 => by rw [xI_wI, if_neg (fun z => by omega), q1.2.1 82 (by decide)]; exact hlo x x1) (by rw [xI_wI, if_neg (fun z => by omega), q1.2.1 82 (by decide)]; exact h0) (fun x x1 x2 => ?_))
              by_cases ex : x = i
              · rw [ex]; exact ⟨ci, wI_self _ _ _ _⟩
              · exact ⟨(hv x x1 (by omega)).1, by rw [xI_wI, if_neg (fun z => by omega), q1.2.1 82 (by decide)]; exact (hv x x1 (by omega)).2⟩
            · have ci : ¬ fmC b N p i := fun z => by
                have z2 := ((fm_i h1i (by omega)).mp z).2 h4
                have := vv_le b N p i
                have := vv_le b N p (i - 2)
                have := vv_le b N p (i - 4)
                exact h119 (by rw [nI_ltI (by omega) (by omega)]; exact z2)
              have e : ff (fmC b N p) 7 1 = i := ff_at 7 1 i h1i (by omega) (fun x x1 x2 => (hv x x1 x2).1) ci
              have hno : ¬ (n < 8 ∧ ff (fmC b N p) 7 1 = 8) := fun z => by have := z.2; omega
              refine px_aload_n dX11_readsFrame_122 rfl rfl ?_
              refine px_fV0i dX11_readsFrame_123 kX11_readsFrame_128 (xol rfl) hm5 (Nat.le_of_ble_eq_true rfl) (c_X11_fails hm5) ?_
              exact px_zret dX11_readsFrame_126 rfl (by first | rfl | exact zb_nar | exact zc_nar) (by rw [zcF hno]; exact ⟨rfl, ((hk.tr q1.q).g).p (by omega), fun z => absurd z hno, fun _ => by rw [if_pos h8, e]; exact q2.2.1, fun k k1 _ => by rw [xI_wI, if_neg (fun z => by omega), xI_wI, if_neg (fun z => by omega), q1.2.2 k (by omega)]; exact hkk k k1, fun x x1 => by rw [xI_wI, if_neg (fun z => by omega), xI_wI, if_neg (fun z => by omega), q1.2.1 82 (by decide)]; exact hlo x x1⟩) (by first | exact hn65.trans hnm | exact hn145.trans hnm)
        · have ci : ¬ fmC b N p i := fun z => h68 ((fm_i h1i (by omega)).mp z).1
          have e : ff (fmC b N p) 7 1 = i := ff_at 7 1 i h1i (by omega) (fun x x1 x2 => (hv x x1 x2).1) ci
          have hno : ¬ (n < 8 ∧ ff (fmC b N p) 7 1 = 8) := fun z => by have := z.2; omega
          refine px_iconst dX11_readsFrame_71 ic_0 ?_
          exact px_zret dX11_readsFrame_72 rfl (by first | rfl | exact zb_nar | exact zc_nar) (by rw [zcF hno]; exact ⟨rfl, hk.tr q1.q, fun z => absurd z hno, fun _ => by rw [if_pos h8, e]; exact q3 h68, fun k k1 _ => by rw [q1.2.2 k (by omega)]; exact hkk k k1, fun x x1 => by rw [q1.2.1 82 (by decide)]; exact hlo x x1⟩) (by first | exact hn65.trans hnm | exact hn145.trans hnm)
    · have h3 : i < 3 := by rw [show (3 : Int32) = nI 3 from rfl, nI_leI (by omega) (by omega)] at h44; omega
      refine px_iconst dX11_readsFrame_47 ic_1 ?_
      refine px_goto 52 dX11_readsFrame_48 rfl ?_
      refine px_top (y := (if i < 3 then (1 : Int32) else 0)) (by first | exact (if_pos h3).symm | exact (if_neg h3).symm) ?_
      refine px_iload dX11_readsFrame_52 rfl ?_
      refine px_iconst dX11_readsFrame_54 ic_3 ?_
      refine px_icmp_ge 63 dX11_readsFrame_55 rfl (fun h55 => ?_) (fun h55 => ?_)
      · have h3b : ¬ i < 3 := by rw [show (3 : Int32) = nI 3 from rfl, nI_leI (by omega) (by omega)] at h55; omega
        refine px_bipush dX11_readsFrame_63 bp_9 ?_
        refine px_top (y := (if i < 3 then (16 : Int32) else 9)) (by first | exact (if_pos h3b).symm | exact (if_neg h3b).symm) ?_
        refine px_gV3 dX11_readsFrame_65 kX11_readsFrame_132 (xol rfl) hm (Nat.le_of_ble_eq_true rfl) (c_X11_number (j := ps b N p i) (hk.r hr) (hl i) hra) (fun r65 M65 hq65 hn65 => ?_)
        obtain ⟨rfl, q1, q2, q3⟩ := hq65
        have hm5 : xNT ≤ xN M65 := by rw [hn65]; exact hm
        have hw5 : xWire M65.2.1 := by rw [q1.1]; exact hw
        refine px_cif_ne 73 dX11_readsFrame_68 rfl (fun h68 => ?_) (fun h68 => ?_)
        · have hnx : (nI (7 * n + i)).toNatClampNeg = 7 * n + i := nI_clamp (by omega)
          refine px_aload_n dX11_readsFrame_73 rfl rfl ?_
          refine px_getR dX11_readsFrame_74 fX11_32 (xol rfl) hm5 rfl (wr_11_22 hw5 (xol rfl)) (Nat.succ_pos _) ?_
          refine px_iload_n dX11_readsFrame_77 rfl rfl ?_
          refine px_iload dX11_readsFrame_78 rfl ?_
          refine px_iadd dX11_readsFrame_80 ?_
          refine px_top (y := nI (7 * n + i)) (nI_add _ _) ?_
          refine px_aload_n dX11_readsFrame_81 rfl rfl ?_
          refine px_getI dX11_readsFrame_82 fX11_119 (xol rfl) hm5 rfl ?_
          refine px_top (y := nI (vv b N p i)) (q2.2.2.2 h68.1) ?_
          refine px_iast dX11_readsFrame_85 (xal (n := 56) rfl) hm5 (vp_in_nI (by omega) (by decide)) ?_
          refine px_mem (M' := (wI M65 82 (7 * n + i) (nI (vv b N p i)))) (by rw [hnx]) ?_
          refine px_iload dX11_readsFrame_86 rfl ?_
          refine px_iconst dX11_readsFrame_88 ic_4 ?_
          refine px_icmp_le 127 dX11_readsFrame_89 rfl (fun h89 => ?_) (fun h89 => ?_)
          · have ci : fmC b N p i := (fm_i h1i (by omega)).mpr ⟨h68, fun h4 => by
              have := vv_le b N p i
              have := vv_le b N p (i - 2)
              have := vv_le b N p (i - 4)
              first
                | (rw [nI_ltI (by omega) (by omega)] at h119; exact h119)
                | (rw [show (4 : Int32) = nI 4 from rfl, nI_leI (by omega) (by omega)] at h89; omega)⟩
            refine px_inc_4 dX11_readsFrame_127 rfl ic_1 ?_
            refine px_goto 32 dX11_readsFrame_130 rfl ?_
            refine px_eq (by rw [nI_1]) rfl (nx hlt (by omega) _ ((hk.tr q1.q).g) (by rw [xI_wI, if_neg (fun z => by omega)]; exact q2.1) (fun k k1 => by rw [xI_wI, if_neg (fun z => by omega), q1.2.2 k (by omega)]; exact hkk k k1) (fun x x1 => by rw [xI_wI, if_neg (fun z => by omega), q1.2.1 82 (by decide)]; exact hlo x x1) (by rw [xI_wI, if_neg (fun z => by omega), q1.2.1 82 (by decide)]; exact h0) (fun x x1 x2 => ?_))
            by_cases ex : x = i
            · rw [ex]; exact ⟨ci, wI_self _ _ _ _⟩
            · exact ⟨(hv x x1 (by omega)).1, by rw [xI_wI, if_neg (fun z => by omega), q1.2.1 82 (by decide)]; exact (hv x x1 (by omega)).2⟩
          · have h4 : 4 < i := by rw [show (4 : Int32) = nI 4 from rfl, nI_leI (by omega) (by omega)] at h89; omega
            have hq : ∀ x, 1 ≤ x → x < i → (wI M65 82 (7 * n + i) (nI (vv b N p i))).1 82 (nI (7 * n + x)).toNatClampNeg = nI (vv b N p x) := fun x x1 x2 => by rw [nI_clamp (by omega), xI_wI, if_neg (fun z => by omega), q1.2.1 82 (by decide)]; exact (hv x x1 x2).2
            refine px_aload_n dX11_readsFrame_92 rfl rfl ?_
            refine px_getR dX11_readsFrame_93 fX11_32 (xol rfl) hm5 rfl (wr_11_22 hw5 (xol rfl)) (Nat.succ_pos _) ?_
            refine px_iload_n dX11_readsFrame_96 rfl rfl ?_
            refine px_iload dX11_readsFrame_97 rfl ?_
            refine px_iadd dX11_readsFrame_99 ?_
            refine px_top (y := nI (7 * n + i)) (nI_add _ _) ?_
            refine px_iconst dX11_readsFrame_100 ic_2 ?_
            refine px_isub dX11_readsFrame_101 ?_
            refine px_top (y := nI (7 * n + (i - 2))) (by rw [show (2 : Int32) = nI 2 from rfl, pk_sub (by omega)]; congr 1; omega) ?_
            refine px_iald dX11_readsFrame_102 (xal (n := 56) rfl) hm5 (vp_in_nI (by omega) (by decide)) ?_
            refine px_top (y := nI (vv b N p (i - 2))) (hq (i - 2) (by omega) (by omega)) ?_
            refine px_aload_n dX11_readsFrame_103 rfl rfl ?_
            refine px_getI dX11_readsFrame_104 fX11_119 (xol rfl) hm5 rfl ?_
            refine px_top (y := nI (vv b N p i)) (q2.2.2.2 h68.1) ?_
            refine px_iadd dX11_readsFrame_107 ?_
            refine px_top (y := nI (vv b N p (i - 2) + vv b N p i)) (nI_add _ _) ?_
            refine px_aload_n dX11_readsFrame_108 rfl rfl ?_
            refine px_getR dX11_readsFrame_109 fX11_32 (xol rfl) hm5 rfl (wr_11_22 hw5 (xol rfl)) (Nat.succ_pos _) ?_
            refine px_iload_n dX11_readsFrame_112 rfl rfl ?_
            refine px_iload dX11_readsFrame_113 rfl ?_
            refine px_iadd dX11_readsFrame_115 ?_
            refine px_top (y := nI (7 * n + i)) (nI_add _ _) ?_
            refine px_iconst dX11_readsFrame_116 ic_4 ?_
            refine px_isub dX11_readsFrame_117 ?_
            refine px_top (y := nI (7 * n + (i - 4))) (by rw [show (4 : Int32) = nI 4 from rfl, pk_sub (by omega)]; congr 1; omega) ?_
            refine px_iald dX11_readsFrame_118 (xal (n := 56) rfl) hm5 (vp_in_nI (by omega) (by decide)) ?_
            refine px_top (y := nI (vv b N p (i - 4))) (hq (i - 4) (by omega) (by omega)) ?_
            refine px_icmp_lt 127 dX11_readsFrame_119 rfl (fun h119 => ?_) (fun h119 => ?_)
            · have ci : fmC b N p i := (fm_i h1i (by omega)).mpr ⟨h68, fun h4 => by
                have := vv_le b N p i
                have := vv_le b N p (i - 2)
                have := vv_le b N p (i - 4)
                first
                  | (rw [nI_ltI (by omega) (by omega)] at h119; exact h119)
                  | (rw [show (4 : Int32) = nI 4 from rfl, nI_leI (by omega) (by omega)] at h89; omega)⟩
              refine px_inc_4 dX11_readsFrame_127 rfl ic_1 ?_
              refine px_goto 32 dX11_readsFrame_130 rfl ?_
              refine px_eq (by rw [nI_1]) rfl (nx hlt (by omega) _ ((hk.tr q1.q).g) (by rw [xI_wI, if_neg (fun z => by omega)]; exact q2.1) (fun k k1 => by rw [xI_wI, if_neg (fun z => by omega), q1.2.2 k (by omega)]; exact hkk k k1) (fun x x1 => by rw [xI_wI, if_neg (fun z => by omega), q1.2.1 82 (by decide)]; exact hlo x x1) (by rw [xI_wI, if_neg (fun z => by omega), q1.2.1 82 (by decide)]; exact h0) (fun x x1 x2 => ?_))
              by_cases ex : x = i
              · rw [ex]; exact ⟨ci, wI_self _ _ _ _⟩
              · exact ⟨(hv x x1 (by omega)).1, by rw [xI_wI, if_neg (fun z => by omega), q1.2.1 82 (by decide)]; exact (hv x x1 (by omega)).2⟩
            · have ci : ¬ fmC b N p i := fun z => by
                have z2 := ((fm_i h1i (by omega)).mp z).2 h4
                have := vv_le b N p i
                have := vv_le b N p (i - 2)
                have := vv_le b N p (i - 4)
                exact h119 (by rw [nI_ltI (by omega) (by omega)]; exact z2)
              have e : ff (fmC b N p) 7 1 = i := ff_at 7 1 i h1i (by omega) (fun x x1 x2 => (hv x x1 x2).1) ci
              have hno : ¬ (n < 8 ∧ ff (fmC b N p) 7 1 = 8) := fun z => by have := z.2; omega
              refine px_aload_n dX11_readsFrame_122 rfl rfl ?_
              refine px_fV0i dX11_readsFrame_123 kX11_readsFrame_128 (xol rfl) hm5 (Nat.le_of_ble_eq_true rfl) (c_X11_fails hm5) ?_
              exact px_zret dX11_readsFrame_126 rfl (by first | rfl | exact zb_nar | exact zc_nar) (by rw [zcF hno]; exact ⟨rfl, ((hk.tr q1.q).g).p (by omega), fun z => absurd z hno, fun _ => by rw [if_pos h8, e]; exact q2.2.1, fun k k1 _ => by rw [xI_wI, if_neg (fun z => by omega), xI_wI, if_neg (fun z => by omega), q1.2.2 k (by omega)]; exact hkk k k1, fun x x1 => by rw [xI_wI, if_neg (fun z => by omega), xI_wI, if_neg (fun z => by omega), q1.2.1 82 (by decide)]; exact hlo x x1⟩) (by first | exact hn65.trans hnm | exact hn145.trans hnm)
        · have ci : ¬ fmC b N p i := fun z => h68 ((fm_i h1i (by omega)).mp z).1
          have e : ff (fmC b N p) 7 1 = i := ff_at 7 1 i h1i (by omega) (fun x x1 x2 => (hv x x1 x2).1) ci
          have hno : ¬ (n < 8 ∧ ff (fmC b N p) 7 1 = 8) := fun z => by have := z.2; omega
          refine px_iconst dX11_readsFrame_71 ic_0 ?_
          exact px_zret dX11_readsFrame_72 rfl (by first | rfl | exact zb_nar | exact zc_nar) (by rw [zcF hno]; exact ⟨rfl, hk.tr q1.q, fun z => absurd z hno, fun _ => by rw [if_pos h8, e]; exact q3 h68, fun k k1 _ => by rw [q1.2.2 k (by omega)]; exact hkk k k1, fun x x1 => by rw [q1.2.1 82 (by decide)]; exact hlo x x1⟩) (by first | exact hn65.trans hnm | exact hn145.trans hnm)
      · have h3b : i < 3 := by rw [show (3 : Int32) = nI 3 from rfl, nI_leI (by omega) (by omega)] at h55; omega
        refine px_bipush dX11_readsFrame_58 bp_16 ?_
        refine px_goto 65 dX11_readsFrame_60 rfl ?_
        refine px_top (y := (if i < 3 then (16 : Int32) else 9)) (by first | exact (if_pos h3b).symm | exact (if_neg h3b).symm) ?_
        refine px_gV3 dX11_readsFrame_65 kX11_readsFrame_132 (xol rfl) hm (Nat.le_of_ble_eq_true rfl) (c_X11_number (j := ps b N p i) (hk.r hr) (hl i) hra) (fun r65 M65 hq65 hn65 => ?_)
        obtain ⟨rfl, q1, q2, q3⟩ := hq65
        have hm5 : xNT ≤ xN M65 := by rw [hn65]; exact hm
        have hw5 : xWire M65.2.1 := by rw [q1.1]; exact hw
        refine px_cif_ne 73 dX11_readsFrame_68 rfl (fun h68 => ?_) (fun h68 => ?_)
        · have hnx : (nI (7 * n + i)).toNatClampNeg = 7 * n + i := nI_clamp (by omega)
          refine px_aload_n dX11_readsFrame_73 rfl rfl ?_
          refine px_getR dX11_readsFrame_74 fX11_32 (xol rfl) hm5 rfl (wr_11_22 hw5 (xol rfl)) (Nat.succ_pos _) ?_
          refine px_iload_n dX11_readsFrame_77 rfl rfl ?_
          refine px_iload dX11_readsFrame_78 rfl ?_
          refine px_iadd dX11_readsFrame_80 ?_
          refine px_top (y := nI (7 * n + i)) (nI_add _ _) ?_
          refine px_aload_n dX11_readsFrame_81 rfl rfl ?_
          refine px_getI dX11_readsFrame_82 fX11_119 (xol rfl) hm5 rfl ?_
          refine px_top (y := nI (vv b N p i)) (q2.2.2.2 h68.1) ?_
          refine px_iast dX11_readsFrame_85 (xal (n := 56) rfl) hm5 (vp_in_nI (by omega) (by decide)) ?_
          refine px_mem (M' := (wI M65 82 (7 * n + i) (nI (vv b N p i)))) (by rw [hnx]) ?_
          refine px_iload dX11_readsFrame_86 rfl ?_
          refine px_iconst dX11_readsFrame_88 ic_4 ?_
          refine px_icmp_le 127 dX11_readsFrame_89 rfl (fun h89 => ?_) (fun h89 => ?_)
          · have ci : fmC b N p i := (fm_i h1i (by omega)).mpr ⟨h68, fun h4 => by
              have := vv_le b N p i
              have := vv_le b N p (i - 2)
              have := vv_le b N p (i - 4)
              first
                | (rw [nI_ltI (by omega) (by omega)] at h119; exact h119)
                | (rw [show (4 : Int32) = nI 4 from rfl, nI_leI (by omega) (by omega)] at h89; omega)⟩
            refine px_inc_4 dX11_readsFrame_127 rfl ic_1 ?_
            refine px_goto 32 dX11_readsFrame_130 rfl ?_
            refine px_eq (by rw [nI_1]) rfl (nx hlt (by omega) _ ((hk.tr q1.q).g) (by rw [xI_wI, if_neg (fun z => by omega)]; exact q2.1) (fun k k1 => by rw [xI_wI, if_neg (fun z => by omega), q1.2.2 k (by omega)]; exact hkk k k1) (fun x x1 => by rw [xI_wI, if_neg (fun z => by omega), q1.2.1 82 (by decide)]; exact hlo x x1) (by rw [xI_wI, if_neg (fun z => by omega), q1.2.1 82 (by decide)]; exact h0) (fun x x1 x2 => ?_))
            by_cases ex : x = i
            · rw [ex]; exact ⟨ci, wI_self _ _ _ _⟩
            · exact ⟨(hv x x1 (by omega)).1, by rw [xI_wI, if_neg (fun z => by omega), q1.2.1 82 (by decide)]; exact (hv x x1 (by omega)).2⟩
          · have h4 : 4 < i := by rw [show (4 : Int32) = nI 4 from rfl, nI_leI (by omega) (by omega)] at h89; omega
            have hq : ∀ x, 1 ≤ x → x < i → (wI M65 82 (7 * n + i) (nI (vv b N p i))).1 82 (nI (7 * n + x)).toNatClampNeg = nI (vv b N p x) := fun x x1 x2 => by rw [nI_clamp (by omega), xI_wI, if_neg (fun z => by omega), q1.2.1 82 (by decide)]; exact (hv x x1 x2).2
            refine px_aload_n dX11_readsFrame_92 rfl rfl ?_
            refine px_getR dX11_readsFrame_93 fX11_32 (xol rfl) hm5 rfl (wr_11_22 hw5 (xol rfl)) (Nat.succ_pos _) ?_
            refine px_iload_n dX11_readsFrame_96 rfl rfl ?_
            refine px_iload dX11_readsFrame_97 rfl ?_
            refine px_iadd dX11_readsFrame_99 ?_
            refine px_top (y := nI (7 * n + i)) (nI_add _ _) ?_
            refine px_iconst dX11_readsFrame_100 ic_2 ?_
            refine px_isub dX11_readsFrame_101 ?_
            refine px_top (y := nI (7 * n + (i - 2))) (by rw [show (2 : Int32) = nI 2 from rfl, pk_sub (by omega)]; congr 1; omega) ?_
            refine px_iald dX11_readsFrame_102 (xal (n := 56) rfl) hm5 (vp_in_nI (by omega) (by decide)) ?_
            refine px_top (y := nI (vv b N p (i - 2))) (hq (i - 2) (by omega) (by omega)) ?_
            refine px_aload_n dX11_readsFrame_103 rfl rfl ?_
            refine px_getI dX11_readsFrame_104 fX11_119 (xol rfl) hm5 rfl ?_
            refine px_top (y := nI (vv b N p i)) (q2.2.2.2 h68.1) ?_
            refine px_iadd dX11_readsFrame_107 ?_
            refine px_top (y := nI (vv b N p (i - 2) + vv b N p i)) (nI_add _ _) ?_
            refine px_aload_n dX11_readsFrame_108 rfl rfl ?_
            refine px_getR dX11_readsFrame_109 fX11_32 (xol rfl) hm5 rfl (wr_11_22 hw5 (xol rfl)) (Nat.succ_pos _) ?_
            refine px_iload_n dX11_readsFrame_112 rfl rfl ?_
            refine px_iload dX11_readsFrame_113 rfl ?_
            refine px_iadd dX11_readsFrame_115 ?_
            refine px_top (y := nI (7 * n + i)) (nI_add _ _) ?_
            refine px_iconst dX11_readsFrame_116 ic_4 ?_
            refine px_isub dX11_readsFrame_117 ?_
            refine px_top (y := nI (7 * n + (i - 4))) (by rw [show (4 : Int32) = nI 4 from rfl, pk_sub (by omega)]; congr 1; omega) ?_
            refine px_iald dX11_readsFrame_118 (xal (n := 56) rfl) hm5 (vp_in_nI (by omega) (by decide)) ?_
            refine px_top (y := nI (vv b N p (i - 4))) (hq (i - 4) (by omega) (by omega)) ?_
            refine px_icmp_lt 127 dX11_readsFrame_119 rfl (fun h119 => ?_) (fun h119 => ?_)
            · have ci : fmC b N p i := (fm_i h1i (by omega)).mpr ⟨h68, fun h4 => by
                have := vv_le b N p i
                have := vv_le b N p (i - 2)
                have := vv_le b N p (i - 4)
                first
                  | (rw [nI_ltI (by omega) (by omega)] at h119; exact h119)
                  | (rw [show (4 : Int32) = nI 4 from rfl, nI_leI (by omega) (by omega)] at h89; omega)⟩
              refine px_inc_4 dX11_readsFrame_127 rfl ic_1 ?_
              refine px_goto 32 dX11_readsFrame_130 rfl ?_
              refine px_eq (by rw [nI_1]) rfl (nx hlt (by omega) _ ((hk.tr q1.q).g) (by rw [xI_wI, if_neg (fun z => by omega)]; exact q2.1) (fun k k1 => by rw [xI_wI, if_neg (fun z => by omega), q1.2.2 k (by omega)]; exact hkk k k1) (fun x x1 => by rw [xI_wI, if_neg (fun z => by omega), q1.2.1 82 (by decide)]; exact hlo x x1) (by rw [xI_wI, if_neg (fun z => by omega), q1.2.1 82 (by decide)]; exact h0) (fun x x1 x2 => ?_))
              by_cases ex : x = i
              · rw [ex]; exact ⟨ci, wI_self _ _ _ _⟩
              · exact ⟨(hv x x1 (by omega)).1, by rw [xI_wI, if_neg (fun z => by omega), q1.2.1 82 (by decide)]; exact (hv x x1 (by omega)).2⟩
            · have ci : ¬ fmC b N p i := fun z => by
                have z2 := ((fm_i h1i (by omega)).mp z).2 h4
                have := vv_le b N p i
                have := vv_le b N p (i - 2)
                have := vv_le b N p (i - 4)
                exact h119 (by rw [nI_ltI (by omega) (by omega)]; exact z2)
              have e : ff (fmC b N p) 7 1 = i := ff_at 7 1 i h1i (by omega) (fun x x1 x2 => (hv x x1 x2).1) ci
              have hno : ¬ (n < 8 ∧ ff (fmC b N p) 7 1 = 8) := fun z => by have := z.2; omega
              refine px_aload_n dX11_readsFrame_122 rfl rfl ?_
              refine px_fV0i dX11_readsFrame_123 kX11_readsFrame_128 (xol rfl) hm5 (Nat.le_of_ble_eq_true rfl) (c_X11_fails hm5) ?_
              exact px_zret dX11_readsFrame_126 rfl (by first | rfl | exact zb_nar | exact zc_nar) (by rw [zcF hno]; exact ⟨rfl, ((hk.tr q1.q).g).p (by omega), fun z => absurd z hno, fun _ => by rw [if_pos h8, e]; exact q2.2.1, fun k k1 _ => by rw [xI_wI, if_neg (fun z => by omega), xI_wI, if_neg (fun z => by omega), q1.2.2 k (by omega)]; exact hkk k k1, fun x x1 => by rw [xI_wI, if_neg (fun z => by omega), xI_wI, if_neg (fun z => by omega), q1.2.1 82 (by decide)]; exact hlo x x1⟩) (by first | exact hn65.trans hnm | exact hn145.trans hnm)
        · have ci : ¬ fmC b N p i := fun z => h68 ((fm_i h1i (by omega)).mp z).1
          have e : ff (fmC b N p) 7 1 = i := ff_at 7 1 i h1i (by omega) (fun x x1 x2 => (hv x x1 x2).1) ci
          have hno : ¬ (n < 8 ∧ ff (fmC b N p) 7 1 = 8) := fun z => by have := z.2; omega
          refine px_iconst dX11_readsFrame_71 ic_0 ?_
          exact px_zret dX11_readsFrame_72 rfl (by first | rfl | exact zb_nar | exact zc_nar) (by rw [zcF hno]; exact ⟨rfl, hk.tr q1.q, fun z => absurd z hno, fun _ => by rw [if_pos h8, e]; exact q3 h68, fun k k1 _ => by rw [q1.2.2 k (by omega)]; exact hkk k k1, fun x x1 => by rw [q1.2.1 82 (by decide)]; exact hlo x x1⟩) (by first | exact hn65.trans hnm | exact hn145.trans hnm)

set_option maxRecDepth 100000 in
theorem c_X11_readsFrame {E : xE} {M : xMem} {t N p n : Nat} {b : Nat → Int32} {kd : Int32} (hr : mrd M t N b) (hp : p ≤ N) (hn8 : n ≤ 8) (hra : M.1 74 13 = nI (ps b N p 1)) (hta : M.1 74 14 = nI (tF b N p)) (hmn : M.1 74 21 = nI n) : Ct E mX11_readsFrame [.ref 74, .int (nI t), .int kd] M (xN M) (fun r m => r = some (.int (zc (n < 8 ∧ ff (fmC b N p) 7 1 = 8))) ∧ mpS M m ∧ ((n < 8 ∧ ff (fmC b N p) 7 1 = 8) → m.1 74 13 = nI (ps b N p 8) ∧ m.1 74 21 = nI (n + 1) ∧ m.1 82 (7 * n) = kd ∧ ∀ q, 1 ≤ q → q ≤ 6 → m.1 82 (7 * n + q) = nI (vv b N p q)) ∧ (¬ (n < 8 ∧ ff (fmC b N p) 7 1 = 8) → m.1 74 17 = nI (tF b N (if n < 8 then ps b N p (ff (fmC b N p) 7 1) else p))) ∧ (∀ k, 17 < k → k ≠ 21 → m.1 74 k = M.1 74 k) ∧ ∀ i, i < 7 * n → m.1 82 i = M.1 82 i) := by
  have hM := hr.1
  have hW := hr.2.1
  have hl := fun k => ps_le (b := b) hp k
  refine Ct.of (lo := [some (.ref 74), some (.int (nI t)), some (.int kd), none, none]) pln_X11 (Nat.le_of_ble_eq_true rfl) rfl (Nat.le_refl _) ?_
  refine px_aload_n dX11_readsFrame_0 rfl rfl ?_
  refine px_getI dX11_readsFrame_1 fX11_147 (xol rfl) hM rfl ?_
  refine px_top (y := nI n) hmn ?_
  refine px_bipush dX11_readsFrame_4 bp_8 ?_
  refine px_icmp_ne 14 dX11_readsFrame_6 rfl (fun h6 => ?_) (fun h6 => ?_)
  · have h8 : n < 8 := by rw [show (8 : Int32) = nI 8 from rfl, nI_eq (by omega) (by decide)] at h6; omega
    have hnx : (nI (7 * n)).toNatClampNeg = 7 * n := nI_clamp (by omega)
    refine px_bipush dX11_readsFrame_14 bp_7 ?_
    refine px_aload_n dX11_readsFrame_16 rfl rfl ?_
    refine px_getI dX11_readsFrame_17 fX11_147 (xol rfl) hM rfl ?_
    refine px_top (y := nI n) hmn ?_
    refine px_imul dX11_readsFrame_20 ?_
    refine px_top (y := nI (7 * n)) (by rw [show (7 : Int32) = nI 7 from rfl, pk_mul]) ?_
    refine px_si_3 dX11_readsFrame_21 rfl ?_
    refine px_aload_n dX11_readsFrame_22 rfl rfl ?_
    refine px_getR dX11_readsFrame_23 fX11_32 (xol rfl) hM rfl (wr_11_22 hW (xol rfl)) (Nat.succ_pos _) ?_
    refine px_iload_n dX11_readsFrame_26 rfl rfl ?_
    refine px_iload_n dX11_readsFrame_27 rfl rfl ?_
    refine px_iast dX11_readsFrame_28 (xal (n := 56) rfl) hM (vp_in_nI (by omega) (by decide)) ?_
    refine px_mem (M' := wI M 82 (7 * n) kd) (by rw [hnx]) ?_
    refine px_iconst dX11_readsFrame_29 ic_1 ?_
    refine px_si_4 dX11_readsFrame_30 rfl ?_
    exact l_rf32 hr hp hn8 h8 hmn (Nat.le_refl _) _ ((mpS.rf M).g) hra (fun k _ => rfl) (fun x x1 => by rw [xI_wI, if_neg (fun z => by omega)]) (wI_self _ _ _ _) (fun q q1 q2 => by omega)
  · have h8 : ¬ n < 8 := by rw [show (8 : Int32) = nI 8 from rfl, nI_eq (by omega) (by decide)] at h6; omega
    refine px_aload_n dX11_readsFrame_9 rfl rfl ?_
    refine px_fV0i dX11_readsFrame_10 kX11_readsFrame_128 (xol rfl) hM (Nat.le_of_ble_eq_true rfl) (c_X11_fails hM) ?_
    exact px_zret dX11_readsFrame_13 rfl (by first | rfl | exact zb_nar | exact zc_nar) (by rw [zcF (fun z => h8 z.1)]; exact ⟨rfl, (mpS.rf M).p (by omega), fun z => absurd z.1 h8, fun _ => by rw [if_neg h8]; exact hta, fun k k1 _ => by rw [xI_wI, if_neg (fun z => by omega)], fun _ _ => rfl⟩) (rfl)
