/-! ===== frames written, reference ===== -/
theorem mkwc : (3544025 : Int32) = nI (wC 2) ∧ (179753 : Int32) = nI (wC 3) ∧ (37026792 : Int32) = nI (wC 4) ∧ (247335 : Int32) = nI (wC 5) ∧ (315851 : Int32) = nI (wC 0) ∧ (1302862 : Int32) = nI (wC 1) := by decide +kernel
theorem mk0 {k : Nat} (hk : k ≤ 3) (h : nI k = 0) : nI (wC 2) = nI (wC (k + 2)) := by
  have e : k = 0 := nI_is (show (0 : Int32) = nI 0 from rfl) (by omega) (by decide) h
  rw [e]
theorem mk1 {k : Nat} (hk : k ≤ 3) (h : nI k = 1) : nI (wC 3) = nI (wC (k + 2)) := by
  have e : k = 1 := nI_is (show (1 : Int32) = nI 1 from rfl) (by omega) (by decide) h
  rw [e]
theorem mk2 {k : Nat} (hk : k ≤ 3) (h : nI k = 2) : nI (wC 4) = nI (wC (k + 2)) := by
  have e : k = 2 := nI_is (show (2 : Int32) = nI 2 from rfl) (by omega) (by decide) h
  rw [e]
theorem mk3 {k : Nat} (hk : k ≤ 3) (h0 : ¬ nI k = 0) (h1 : ¬ nI k = 1) (h2 : ¬ nI k = 2) : nI (wC 5) = nI (wC (k + 2)) := by
  have e0 : k ≠ 0 := fun z => h0 (by rw [z]; rfl)
  have e1 : k ≠ 1 := fun z => h1 (by rw [z]; rfl)
  have e2 : k ≠ 2 := fun z => h2 (by rw [z]; rfl)
  rw [show k = 3 by omega]
theorem mShw {M m : xMem} {n W H B : Nat} {g : Nat → Nat → Nat} (h : wrG 74 24 84 M m) (hc : mSh M n W H B g) : mSh m n W H B g := by
  refine ⟨by rw [h.2.2 11 (by decide)]; exact hc.1, by rw [h.2.2 8 (by decide)]; exact hc.2.1, by rw [h.2.2 9 (by decide)]; exact hc.2.2.1, by rw [h.2.2 10 (by decide)]; exact hc.2.2.2.1, fun f hf j hj => ?_⟩
  rw [h.2.1 81 (by decide) (by decide)]
  exact hc.2.2.2.2 f hf j hj

set_option maxRecDepth 100000 in
theorem l_mw133 {E : xE} {M : xMem} {s0 : aW} {f : Nat} {v kk : Int32} {QQ : Option Value → xMem → Prop} {n W H B : Nat} {g : Nat → Nat → Nat} (hM : xNT ≤ xN M) (hW : xWire M.2.1) (hsh : mSh M n W H B g) (hok : okSh n W H B g) (hf : f < n) (hb : s0.1 < 900) (hs0 : scG M 74 24 84 s0) (kf : ∀ m, wrG 74 24 84 M m → scG m 74 24 84 (adC (adNs s0 (g f) 6) 59) → PR E mX11_write (xN M) 81 [some (.ref 74), some (.int v), some (.int (nI (f + 1))), some (.int kk), some (.int (nI 7))] [] m QQ) : ∀ m, 1 ≤ (1) → wrG 74 24 84 M m → scG m 74 24 84 (adNs s0 (g f) ((1) - 1)) → PR E mX11_write (xN M) 133 [some (.ref 74), some (.int v), some (.int (nI f)), some (.int kk), some (.int (nI (1)))] [] (m) (QQ) := by
  have h8 : n ≤ 8 := hok.1
  refine px_for (P := fun i => ∀ m, 1 ≤ i → wrG 74 24 84 M m → scG m 74 24 84 (adNs s0 (g f) (i - 1)) → PR E mX11_write (xN M) 133 [some (.ref 74), some (.int v), some (.int (nI f)), some (.int kk), some (.int (nI i))] [] (m) (QQ)) (7) (fun i hi nx => ?_) (1) (by decide)
  intro m i1 g1 g2
  have hnm : xN m = xN M := by show m.2.2.2 = M.2.2.2; rw [g1.1]
  have hM : xNT ≤ xN m := by rw [hnm]; exact hM
  have hW : xWire m.2.1 := by rw [g1.1]; exact hW
  have hsm := mShw g1 hsh
  have hnb := adNs_b s0 (g f) (i - 1)
  refine px_iload dX11_write_133 rfl ?_
  refine px_bipush dX11_write_135 bp_7 ?_
  refine px_icmp_ge 162 dX11_write_137 rfl (fun h137 => ?_) (fun h137 => ?_)
  · have hi2 : i = 7 := by rw [show (7 : Int32) = nI 7 from rfl, nI_leI (by omega) (by omega)] at h137; omega
    rw [hi2] at g2 hnb
    refine px_aload_n dX11_write_162 rfl rfl ?_
    refine px_bipush dX11_write_163 bp_59 ?_
    refine px_gV1 dX11_write_165 kX11_write_191 (xol rfl) hM (Nat.le_of_ble_eq_true rfl) (c_X11_writes hM hW g2 (by show (adNs s0 (g f) (7 - 1)).1 < 1000; omega)) (fun r165 M165 hq165 hn165 => ?_)
    obtain ⟨rfl, q165, s165⟩ := hq165
    refine px_inc_2 dX11_write_168 rfl ic_1 ?_
    refine px_goto 81 dX11_write_171 rfl ?_
    exact px_eq (by rw [nI_1, hi2]) rfl (kf _ (wrGtr g1 q165) s165)
  · have hlt : i < 7 := by rw [show (7 : Int32) = nI 7 from rfl, nI_leI (by omega) (by omega)] at h137; omega
    refine px_aload_n dX11_write_140 rfl rfl ?_
    refine px_aload_n dX11_write_141 rfl rfl ?_
    refine px_getR dX11_write_142 fX11_29 (xol rfl) hM rfl (wr_11_12 hW (xol rfl)) (Nat.succ_pos _) ?_
    refine px_bipush dX11_write_145 bp_7 ?_
    refine px_iload_n dX11_write_147 rfl rfl ?_
    refine px_imul dX11_write_148 ?_
    refine px_iload dX11_write_149 rfl ?_
    refine px_iadd dX11_write_151 ?_
    refine px_top (ixA 7 f i) ?_
    refine px_iald dX11_write_152 (xal (n := 56) rfl) hM (vp_in_nI (by omega) (by decide)) ?_
    refine px_top (y := nI (g f i)) (by rw [nI_clamp (by omega)]; exact hsm.2.2.2.2 f hf i hlt) ?_
    refine px_gV1 dX11_write_153 kX11_write_197 (xol rfl) hM (Nat.le_of_ble_eq_true rfl) (c_X11_writesNumber (s := adNs s0 (g f) (i - 1)) (x := nI (g f i)) hM hW g2 (by omega)) (fun r153 M153 hq153 hn153 => ?_)
    obtain ⟨rfl, q153, s153⟩ := hq153
    refine px_inc_4 dX11_write_156 rfl ic_1 ?_
    refine px_goto 133 dX11_write_159 rfl ?_
    exact px_eq (by rw [nI_1]) rfl (nx hlt _ (by omega) (wrGtr g1 q153) (by rw [show i + 1 - 1 = (i - 1) + 1 by omega]; show scG M153 74 24 84 (adN (adNs s0 (g f) (i - 1)) (nI (g f (i - 1 + 1)))); rw [show i - 1 + 1 = i by omega]; exact s153))

set_option maxRecDepth 100000 in
theorem l_mw81 {E : xE} {M : xMem} {s0 : aW} {v : Int32} {QQ : Option Value → xMem → Prop} {n W H B : Nat} {g : Nat → Nat → Nat} (hM : xNT ≤ xN M) (hW : xWire M.2.1) (hsh : mSh M n W H B g) (hok : okSh n W H B g) (hb : s0.1 < 300) (kf : ∀ m (x2 x3 x4 : Option Value), xnl x2 = true → wrG 74 24 84 M m → scG m 74 24 84 (adFs s0 g n) → PR E mX11_write (xN M) 174 [some (.ref 74), some (.int v), x2, x3, x4] [] m QQ) : ∀ m (x3 x4 : Option Value), wrG 74 24 84 M m → scG m 74 24 84 (adFs s0 g 0) → PR E mX11_write (xN M) 81 [some (.ref 74), some (.int v), some (.int (nI 0)), x3, x4] [] (m) (QQ) := by
  have h8 : n ≤ 8 := hok.1
  refine px_for (P := fun i => ∀ m (x3 x4 : Option Value), wrG 74 24 84 M m → scG m 74 24 84 (adFs s0 g i) → PR E mX11_write (xN M) 81 [some (.ref 74), some (.int v), some (.int (nI i)), x3, x4] [] (m) (QQ)) (n) (fun i hi nx => ?_) (0) (Nat.zero_le _)
  intro m x3 x4 g1 g2
  have hnm : xN m = xN M := by show m.2.2.2 = M.2.2.2; rw [g1.1]
  have hM : xNT ≤ xN m := by rw [hnm]; exact hM
  have hW : xWire m.2.1 := by rw [g1.1]; exact hW
  have hsm := mShw g1 hsh
  have hfb := adFs_b s0 g i (fun f hf => (hok.2.2.2.2.2 f (by omega)).1)
  refine px_iload_n dX11_write_81 rfl rfl ?_
  refine px_aload_n dX11_write_82 rfl rfl ?_
  refine px_getI dX11_write_83 fX11_179 (xol rfl) hM rfl ?_
  refine px_top (y := nI n) hsm.1 ?_
  refine px_icmp_ge 174 dX11_write_86 rfl (fun h86 => ?_) (fun h86 => ?_)
  · have hi2 : i = n := by rw [nI_leI (by omega) (by omega)] at h86; omega
    exact kf _ _ _ _ rfl g1 (by rw [hi2] at g2; exact g2)
  · have hlt : i < n := by rw [nI_leI (by omega) (by omega)] at h86; omega
    have hk3 : g i 0 ≤ 3 := (hok.2.2.2.2.2 i hlt).1
    refine px_aload_n dX11_write_89 rfl rfl ?_
    refine px_iload_n dX11_write_90 rfl rfl ?_
    refine px_fV1i dX11_write_91 kX11_write_201 (xol rfl) hM (Nat.le_of_ble_eq_true rfl) (c_X11_kindOf (f := i) (by omega) hM hW) ?_
    refine px_top (y := nI (g i 0)) (hsm.2.2.2.2 i hlt 0 (by decide)) ?_
    refine px_si_3 dX11_write_94 rfl ?_
    refine px_aload_n dX11_write_95 rfl rfl ?_
    refine px_iload_n dX11_write_96 rfl rfl ?_
    refine px_if_ne 105 dX11_write_97 rfl (fun h97 => ?_) (fun h97 => ?_)
    · refine px_iload_n dX11_write_105 rfl rfl ?_
      refine px_iconst dX11_write_106 ic_1 ?_
      refine px_icmp_ne 115 dX11_write_107 rfl (fun h107 => ?_) (fun h107 => ?_)
      · refine px_iload_n dX11_write_115 rfl rfl ?_
        refine px_iconst dX11_write_116 ic_2 ?_
        refine px_icmp_ne 125 dX11_write_117 rfl (fun h117 => ?_) (fun h117 => ?_)
        · refine px_ldc dX11_write_125 xw1320 ?_
          first | refine px_top (y := nI (wC (g i 0 + 2))) (mk0 hk3 h97) ?_ | refine px_top (y := nI (wC (g i 0 + 2))) (mk1 hk3 h107) ?_ | refine px_top (y := nI (wC (g i 0 + 2))) (mk2 hk3 h117) ?_ | refine px_top (y := nI (wC (g i 0 + 2))) (mkwc.2.2.2.1.trans (mk3 hk3 h97 h107 h117)) ?_
          refine px_gV1 dX11_write_127 kX11_write_194 (xol rfl) hM (Nat.le_of_ble_eq_true rfl) (c_X11_writesWord (w := g i 0 + 2) (s := adFs s0 g i) hM hW (by omega) g2 (by omega)) (fun r127 M127 hq127 hn127 => ?_)
          obtain ⟨rfl, q127, s127⟩ := hq127
          refine px_iconst dX11_write_130 ic_1 ?_
          refine px_si_4 dX11_write_131 rfl ?_
          have hM' : xNT ≤ xN M127 := by rw [hn127]; exact hM
          have hW' : xWire M127.2.1 := by rw [q127.1]; exact hW
          have hwb := adW_b (adFs s0 g i) (i := g i 0 + 2) (by omega)
          have hx := l_mw133 (E := E) (M := M127) (s0 := adW (adFs s0 g i) (g i 0 + 2)) (f := i) (v := v) (kk := nI (g i 0)) (QQ := QQ) hM' hW' (mShw q127 hsm) hok hlt (by omega) s127 (fun m' y1 y2 => by
            rw [hn127, hnm]
            exact nx hlt m' _ _ (wrGtr g1 (wrGtr q127 y1)) y2) M127 (by decide) (wrGrf _ _ _ _) s127
          rw [hn127, hnm] at hx
          exact hx
        · refine px_ldc dX11_write_120 xw1319 ?_
          refine px_top (y := nI (wC 4)) mkwc.2.2.1 ?_
          refine px_goto 127 dX11_write_122 rfl ?_
          first | refine px_top (y := nI (wC (g i 0 + 2))) (mk0 hk3 h97) ?_ | refine px_top (y := nI (wC (g i 0 + 2))) (mk1 hk3 h107) ?_ | refine px_top (y := nI (wC (g i 0 + 2))) (mk2 hk3 h117) ?_ | refine px_top (y := nI (wC (g i 0 + 2))) (mkwc.2.2.2.1.trans (mk3 hk3 h97 h107 h117)) ?_
          refine px_gV1 dX11_write_127 kX11_write_194 (xol rfl) hM (Nat.le_of_ble_eq_true rfl) (c_X11_writesWord (w := g i 0 + 2) (s := adFs s0 g i) hM hW (by omega) g2 (by omega)) (fun r127 M127 hq127 hn127 => ?_)
          obtain ⟨rfl, q127, s127⟩ := hq127
          refine px_iconst dX11_write_130 ic_1 ?_
          refine px_si_4 dX11_write_131 rfl ?_
          have hM' : xNT ≤ xN M127 := by rw [hn127]; exact hM
          have hW' : xWire M127.2.1 := by rw [q127.1]; exact hW
          have hwb := adW_b (adFs s0 g i) (i := g i 0 + 2) (by omega)
          have hx := l_mw133 (E := E) (M := M127) (s0 := adW (adFs s0 g i) (g i 0 + 2)) (f := i) (v := v) (kk := nI (g i 0)) (QQ := QQ) hM' hW' (mShw q127 hsm) hok hlt (by omega) s127 (fun m' y1 y2 => by
            rw [hn127, hnm]
            exact nx hlt m' _ _ (wrGtr g1 (wrGtr q127 y1)) y2) M127 (by decide) (wrGrf _ _ _ _) s127
          rw [hn127, hnm] at hx
          exact hx
      · refine px_ldc dX11_write_110 xw1318 ?_
        refine px_top (y := nI (wC 3)) mkwc.2.1 ?_
        refine px_goto 127 dX11_write_112 rfl ?_
        first | refine px_top (y := nI (wC (g i 0 + 2))) (mk0 hk3 h97) ?_ | refine px_top (y := nI (wC (g i 0 + 2))) (mk1 hk3 h107) ?_ | refine px_top (y := nI (wC (g i 0 + 2))) (mk2 hk3 h117) ?_ | refine px_top (y := nI (wC (g i 0 + 2))) (mkwc.2.2.2.1.trans (mk3 hk3 h97 h107 h117)) ?_
        refine px_gV1 dX11_write_127 kX11_write_194 (xol rfl) hM (Nat.le_of_ble_eq_true rfl) (c_X11_writesWord (w := g i 0 + 2) (s := adFs s0 g i) hM hW (by omega) g2 (by omega)) (fun r127 M127 hq127 hn127 => ?_)
        obtain ⟨rfl, q127, s127⟩ := hq127
        refine px_iconst dX11_write_130 ic_1 ?_
        refine px_si_4 dX11_write_131 rfl ?_
        have hM' : xNT ≤ xN M127 := by rw [hn127]; exact hM
        have hW' : xWire M127.2.1 := by rw [q127.1]; exact hW
        have hwb := adW_b (adFs s0 g i) (i := g i 0 + 2) (by omega)
        have hx := l_mw133 (E := E) (M := M127) (s0 := adW (adFs s0 g i) (g i 0 + 2)) (f := i) (v := v) (kk := nI (g i 0)) (QQ := QQ) hM' hW' (mShw q127 hsm) hok hlt (by omega) s127 (fun m' y1 y2 => by
          rw [hn127, hnm]
          exact nx hlt m' _ _ (wrGtr g1 (wrGtr q127 y1)) y2) M127 (by decide) (wrGrf _ _ _ _) s127
        rw [hn127, hnm] at hx
        exact hx
    · refine px_ldc dX11_write_100 xw1317 ?_
      refine px_top (y := nI (wC 2)) mkwc.1 ?_
      refine px_goto 127 dX11_write_102 rfl ?_
      first | refine px_top (y := nI (wC (g i 0 + 2))) (mk0 hk3 h97) ?_ | refine px_top (y := nI (wC (g i 0 + 2))) (mk1 hk3 h107) ?_ | refine px_top (y := nI (wC (g i 0 + 2))) (mk2 hk3 h117) ?_ | refine px_top (y := nI (wC (g i 0 + 2))) (mkwc.2.2.2.1.trans (mk3 hk3 h97 h107 h117)) ?_
      refine px_gV1 dX11_write_127 kX11_write_194 (xol rfl) hM (Nat.le_of_ble_eq_true rfl) (c_X11_writesWord (w := g i 0 + 2) (s := adFs s0 g i) hM hW (by omega) g2 (by omega)) (fun r127 M127 hq127 hn127 => ?_)
      obtain ⟨rfl, q127, s127⟩ := hq127
      refine px_iconst dX11_write_130 ic_1 ?_
      refine px_si_4 dX11_write_131 rfl ?_
      have hM' : xNT ≤ xN M127 := by rw [hn127]; exact hM
      have hW' : xWire M127.2.1 := by rw [q127.1]; exact hW
      have hwb := adW_b (adFs s0 g i) (i := g i 0 + 2) (by omega)
      have hx := l_mw133 (E := E) (M := M127) (s0 := adW (adFs s0 g i) (g i 0 + 2)) (f := i) (v := v) (kk := nI (g i 0)) (QQ := QQ) hM' hW' (mShw q127 hsm) hok hlt (by omega) s127 (fun m' y1 y2 => by
        rw [hn127, hnm]
        exact nx hlt m' _ _ (wrGtr g1 (wrGtr q127 y1)) y2) M127 (by decide) (wrGrf _ _ _ _) s127
      rw [hn127, hnm] at hx
      exact hx
