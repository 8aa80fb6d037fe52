set_option maxRecDepth 100000 in
theorem l_layFree_w {E : xE} {M : xMem} {W H : Nat} {o : Nat → Nat → Prop} {pg : Int32} {ne : Nat} (hM : xNT ≤ xN M) (hW : xWire M.2.1) (e8 : M.1 74 8 = nI W) (e9 : M.1 74 9 = nI H) (hW16 : W ≤ 16) (hH16 : H ≤ 16) (hg : gdM M o) (hne : xN M = ne) {x y : Nat} (hx : x < W) (hy : y < H) (kx : ∀ (M2 : xMem) (L2 : List gR), frI W H o ((y * 32 + (x + 1)) * 32 + 1) M M2 L2 → L2.length ≤ (y * 16 + (x + 1)) * 16 → PR E mX11_layFree ne 22 [some (.ref 74), some (.int pg), some (.int (nI y)), some (.int (nI (x + 1))), none, none, none] [] M2 (fun r m => r = none ∧ ∃ L, frFr M m ∧ frL m L ∧ gIs W H o L)) (w : Nat) (hw1 : 1 ≤ w) (hwW : w ≤ W + 1) : ∀ (M1 : xMem) (L : List gR) (most : Nat), frI W H o ((y * 32 + x) * 32 + w) M M1 L → L.length ≤ (y * 16 + x) * 16 + (w - 1) → x + (w - 1) ≤ W → 1 ≤ most → most ≤ 16 → ¬ gFree W H o x y w (most + 1) → PR E mX11_layFree ne 41 [some (.ref 74), some (.int pg), some (.int (nI y)), some (.int (nI x)), some (.int (nI most)), some (.int (nI w)), none] [] M1 (fun r m => r = none ∧ ∃ L, frFr M m ∧ frL m L ∧ gIs W H o L) := by
  refine px_for (P := fun w => 1 ≤ w → ∀ (M1 : xMem) (L : List gR) (most : Nat), frI W H o ((y * 32 + x) * 32 + w) M M1 L → L.length ≤ (y * 16 + x) * 16 + (w - 1) → x + (w - 1) ≤ W → 1 ≤ most → most ≤ 16 → ¬ gFree W H o x y w (most + 1) → PR E mX11_layFree ne 41 [some (.ref 74), some (.int pg), some (.int (nI y)), some (.int (nI x)), some (.int (nI most)), some (.int (nI w)), none] [] M1 (fun r m => r = none ∧ ∃ L, frFr M m ∧ frL m L ∧ gIs W H o L)) (W + 1) (fun w hwm nxw => ?_) w hwW hw1
  intro hw1 M1 L most hI hLl hxw1 hm1 hm16 hmost
  have f2 : M1.2 = M.2 := hI.1.1
  have hM1 : xNT ≤ xN M1 := by show xNT ≤ M1.2.2.2; rw [f2]; exact hM
  have hW1 : xWire M1.2.1 := by rw [f2]; exact hW
  have e81 : M1.1 74 8 = nI W := (hI.1.2.2 8 (by decide)).trans e8
  have e91 : M1.1 74 9 = nI H := (hI.1.2.2 9 (by decide)).trans e9
  have hg1 : gdM M1 o := fr_gd hI.1 hg
  refine px_aload_n dX11_layFree_41 rfl rfl ?_
  refine px_iload_n dX11_layFree_42 rfl rfl ?_
  refine px_iload_n dX11_layFree_43 rfl rfl ?_
  refine px_iload dX11_layFree_44 rfl ?_
  refine px_iconst dX11_layFree_46 ic_1 ?_
  refine px_fV4i dX11_layFree_47 kX11_layFree_235 (xol rfl) hM1 (Nat.le_of_ble_eq_true rfl) (c_X11_isFree hM1 hW1 e81 e91 hW16 hH16 hg1 (w := w) (h := 1) (le64 (by omega)) (le64 (by omega)) (by omega) (by omega)) ?_
  refine px_cif_eq 159 dX11_layFree_50 rfl (fun h50 => ?_) (fun h50 => ?_)
  · have hnf : ¬ gFree W H o x y w 1 := fun q => h50 ((fI_n (by omega) (by omega)).mpr q)
    refine px_inc_3 dX11_layFree_159 rfl ic_1 ?_
    refine px_goto 22 dX11_layFree_162 rfl ?_
    rw [nI_1 x]
    exact px_forget (by repeat' constructor) (kx M1 L (fr_K hI (by omega) (fun r hr hk => by
      apply Classical.byContradiction
      intro hc
      have hb := gMax_b hW16 hH16 hr
      obtain ⟨x2, y2, w2, h2⟩ := r
      simp only [gKey] at hk hc hb
      have e1 : x2 = x := by omega
      have e2 : y2 = y := by omega
      subst e1; subst e2
      exact hnf (gFree_mono hr.2.2.1 (by simp only; omega) (by simp only; omega)))) (by omega))
  · refine px_iconst dX11_layFree_53 ic_1 ?_
    refine px_si_6 dX11_layFree_54 rfl ?_
    have hf1 : gFree W H o x y w 1 := (fI_n (by omega) (by omega)).mp h50
    have hxw := hf1.1
    exact l_layFree_h hM hW e8 e9 hW16 hH16 hg hne hx hy (by omega) hm1 hm16 hf1 hmost hI hLl (fun h a1 a2 a3 a4 M2 L2 b1 b2 => nxw (by omega) (by omega) M2 L2 h b1 (by omega) (by omega) a1 a2 (fun q => a4 (gFree_mono q (by omega) (Nat.le_refl _))))

set_option maxRecDepth 100000 in
theorem l_layFree_x {E : xE} {M : xMem} {W H : Nat} {o : Nat → Nat → Prop} {pg : Int32} {ne : Nat} (hM : xNT ≤ xN M) (hW : xWire M.2.1) (e8 : M.1 74 8 = nI W) (e9 : M.1 74 9 = nI H) (hW16 : W ≤ 16) (hH16 : H ≤ 16) (hg : gdM M o) (hne : xN M = ne) {y : Nat} (hy : y < H) (ky : ∀ (M2 : xMem) (L2 : List gR), frI W H o ((y + 1) * 1024 + 1) M M2 L2 → L2.length ≤ (y + 1) * 256 → PR E mX11_layFree ne 12 [some (.ref 74), some (.int pg), some (.int (nI (y + 1))), none, none, none, none] [] M2 (fun r m => r = none ∧ ∃ L, frFr M m ∧ frL m L ∧ gIs W H o L)) : ∀ (M1 : xMem) (L : List gR), frI W H o ((y * 32 + 0) * 32 + 1) M M1 L → L.length ≤ (y * 16 + 0) * 16 → PR E mX11_layFree ne 22 [some (.ref 74), some (.int pg), some (.int (nI y)), some (.int (nI 0)), none, none, none] [] M1 (fun r m => r = none ∧ ∃ L, frFr M m ∧ frL m L ∧ gIs W H o L) := by
  refine px_for (P := fun x => ∀ (M1 : xMem) (L : List gR), frI W H o ((y * 32 + x) * 32 + 1) M M1 L → L.length ≤ (y * 16 + x) * 16 → PR E mX11_layFree ne 22 [some (.ref 74), some (.int pg), some (.int (nI y)), some (.int (nI x)), none, none, none] [] M1 (fun r m => r = none ∧ ∃ L, frFr M m ∧ frL m L ∧ gIs W H o L)) W (fun x hxm nxx => ?_) 0 (Nat.zero_le _)
  intro M1 L hI hLl
  have f2 : M1.2 = M.2 := hI.1.1
  have hM1 : xNT ≤ xN M1 := by show xNT ≤ M1.2.2.2; rw [f2]; exact hM
  have hW1 : xWire M1.2.1 := by rw [f2]; exact hW
  have e81 : M1.1 74 8 = nI W := (hI.1.2.2 8 (by decide)).trans e8
  have e91 : M1.1 74 9 = nI H := (hI.1.2.2 9 (by decide)).trans e9
  have hg1 : gdM M1 o := fr_gd hI.1 hg
  refine px_iload_n dX11_layFree_22 rfl rfl ?_
  refine px_aload_n dX11_layFree_23 rfl rfl ?_
  refine px_getI dX11_layFree_24 fX11_170 (xol rfl) hM1 rfl ?_
  refine px_top e81 ?_
  refine px_icmp_ge 165 dX11_layFree_27 rfl (fun h27 => ?_) (fun h27 => ?_)
  · have hxe : x = W := by rw [nI_leI (by omega) (by omega)] at h27; omega
    subst hxe
    refine px_inc_2 dX11_layFree_165 rfl ic_1 ?_
    refine px_goto 12 dX11_layFree_168 rfl ?_
    rw [nI_1 y]
    exact px_forget (by repeat' constructor) (ky M1 L (fr_K hI (by omega) (fun r hr hk => by
      apply Classical.byContradiction
      intro hc
      have hb := gMax_b hW16 hH16 hr
      obtain ⟨x2, y2, w2, h2⟩ := r
      simp only [gKey] at hk hc hb
      omega)) (by omega))
  · have hlt : x < W := by rw [nI_leI (by omega) (by omega)] at h27; omega
    refine px_aload_n dX11_layFree_30 rfl rfl ?_
    refine px_getI dX11_layFree_31 fX11_173 (xol rfl) hM1 rfl ?_
    refine px_top e91 ?_
    refine px_iload_n dX11_layFree_34 rfl rfl ?_
    refine px_isub dX11_layFree_35 ?_
    refine px_top (pk_sub (by omega)) ?_
    refine px_si_4 dX11_layFree_36 rfl ?_
    refine px_iconst dX11_layFree_38 ic_1 ?_
    refine px_si_5 dX11_layFree_39 rfl ?_
    exact l_layFree_w hM hW e8 e9 hW16 hH16 hg hne hlt hy (fun M2 L2 b1 b2 => nxx hlt M2 L2 b1 b2) 1 (Nat.le_refl _) (by omega) M1 L (H - y) hI (by omega) (by omega) (by omega) (by omega) (fun q => by have := q.2.1; omega)

set_option maxRecDepth 100000 in
theorem l_layFree_y {E : xE} {M : xMem} {W H : Nat} {o : Nat → Nat → Prop} {pg : Int32} {ne : Nat} (hM : xNT ≤ xN M) (hW : xWire M.2.1) (e8 : M.1 74 8 = nI W) (e9 : M.1 74 9 = nI H) (hW16 : W ≤ 16) (hH16 : H ≤ 16) (hg : gdM M o) (hne : xN M = ne) : ∀ (M1 : xMem) (L : List gR), frI W H o (0 * 1024 + 1) M M1 L → L.length ≤ 0 * 256 → PR E mX11_layFree ne 12 [some (.ref 74), some (.int pg), some (.int (nI 0)), none, none, none, none] [] M1 (fun r m => r = none ∧ ∃ L, frFr M m ∧ frL m L ∧ gIs W H o L) := by
  refine px_for (P := fun y => ∀ (M1 : xMem) (L : List gR), frI W H o (y * 1024 + 1) M M1 L → L.length ≤ y * 256 → PR E mX11_layFree ne 12 [some (.ref 74), some (.int pg), some (.int (nI y)), none, none, none, none] [] M1 (fun r m => r = none ∧ ∃ L, frFr M m ∧ frL m L ∧ gIs W H o L)) H (fun y hym nxy => ?_) 0 (Nat.zero_le _)
  intro M1 L hI hLl
  have f2 : M1.2 = M.2 := hI.1.1
  have hM1 : xNT ≤ xN M1 := by show xNT ≤ M1.2.2.2; rw [f2]; exact hM
  have hW1 : xWire M1.2.1 := by rw [f2]; exact hW
  have e81 : M1.1 74 8 = nI W := (hI.1.2.2 8 (by decide)).trans e8
  have e91 : M1.1 74 9 = nI H := (hI.1.2.2 9 (by decide)).trans e9
  have hg1 : gdM M1 o := fr_gd hI.1 hg
  refine px_iload_n dX11_layFree_12 rfl rfl ?_
  refine px_aload_n dX11_layFree_13 rfl rfl ?_
  refine px_getI dX11_layFree_14 fX11_173 (xol rfl) hM1 rfl ?_
  refine px_top e91 ?_
  refine px_icmp_ge 171 dX11_layFree_17 rfl (fun h17 => ?_) (fun h17 => ?_)
  · have hye : y = H := by rw [nI_leI (by omega) (by omega)] at h17; omega
    exact px_ret dX11_layFree_171 rfl ⟨rfl, L, hI.1, hI.2.1, hI.2.2.1, fun r => (hI.2.2.2 r).trans ⟨fun q => q.1, fun q => ⟨q, by have hb := gMax_b hW16 hH16 q; unfold gKey; omega⟩⟩⟩ (by show M1.2.2.2 = ne; rw [f2]; exact hne)
  · have hlt : y < H := by rw [nI_leI (by omega) (by omega)] at h17; omega
    refine px_iconst dX11_layFree_20 ic_0 ?_
    refine px_si_3 dX11_layFree_21 rfl ?_
    exact l_layFree_x hM hW e8 e9 hW16 hH16 hg hne hlt (fun M2 L2 b1 b2 => nxy hlt M2 L2 b1 b2) M1 L (by rw [show (y * 32 + 0) * 32 + 1 = y * 1024 + 1 by omega]; exact hI) (by omega)

/-- only the grid, the list and its length differ -/
def mScr (M M1 : xMem) : Prop := M1.2 = M.2 ∧ (∀ a, a ≠ 74 → a ≠ 85 → a ≠ 86 → a ≠ 87 → a ≠ 88 → a ≠ 89 → M1.1 a = M.1 a) ∧ ∀ k, k ≠ 27 → M1.1 74 k = M.1 74 k
theorem gd_of {M : xMem} {n W H p : Nat} {A D : Nat → Nat} {lay : gLay} (ho : lyOK n W H A D lay) (h8 : n ≤ 8) (hg : grOK A D lay p n (M.1 85)) : gdM M (lOcc A D lay p) := by
  intro i j hi hj
  rcases hg i j hi hj with ⟨h1, h2⟩ | ⟨f, h1, h2, h3⟩
  · refine ⟨fun _ q => ?_, fun _ => h1⟩
    obtain ⟨f, hc⟩ := q
    by_cases hf : f < n
    · exact h2 f hf hc
    · obtain ⟨x, y, t, q1, -⟩ := hc
      rw [ho.1 f (by omega)] at q1
      cases q1
  · refine ⟨fun q => ?_, fun q => absurd ⟨f, h3⟩ q⟩
    rw [h2] at q
    exact absurd q (by
      rcases (show f = 0 ∨ f = 1 ∨ f = 2 ∨ f = 3 ∨ f = 4 ∨ f = 5 ∨ f = 6 ∨ f = 7 by omega) with rfl | rfl | rfl | rfl | rfl | rfl | rfl | rfl <;> decide)

set_option maxRecDepth 100000 in
theorem c_X11_layFree {E : xE} {M : xMem} {n W H p : Nat} {A D : Nat → Nat} {lay : gLay} (hM : xNT ≤ xN M) (hW : xWire M.2.1) (hs : shM M n W H A D) (hl : lyM (M.1 83) lay) (ho : lyOK n W H A D lay) (hp : p < 9) : Ct E mX11_layFree [.ref 74, .int (nI p)] M (xN M) (fun r m => r = none ∧ ∃ L, mScr M m ∧ frL m L ∧ gIs W H (lOcc A D lay p) L ∧ grOK A D lay p n (m.1 85)) := by
  refine Ct.of (lo := [some (.ref 74), some (.int (nI p)), none, none, none, none, none]) pln_X11 (Nat.le_of_ble_eq_true rfl) rfl (Nat.le_refl _) ?_
  refine px_aload_n dX11_layFree_0 rfl rfl ?_
  refine px_iload_n dX11_layFree_1 rfl rfl ?_
  refine px_gV1 dX11_layFree_2 kX11_layFree_239 (xol rfl) hM (Nat.le_of_ble_eq_true rfl) (c_X11_layGrid hM hW hs hl ho hp) (fun r2 M2 hq hn2 => ?_)
  obtain ⟨rfl, g, rfl, hG⟩ := hq
  refine px_aload_n dX11_layFree_5 rfl rfl ?_
  refine px_iconst dX11_layFree_6 ic_0 ?_
  refine px_putI dX11_layFree_7 fX11_242 p11_27 (xol rfl) hM rfl ?_
  refine px_iconst dX11_layFree_10 ic_0 ?_
  refine px_si_2 dX11_layFree_11 rfl ?_
  have hg0 : (wF M 85 g).1 85 = g := by rw [xI_wF, if_pos rfl]
  have hgd : gdM (wF M 85 g) (lOcc A D lay p) := gd_of ho hs.2.2.2.1 (by rw [hg0]; exact hG)
  have k := l_layFree_y (E := E) (M := wF M 85 g) (W := W) (H := H) (o := lOcc A D lay p) (pg := nI p) (ne := xN M) hM hW hs.2.1 hs.2.2.1 hs.2.2.2.2.1 hs.2.2.2.2.2.1 hgd rfl (wI (wF M 85 g) 74 27 0) [] ⟨⟨rfl, fun a a1 a2 a3 a4 a5 => by funext k; rw [xI_wI, if_neg (fun z => a1 z.1)], fun k hk => by rw [xI_wI, if_neg (fun z => hk z.2)]⟩, ⟨by rw [xI_wI, if_pos ⟨rfl, rfl⟩]; rfl, fun k r h => by simp at h⟩, List.Pairwise.nil, fun r => ⟨fun h => by simp at h, fun h => by have hb := gMax_b hs.2.2.2.2.1 hs.2.2.2.2.2.1 h.1; have := h.2; unfold gKey at this; omega⟩⟩ (Nat.zero_le _)
  refine px_q (fun r m q => ?_) k
  obtain ⟨q1, L, q2, q3, q4⟩ := q
  refine ⟨q1, L, ⟨q2.1, fun a a1 a2 a3 a4 a5 a6 => ?_, fun k hk => (q2.2.2 k hk).trans (by rw [xI_wF, if_neg (by decide)])⟩, q3, q4, ?_⟩
  · rw [q2.2.1 a a1 a3 a4 a5 a6, xI_wF, if_neg a2]
  · rw [q2.2.1 85 (by decide) (by decide) (by decide) (by decide) (by decide), hg0]; exact hG
