/-! ===== the reference lays its list of free rectangles ===== -/
def gKey (r : gR) : Nat := (r.2.1 * 32 + r.1) * 32 + r.2.2.1
/-- only the list and its length differ -/
def frFr (M M1 : xMem) : Prop := M1.2 = M.2 ∧ (∀ a, a ≠ 74 → a ≠ 86 → a ≠ 87 → a ≠ 88 → a ≠ 89 → M1.1 a = M.1 a) ∧ ∀ k, k ≠ 27 → M1.1 74 k = M.1 74 k
def frL (M1 : xMem) (L : List gR) : Prop := M1.1 74 27 = nI L.length ∧ ∀ k r, L[k]? = some r → M1.1 86 k = nI r.1 ∧ M1.1 87 k = nI r.2.1 ∧ M1.1 88 k = nI r.2.2.1 ∧ M1.1 89 k = nI r.2.2.2
def frI (W H : Nat) (o : Nat → Nat → Prop) (K : Nat) (M M1 : xMem) (L : List gR) : Prop := frFr M M1 ∧ frL M1 L ∧ gSort L ∧ ∀ r, r ∈ L ↔ gMax W H o r ∧ gKey r < K
abbrev frP (M1 : xMem) (l x y w h : Nat) : xMem := wI (wI (wI (wI (wI M1 86 l (nI x)) 87 l (nI y)) 88 l (nI w)) 89 l (nI h)) 74 27 (nI (l + 1))
theorem frFr_put {M M1 : xMem} {l x y w h : Nat} (hf : frFr M M1) : frFr M (frP M1 l x y w h) := by
  refine ⟨hf.1, fun a a1 a2 a3 a4 a5 => ?_, fun k hk => ?_⟩
  · rw [← hf.2.1 a a1 a2 a3 a4 a5]
    funext k
    simp only [xI_wI, a1, a2, a3, a4, a5, false_and, if_false]
  · rw [← hf.2.2 k hk]
    simp [xI_wI, hk]
theorem frL_put {M1 : xMem} {L : List gR} {x y w h : Nat} (hl : frL M1 L) : frL (frP M1 L.length x y w h) (L ++ [(x, y, w, h)]) := by
  refine ⟨by simp [xI_wI], fun k r hk => ?_⟩
  by_cases h0 : k < L.length
  · rw [List.getElem?_append_left h0] at hk
    have := hl.2 k r hk
    have hne : k ≠ L.length := by omega
    simp [xI_wI, hne, this]
  · rw [List.getElem?_append_right (by omega)] at hk
    have hz : k - L.length < 1 := (List.getElem?_eq_some_iff.mp hk).1
    have h1 : k = L.length := by omega
    rw [h1, Nat.sub_self] at hk
    cases hk
    simp [xI_wI, h1]
theorem gFree_mono {W H : Nat} {o : Nat → Nat → Prop} {x y w h w' h' : Nat} (hf : gFree W H o x y w h) (hw : w' ≤ w) (hh : h' ≤ h) : gFree W H o x y w' h' :=
  ⟨by have := hf.1; omega, by have := hf.2.1; omega, fun i j i1 i2 j1 j2 => hf.2.2 i j i1 (by omega) j1 (by omega)⟩
theorem gFree_row {W H : Nat} {o : Nat → Nat → Prop} {x y w h : Nat} (hf : gFree W H o x y w h) (hr : gFree W H o x (y + h) w 1) : gFree W H o x y w (h + 1) :=
  ⟨hf.1, by have := hr.2.1; omega, fun i j i1 i2 j1 j2 => by
    by_cases e : j < y + h
    · exact hf.2.2 i j i1 i2 j1 e
    · exact hr.2.2 i j i1 i2 (by omega) (by omega)⟩
theorem gFree_last {W H : Nat} {o : Nat → Nat → Prop} {x y w h : Nat} (hf : gFree W H o x y w (h + 1)) : gFree W H o x (y + h) w 1 :=
  ⟨hf.1, by have := hf.2.1; omega, fun i j i1 i2 j1 j2 => hf.2.2 i j i1 i2 (by omega) (by omega)⟩
theorem gMax_b {W H : Nat} {o : Nat → Nat → Prop} (hW : W ≤ 16) (hH : H ≤ 16) {r : gR} (h : gMax W H o r) : r.1 < 16 ∧ r.2.1 < 16 ∧ r.2.2.1 ≤ 16 ∧ r.2.2.2 ≤ 16 ∧ 0 < r.2.2.1 ∧ 0 < r.2.2.2 ∧ r.1 + r.2.2.1 ≤ W ∧ r.2.1 + r.2.2.2 ≤ H := by
  obtain ⟨h1, h2, ⟨h3, h4, -⟩, -⟩ := h
  exact ⟨by omega, by omega, by omega, by omega, h1, h2, h3, h4⟩
theorem key_h {W H : Nat} {o : Nat → Nat → Prop} (hW : W ≤ 16) (hH : H ≤ 16) {x y w h : Nat} (hx : x < 32) (hw : w < 32) (hf : gFree W H o x y w h) (hn : ¬ gFree W H o x y w (h + 1)) {r : gR} (hr : gMax W H o r) (hk : gKey r = (y * 32 + x) * 32 + w) : r = (x, y, w, h) := by
  have hb := gMax_b hW hH hr
  obtain ⟨x', y', w', h'⟩ := r
  simp only [gKey] at hk hb
  have e1 : x' = x := by omega
  have e2 : y' = y := by omega
  have e3 : w' = w := by omega
  subst e1; subst e2; subst e3
  obtain ⟨-, -, g1, -, -, -, g2⟩ := hr
  simp only at g1 g2
  have : h' = h := by
    rcases Nat.lt_trichotomy h' h with q | q | q
    · exfalso
      rcases g2 with z | ⟨i, i1, i2, i3⟩
      · have := hf.2.1; omega
      · exact hf.2.2 i (y' + h') i1 i2 (by omega) (by omega) i3
    · exact q
    · exact absurd (gFree_mono g1 (Nat.le_refl _) (show h + 1 ≤ h' by omega)) hn
  rw [this]
theorem fr_skip {W H : Nat} {o : Nat → Nat → Prop} (hW : W ≤ 16) (hH : H ≤ 16) {x y w h : Nat} (hx : x < 32) (hw : w < 32) (hf : gFree W H o x y w h) (hn : ¬ gFree W H o x y w (h + 1)) {M M1 : xMem} {L : List gR} (hI : frI W H o ((y * 32 + x) * 32 + w) M M1 L) (hm : ¬ gMax W H o (x, y, w, h)) : frI W H o ((y * 32 + x) * 32 + (w + 1)) M M1 L := by
  refine ⟨hI.1, hI.2.1, hI.2.2.1, fun r => (hI.2.2.2 r).trans ⟨fun q => ⟨q.1, by omega⟩, fun q => ⟨q.1, ?_⟩⟩⟩
  by_cases e : gKey r = (y * 32 + x) * 32 + w
  · have := key_h hW hH hx hw hf hn q.1 e
    rw [this] at q
    exact absurd q.1 hm
  · omega
theorem fr_add {W H : Nat} {o : Nat → Nat → Prop} (hW : W ≤ 16) (hH : H ≤ 16) {x y w h : Nat} (hx : x < 32) (hw : w < 32) (hf : gFree W H o x y w h) (hn : ¬ gFree W H o x y w (h + 1)) {M M1 : xMem} {L : List gR} (hI : frI W H o ((y * 32 + x) * 32 + w) M M1 L) (hm : gMax W H o (x, y, w, h)) : frI W H o ((y * 32 + x) * 32 + (w + 1)) M (frP M1 L.length x y w h) (L ++ [(x, y, w, h)]) := by
  refine ⟨frFr_put hI.1, frL_put hI.2.1, ?_, fun r => ?_⟩
  · refine List.pairwise_append.mpr ⟨hI.2.2.1, List.pairwise_singleton _ _, fun a ha b hb => ?_⟩
    rw [List.mem_singleton.mp hb]
    have h1 := (hI.2.2.2 a).mp ha
    have h2 := gMax_b hW hH h1.1
    have h3 := h1.2
    unfold gEnc gKey at *
    simp only
    omega
  · rw [List.mem_append, hI.2.2.2 r, List.mem_singleton]
    constructor
    · rintro (q | q)
      · exact ⟨q.1, by omega⟩
      · rw [q]; exact ⟨hm, by unfold gKey; simp only; omega⟩
    · intro q
      by_cases e : gKey r = (y * 32 + x) * 32 + w
      · exact Or.inr (key_h hW hH hx hw hf hn q.1 e)
      · exact Or.inl ⟨q.1, by omega⟩
theorem fr_K {W H : Nat} {o : Nat → Nat → Prop} {K K' : Nat} {M M1 : xMem} {L : List gR} (hI : frI W H o K M M1 L) (h : K ≤ K') (hn : ∀ r, gMax W H o r → gKey r < K' → gKey r < K) : frI W H o K' M M1 L :=
  ⟨hI.1, hI.2.1, hI.2.2.1, fun r => (hI.2.2.2 r).trans ⟨fun q => ⟨q.1, by omega⟩, fun q => ⟨q.1, hn r q.1 q.2⟩⟩⟩
theorem fr_gd {M M1 : xMem} {o : Nat → Nat → Prop} (hf : frFr M M1) (hg : gdM M o) : gdM M1 o := by
  intro i j hi hj
  rw [hf.2.1 85 (by decide) (by decide) (by decide) (by decide) (by decide)]
  exact hg i j hi hj

set_option maxRecDepth 100000 in
theorem l_layFree_84 {E : xE} {M : xMem} {W H : Nat} {o : Nat → Nat → Prop} {pg : Int32} {ne : Nat} (hM : xNT ≤ xN M) (hW : xWire M.2.1) (e8 : M.1 74 8 = nI W) (e9 : M.1 74 9 = nI H) (hW16 : W ≤ 16) (hH16 : H ≤ 16) (hg : gdM M o) (hne : xN M = ne) {x y w h most : Nat} {M1 : xMem} {L : List gR} (hx : x < W) (hy : y < H) (hw0 : 0 < w) (hh0 : 0 < h) (hf : gFree W H o x y w h) (hmx : ¬ gFree W H o x y w (h + 1)) (hI : frI W H o ((y * 32 + x) * 32 + w) M M1 L) (hLl : L.length ≤ (y * 16 + x) * 16 + (w - 1))
    (nw : ∀ (M2 : xMem) (L2 : List gR), frI W H o ((y * 32 + x) * 32 + (w + 1)) M M2 L2 → L2.length ≤ (y * 16 + x) * 16 + w → PR E mX11_layFree ne 41 [some (.ref 74), some (.int pg), some (.int (nI y)), some (.int (nI x)), some (.int (nI h)), some (.int (nI (w + 1))), none] [] M2 (fun r m => r = none ∧ ∃ L, frFr M m ∧ frL m L ∧ gIs W H o L)) : PR E mX11_layFree ne 84 [some (.ref 74), some (.int pg), some (.int (nI y)), some (.int (nI x)), some (.int (nI most)), some (.int (nI w)), some (.int (nI h))] [] M1 (fun r m => r = none ∧ ∃ L, frFr M m ∧ frL m L ∧ gIs W H o L) := by
  have hxw := hf.1
  have hyh := hf.2.1
  have f2 : M1.2 = M.2 := hI.1.1
  have hM1 : xNT ≤ xN M1 := by show xNT ≤ M1.2.2.2; rw [f2]; exact hM
  have hW1 : xWire M1.2.1 := by rw [f2]; exact hW
  have e81 : M1.1 74 8 = nI W := (hI.1.2.2 8 (by decide)).trans e8
  have e91 : M1.1 74 9 = nI H := (hI.1.2.2 9 (by decide)).trans e9
  have hg1 : gdM M1 o := fr_gd hI.1 hg
  refine px_iload dX11_layFree_84 rfl ?_
  refine px_si_4 dX11_layFree_86 rfl ?_
  refine px_aload_n dX11_layFree_88 rfl rfl ?_
  refine px_iload_n dX11_layFree_89 rfl rfl ?_
  refine px_iload_n dX11_layFree_90 rfl rfl ?_
  refine px_iload dX11_layFree_91 rfl ?_
  refine px_iload dX11_layFree_93 rfl ?_
  refine px_fV4i dX11_layFree_95 kX11_layFree_245 (xol rfl) hM1 (Nat.le_of_ble_eq_true rfl) (c_X11_isGreatest hM1 hW1 e81 e91 hW16 hH16 hg1 (by omega) (by omega) (by omega) (by omega) hw0 hh0 hf) ?_
  refine px_cif_eq 153 dX11_layFree_98 rfl (fun h98 => ?_) (fun h98 => ?_)
  · refine px_inc_5 dX11_layFree_153 rfl ic_1 ?_
    refine px_goto 41 dX11_layFree_156 rfl ?_
    first
      | (rw [nI_1 w]; exact px_forget (by repeat' constructor) (nw _ _ (fr_skip hW16 hH16 (by omega) (by omega) hf hmx hI h98) (by omega)))
      | (rw [nI_1 w]; refine px_eq (M' := frP M1 L.length x y w h) rfl (by rw [nI_clamp (by omega), nI_1]) ?_; exact px_forget (by repeat' constructor) (nw _ _ (fr_add hW16 hH16 (by omega) (by omega) hf hmx hI h98) (by rw [List.length_append]; simp only [List.length_cons, List.length_nil]; omega)))
  · have hl0 := hI.2.1.1
    refine px_aload_n dX11_layFree_101 rfl rfl ?_
    refine px_getR dX11_layFree_102 fX11_44 (xol rfl) hM1 rfl (wr_11_28 hW1 (xol rfl)) (Nat.succ_pos _) ?_
    refine px_aload_n dX11_layFree_105 rfl rfl ?_
    refine px_getI dX11_layFree_106 fX11_242 (xol rfl) hM1 rfl ?_
    refine px_top (y := nI L.length) hl0 ?_
    refine px_iload_n dX11_layFree_109 rfl rfl ?_
    refine px_iast dX11_layFree_110 (xal (n := 4096) rfl) hM1 (vp_in_nI (by omega) (by decide)) ?_
    refine px_aload_n dX11_layFree_111 rfl rfl ?_
    refine px_getR dX11_layFree_112 fX11_47 (xol rfl) hM1 rfl (wr_11_29 hW1 (xol rfl)) (Nat.succ_pos _) ?_
    refine px_aload_n dX11_layFree_115 rfl rfl ?_
    refine px_getI dX11_layFree_116 fX11_242 (xol rfl) hM1 rfl ?_
    refine px_top (y := nI L.length) hl0 ?_
    refine px_iload_n dX11_layFree_119 rfl rfl ?_
    refine px_iast dX11_layFree_120 (xal (n := 4096) rfl) hM1 (vp_in_nI (by omega) (by decide)) ?_
    refine px_aload_n dX11_layFree_121 rfl rfl ?_
    refine px_getR dX11_layFree_122 fX11_50 (xol rfl) hM1 rfl (wr_11_30 hW1 (xol rfl)) (Nat.succ_pos _) ?_
    refine px_aload_n dX11_layFree_125 rfl rfl ?_
    refine px_getI dX11_layFree_126 fX11_242 (xol rfl) hM1 rfl ?_
    refine px_top (y := nI L.length) hl0 ?_
    refine px_iload dX11_layFree_129 rfl ?_
    refine px_iast dX11_layFree_131 (xal (n := 4096) rfl) hM1 (vp_in_nI (by omega) (by decide)) ?_
    refine px_aload_n dX11_layFree_132 rfl rfl ?_
    refine px_getR dX11_layFree_133 fX11_53 (xol rfl) hM1 rfl (wr_11_31 hW1 (xol rfl)) (Nat.succ_pos _) ?_
    refine px_aload_n dX11_layFree_136 rfl rfl ?_
    refine px_getI dX11_layFree_137 fX11_242 (xol rfl) hM1 rfl ?_
    refine px_top (y := nI L.length) hl0 ?_
    refine px_iload dX11_layFree_140 rfl ?_
    refine px_iast dX11_layFree_142 (xal (n := 4096) rfl) hM1 (vp_in_nI (by omega) (by decide)) ?_
    refine px_aload_n dX11_layFree_143 rfl rfl ?_
    first | refine px_dupi dX11_layFree_144 ?_ | refine px_dupa dX11_layFree_144 ?_
    refine px_getI dX11_layFree_145 fX11_242 (xol rfl) hM1 rfl ?_
    refine px_top (y := nI L.length) hl0 ?_
    refine px_iconst dX11_layFree_148 ic_1 ?_
    refine px_iadd dX11_layFree_149 ?_
    refine px_putI dX11_layFree_150 fX11_242 p11_27 (xol rfl) hM1 rfl ?_
    refine px_inc_5 dX11_layFree_153 rfl ic_1 ?_
    refine px_goto 41 dX11_layFree_156 rfl ?_
    first
      | (rw [nI_1 w]; exact px_forget (by repeat' constructor) (nw _ _ (fr_skip hW16 hH16 (by omega) (by omega) hf hmx hI h98) (by omega)))
      | (rw [nI_1 w]; refine px_eq (M' := frP M1 L.length x y w h) rfl (by rw [nI_clamp (by omega), nI_1]) ?_; exact px_forget (by repeat' constructor) (nw _ _ (fr_add hW16 hH16 (by omega) (by omega) hf hmx hI h98) (by rw [List.length_append]; simp only [List.length_cons, List.length_nil]; omega)))

set_option maxRecDepth 100000 in
theorem l_layFree_h {E : xE} {M : xMem} {W H : Nat} {o : Nat → Nat → Prop} {pg : Int32} {ne : Nat} (hM : xNT ≤ xN M) (hW : xWire M.2.1) (e8 : M.1 74 8 = nI W) (e9 : M.1 74 9 = nI H) (hW16 : W ≤ 16) (hH16 : H ≤ 16) (hg : gdM M o) (hne : xN M = ne) {x y w most : Nat} {M1 : xMem} {L : List gR} (hx : x < W) (hy : y < H) (hw0 : 0 < w) (hm1 : 1 ≤ most) (hm16 : most ≤ 16) (hf1 : gFree W H o x y w 1) (hmost : ¬ gFree W H o x y w (most + 1)) (hI : frI W H o ((y * 32 + x) * 32 + w) M M1 L) (hLl : L.length ≤ (y * 16 + x) * 16 + (w - 1))
    (nw : ∀ (h : Nat), 0 < h → h ≤ 16 → gFree W H o x y w h → ¬ gFree W H o x y w (h + 1) → ∀ (M2 : xMem) (L2 : List gR), frI W H o ((y * 32 + x) * 32 + (w + 1)) M M2 L2 → L2.length ≤ (y * 16 + x) * 16 + w → PR E mX11_layFree ne 41 [some (.ref 74), some (.int pg), some (.int (nI y)), some (.int (nI x)), some (.int (nI h)), some (.int (nI (w + 1))), none] [] M2 (fun r m => r = none ∧ ∃ L, frFr M m ∧ frL m L ∧ gIs W H o L)) : PR E mX11_layFree ne 56 [some (.ref 74), some (.int pg), some (.int (nI y)), some (.int (nI x)), some (.int (nI most)), some (.int (nI w)), some (.int (nI 1))] [] M1 (fun r m => r = none ∧ ∃ L, frFr M m ∧ frL m L ∧ gIs W H o L) := by
  have hxw := hf1.1
  refine px_for (P := fun h => gFree W H o x y w h → 0 < h → PR E mX11_layFree ne 56 [some (.ref 74), some (.int pg), some (.int (nI y)), some (.int (nI x)), some (.int (nI most)), some (.int (nI w)), some (.int (nI h))] [] M1 (fun r m => r = none ∧ ∃ L, frFr M m ∧ frL m L ∧ gIs W H o L)) most (fun h hhm nh => ?_) 1 hm1 hf1 (by decide)
  intro hf hh0
  have hyh := hf.2.1
  have f2 : M1.2 = M.2 := hI.1.1
  have hM1 : xNT ≤ xN M1 := by show xNT ≤ M1.2.2.2; rw [f2]; exact hM
  have hW1 : xWire M1.2.1 := by rw [f2]; exact hW
  have e81 : M1.1 74 8 = nI W := (hI.1.2.2 8 (by decide)).trans e8
  have e91 : M1.1 74 9 = nI H := (hI.1.2.2 9 (by decide)).trans e9
  have hg1 : gdM M1 o := fr_gd hI.1 hg
  refine px_iload dX11_layFree_56 rfl ?_
  refine px_iload dX11_layFree_58 rfl ?_
  refine px_icmp_ge 84 dX11_layFree_60 rfl (fun h60 => ?_) (fun h60 => ?_)
  · first
      | exact l_layFree_84 hM hW e8 e9 hW16 hH16 hg hne hx hy hw0 hh0 hf (by have : h = most := (by rw [nI_leI (by omega) (by omega)] at h60; omega); rw [this]; exact hmost) hI hLl (nw h hh0 (by omega) hf (by first | assumption | (have : h = most := (by rw [nI_leI (by omega) (by omega)] at h60; omega); rw [this]; exact hmost) | (exact fun q => h75 (by rw [nI_add]; exact (fI_n (by omega) (by omega)).mpr (gFree_last q)))))
      | exact l_layFree_84 hM hW e8 e9 hW16 hH16 hg hne hx hy hw0 hh0 hf (fun q => h75 (by rw [nI_add]; exact (fI_n (by omega) (by omega)).mpr (gFree_last q))) hI hLl (nw h hh0 (by omega) hf (by first | assumption | (have : h = most := (by rw [nI_leI (by omega) (by omega)] at h60; omega); rw [this]; exact hmost) | (exact fun q => h75 (by rw [nI_add]; exact (fI_n (by omega) (by omega)).mpr (gFree_last q)))))
  · have hlt : h < most := by rw [nI_leI (by omega) (by omega)] at h60; omega
    refine px_aload_n dX11_layFree_63 rfl rfl ?_
    refine px_iload_n dX11_layFree_64 rfl rfl ?_
    refine px_iload_n dX11_layFree_65 rfl rfl ?_
    refine px_iload dX11_layFree_66 rfl ?_
    refine px_iadd dX11_layFree_68 ?_
    refine px_iload dX11_layFree_69 rfl ?_
    refine px_iconst dX11_layFree_71 ic_1 ?_
    
    refine px_fV4i dX11_layFree_72 kX11_layFree_235 (xol rfl) hM1 (Nat.le_of_ble_eq_true rfl) (c_X11_isFree hM1 hW1 e81 e91 hW16 hH16 hg1 (w := w) (h := 1) (le64 (by omega)) (by rw [nI_add]; exact le64 (by omega)) (by omega) (by omega)) ?_
    refine px_cif_eq 84 dX11_layFree_75 rfl (fun h75 => ?_) (fun h75 => ?_)
    · first
        | exact l_layFree_84 hM hW e8 e9 hW16 hH16 hg hne hx hy hw0 hh0 hf (by have : h = most := (by rw [nI_leI (by omega) (by omega)] at h60; omega); rw [this]; exact hmost) hI hLl (nw h hh0 (by omega) hf (by first | assumption | (have : h = most := (by rw [nI_leI (by omega) (by omega)] at h60; omega); rw [this]; exact hmost) | (exact fun q => h75 (by rw [nI_add]; exact (fI_n (by omega) (by omega)).mpr (gFree_last q)))))
        | exact l_layFree_84 hM hW e8 e9 hW16 hH16 hg hne hx hy hw0 hh0 hf (fun q => h75 (by rw [nI_add]; exact (fI_n (by omega) (by omega)).mpr (gFree_last q))) hI hLl (nw h hh0 (by omega) hf (by first | assumption | (have : h = most := (by rw [nI_leI (by omega) (by omega)] at h60; omega); rw [this]; exact hmost) | (exact fun q => h75 (by rw [nI_add]; exact (fI_n (by omega) (by omega)).mpr (gFree_last q)))))
    · refine px_inc_6 dX11_layFree_78 rfl ic_1 ?_
      refine px_goto 56 dX11_layFree_81 rfl ?_
      have hf2 := gFree_row hf ((fI_n (by omega) (by omega)).mp (by rw [← nI_add]; exact h75))
      rw [nI_1 h]
      exact nh hlt hf2 (by omega)
