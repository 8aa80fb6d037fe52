/-! ===== forgetting locals; sheets and layouts, mathematically ===== -/
def xle : List (Option Value) → List (Option Value) → Prop
  | [], [] => True
  | none :: t, _ :: t' => xle t t'
  | some v :: t, some w :: t' => v = w ∧ xle t t'
  | _, _ => False
theorem xle_len : ∀ {a b : List (Option Value)}, xle a b → a.length = b.length
  | [], [], _ => rfl
  | none :: t, _ :: t', h => by rw [List.length_cons, List.length_cons, xle_len (a := t) (b := t') h]
  | some _ :: t, some _ :: t', h => by rw [List.length_cons, List.length_cons, xle_len (a := t) (b := t') h.2]
theorem xle_at : ∀ {a b : List (Option Value)}, xle a b → ∀ (i : Nat) (v : Value), a[i]? = some (some v) → b[i]? = some (some v)
  | [], [], _, i, v, h => by simp at h
  | none :: t, _ :: t', hx, i, v, h => by
    cases i with
    | zero => simp at h
    | succ i => rw [List.getElem?_cons_succ] at h ⊢; exact xle_at (a := t) (b := t') hx i v h
  | some u :: t, some u' :: t', hx, i, v, h => by
    cases i with
    | zero => rw [← hx.1]; exact h
    | succ i => rw [List.getElem?_cons_succ] at h ⊢; exact xle_at (a := t) (b := t') hx.2 i v h
theorem px_forget {E : xE} {d : xMD} {ne pc : Nat} {lo lo' : List (Option Value)} {st : List Value} {M : xMem} {Q : Option Value → xMem → Prop} (h : xle lo' lo) (k : PR E d ne pc lo' st M Q) : PR E d ne pc lo st M Q := by
  intro p e R s m args below meth c H ls locs cells slots Z S
  obtain ⟨hC, hR, hl, hlen, hrest⟩ := S
  refine k _ _ _ _ _ _ _ _ _ _ _ _ _ _ _ ⟨hC, hR, ⟨hl.1, hl.2.1, fun q hq => hl.2.2 q ?_⟩, (xle_len h).trans hlen, hrest⟩
  obtain ⟨j, v, h1, h2⟩ := (lvl_mem lo' 0 q).mp hq
  exact (lvl_mem lo 0 q).mpr ⟨j, v, xle_at h j v h1, h2⟩
theorem fil_s (M : xMem) (b i : Nat) (v : Int32) (h : Nat → Int32) : wI (wF M b (fun k => if k < i then v else h k)) b i v = wF M b (fun k => if k < i + 1 then v else h k) := by
  rw [wI_wF]
  congr 1
  funext k
  by_cases hk : k = i
  · rw [if_pos hk, if_pos (by omega)]
  · rw [if_neg hk]
    by_cases hk2 : k < i
    · rw [if_pos hk2, if_pos (by omega)]
    · rw [if_neg hk2, if_neg (by omega)]
def gNX (A D : Nat → Nat) (f t : Nat) : Nat := if t = 0 then A f else D f
def gNY (A D : Nat → Nat) (f t : Nat) : Nat := if t = 0 then D f else A f
/-- where each frame is set: page, x, y, turned -/
abbrev gLay : Type := Nat → Option (Nat × Nat × Nat × Nat)
def gCov (A D : Nat → Nat) (lay : gLay) (p f i j : Nat) : Prop := ∃ x y t, lay f = some (p, x, y, t) ∧ x ≤ i ∧ i < x + gNX A D f t ∧ y ≤ j ∧ j < y + gNY A D f t
def lOcc (A D : Nat → Nat) (lay : gLay) (p i j : Nat) : Prop := ∃ f, gCov A D lay p f i j
def lyOK (n W H : Nat) (A D : Nat → Nat) (lay : gLay) : Prop := (∀ f, n ≤ f → lay f = none) ∧ (∀ f p x y t, lay f = some (p, x, y, t) → p < 8 ∧ t < 2 ∧ x + gNX A D f t ≤ W ∧ y + gNY A D f t ≤ H) ∧
  ∀ f g p i j, gCov A D lay p f i j → gCov A D lay p g i j → f = g
/-- the reference's sheet, its layout -/
def shM (M : xMem) (n W H : Nat) (A D : Nat → Nat) : Prop := M.1 74 11 = nI n ∧ M.1 74 8 = nI W ∧ M.1 74 9 = nI H ∧ n ≤ 8 ∧ W ≤ 16 ∧ H ≤ 16 ∧ ∀ f, f < n → mNX M f 0 = nI (A f) ∧ mNX M f 1 = nI (D f) ∧ 1 ≤ A f ∧ A f ≤ 22 ∧ 1 ≤ D f ∧ D f ≤ 22
def lyM (w : Nat → Int32) (lay : gLay) : Prop := (∀ f, f < 8 → lay f = none → w (4 * f) = -1 ∧ w (4 * f + 1) = 0 ∧ w (4 * f + 2) = 0 ∧ w (4 * f + 3) = 0) ∧ ∀ f p x y t, f < 8 → lay f = some (p, x, y, t) → w (4 * f) = nI p ∧ w (4 * f + 1) = nI x ∧ w (4 * f + 2) = nI y ∧ w (4 * f + 3) = nI t
theorem mNX_t {M : xMem} {n W H : Nat} {A D : Nat → Nat} (h : shM M n W H A D) {f t : Nat} (hf : f < n) (ht : t < 2) : mNX M f (nI t) = nI (gNX A D f t) ∧ mNY M f (nI t) = nI (gNY A D f t) := by
  obtain ⟨e0, e1, -⟩ := h.2.2.2.2.2.2 f hf
  rcases (show t = 0 ∨ t = 1 by omega) with rfl | rfl
  · exact ⟨e0, e1⟩
  · exact ⟨e1, e0⟩
theorem gN_le {M : xMem} {n W H : Nat} {A D : Nat → Nat} (h : shM M n W H A D) {f t : Nat} (hf : f < n) : gNX A D f t ≤ 22 ∧ gNY A D f t ≤ 22 ∧ 1 ≤ gNX A D f t ∧ 1 ≤ gNY A D f t := by
  obtain ⟨-, -, a1, a2, d1, d2⟩ := h.2.2.2.2.2.2 f hf
  unfold gNX gNY
  split <;> exact ⟨by omega, by omega, by omega, by omega⟩
/-- a grid of 16 by 16 that says whose each place is -/
def grOK (A D : Nat → Nat) (lay : gLay) (p n : Nat) (g : Nat → Int32) : Prop := ∀ i j, i < 16 → j < 16 → (g (16 * j + i) = -9 ∧ ∀ f, f < n → ¬ gCov A D lay p f i j) ∨ ∃ f, f < n ∧ g (16 * j + i) = nI f ∧ gCov A D lay p f i j
def pnt (f X Y w y x : Nat) (g : Nat → Int32) (k : Nat) : Int32 := if (X ≤ k % 16 ∧ k % 16 < X + w ∧ Y ≤ k / 16 ∧ k / 16 < Y + y) ∨ (k / 16 = Y + y ∧ X ≤ k % 16 ∧ k % 16 < X + x) then nI f else g k
theorem pnt_0 (f X Y w : Nat) (g : Nat → Int32) : pnt f X Y w 0 0 g = g := by
  funext k; unfold pnt; rw [if_neg (by omega)]
theorem pnt_row (f X Y w y : Nat) (g : Nat → Int32) : pnt f X Y w y w g = pnt f X Y w (y + 1) 0 g := by
  funext k; unfold pnt
  by_cases h : (X ≤ k % 16 ∧ k % 16 < X + w ∧ Y ≤ k / 16 ∧ k / 16 < Y + y) ∨ (k / 16 = Y + y ∧ X ≤ k % 16 ∧ k % 16 < X + w)
  · rw [if_pos h, if_pos (by omega)]
  · rw [if_neg h, if_neg (by omega)]
theorem pnt_s (M : xMem) (f X Y w y x : Nat) (g : Nat → Int32) (hx : X + x < 16) : wI (wF M 85 (pnt f X Y w y x g)) 85 (16 * (Y + y) + X + x) (nI f) = wF M 85 (pnt f X Y w y (x + 1) g) := by
  rw [wI_wF]
  congr 1
  funext k
  unfold pnt
  by_cases h : k = 16 * (Y + y) + X + x
  · rw [if_pos h, if_pos (by omega)]
  · rw [if_neg h]
    by_cases h2 : (X ≤ k % 16 ∧ k % 16 < X + w ∧ Y ≤ k / 16 ∧ k / 16 < Y + y) ∨ (k / 16 = Y + y ∧ X ≤ k % 16 ∧ k % 16 < X + x)
    · rw [if_pos h2, if_pos (by omega)]
    · rw [if_neg h2, if_neg (by omega)]
theorem gr_skip {A D : Nat → Nat} {lay : gLay} {p n : Nat} {g : Nat → Int32} (h : grOK A D lay p n g) (hn : ∀ i j, ¬ gCov A D lay p n i j) : grOK A D lay p (n + 1) g := by
  intro i j hi hj
  rcases h i j hi hj with ⟨h1, h2⟩ | ⟨f, h1, h2, h3⟩
  · refine Or.inl ⟨h1, fun f hf => ?_⟩
    by_cases e : f = n
    · subst e; exact hn i j
    · exact h2 f (by omega)
  · exact Or.inr ⟨f, by omega, h2, h3⟩
theorem gr_pnt {A D : Nat → Nat} {lay : gLay} {p n X Y t : Nat} {g : Nat → Int32} (h : grOK A D lay p n g) (hl : lay n = some (p, X, Y, t)) : grOK A D lay p (n + 1) (pnt n X Y (gNX A D n t) (gNY A D n t) 0 g) := by
  intro i j hi hj
  have e1 : (16 * j + i) % 16 = i := by omega
  have e2 : (16 * j + i) / 16 = j := by omega
  unfold pnt
  rw [e1, e2]
  by_cases hc : X ≤ i ∧ i < X + gNX A D n t ∧ Y ≤ j ∧ j < Y + gNY A D n t
  · rw [if_pos (Or.inl hc)]
    exact Or.inr ⟨n, by omega, rfl, X, Y, t, hl, hc.1, hc.2.1, hc.2.2.1, hc.2.2.2⟩
  · rw [if_neg (by intro q; rcases q with q | q; exact hc q; omega)]
    rcases h i j hi hj with ⟨h1, h2⟩ | ⟨f, h1, h2, h3⟩
    · refine Or.inl ⟨h1, fun f hf => ?_⟩
      by_cases e : f = n
      · subst e
        rintro ⟨x, y, t', q1, q2, q3, q4, q5⟩
        rw [hl] at q1
        cases q1
        exact hc ⟨q2, q3, q4, q5⟩
      · exact h2 f (by omega)
    · exact Or.inr ⟨f, by omega, h2, h3⟩

set_option maxRecDepth 100000 in
theorem l_X11_layGrid2 {E : xE} {M : xMem} {n W H p : Nat} {A D : Nat → Nat} {lay : gLay} (hM : xNT ≤ xN M) (hW : xWire M.2.1) (hs : shM M n W H A D) (hl : lyM (M.1 83) lay) (ho : lyOK n W H A D lay) (hp : p < 9) (g : Nat → Int32) (hI : grOK A D lay p 0 g) : PR E mX11_layGrid (xN M) 25 [some (.ref 74), some (.int (nI p)), some (.int (nI 0)), none, none, none] [] (wF M 85 g) (fun r m => r = none ∧ ∃ g, m = wF M 85 g ∧ grOK A D lay p n g) := by
  have h8 : n ≤ 8 := hs.2.2.2.1
  refine px_for (P := fun i => ∀ g : Nat → Int32, grOK A D lay p i g → PR E mX11_layGrid (xN M) 25 [some (.ref 74), some (.int (nI p)), some (.int (nI i)), none, none, none] [] (wF M 85 g) (fun r m => r = none ∧ ∃ g, m = wF M 85 g ∧ grOK A D lay p n g)) n (fun i hi nx => ?_) 0 (Nat.zero_le _) g hI
  intro g hI
  refine px_iload_n dX11_layGrid_25 rfl rfl ?_
  refine px_aload_n dX11_layGrid_26 rfl rfl ?_
  refine px_getI dX11_layGrid_27 fX11_179 (xol rfl) hM rfl ?_
  refine px_top hs.1 ?_
  refine px_icmp_ge 140 dX11_layGrid_30 rfl (fun h30 => ?_) (fun h30 => ?_)
  · have hi2 : i = n := by rw [nI_leI (by omega) (by omega)] at h30; omega
    exact px_ret dX11_layGrid_140 rfl ⟨rfl, g, rfl, by rw [← hi2]; exact hI⟩ (rfl)
  · have hlt : i < n := by rw [nI_leI (by omega) (by omega)] at h30; omega
    have hf : i < 8 := by omega
    refine px_aload_n dX11_layGrid_33 rfl rfl ?_
    refine px_getR dX11_layGrid_34 fX11_35 (xol rfl) hM rfl (wr_11_23 hW (xol rfl)) (Nat.succ_pos _) ?_
    refine px_iconst dX11_layGrid_37 ic_4 ?_
    refine px_iload_n dX11_layGrid_38 rfl rfl ?_
    refine px_imul dX11_layGrid_39 ?_
    refine px_iconst dX11_layGrid_40 ic_0 ?_
    refine px_iadd dX11_layGrid_41 ?_
    refine px_top (ixA 4 i 0) ?_
    refine px_iald dX11_layGrid_42 (xal (n := 33) rfl) hM (vp_in_nI (by omega) (by decide)) ?_
    refine px_top (y := M.1 83 (4 * i)) (by rw [nI_clamp (by omega)]; rfl) ?_
    refine px_iload_n dX11_layGrid_43 rfl rfl ?_
    refine px_icmp_ne 134 dX11_layGrid_44 rfl (fun h44 => ?_) (fun h44 => ?_)
    · refine px_inc_2 dX11_layGrid_134 rfl ic_1 ?_
      refine px_goto 25 dX11_layGrid_137 rfl ?_
      exact px_eq (by rw [nI_1]) rfl (nx hlt _ (gr_skip hI (fun a b q => by obtain ⟨X, Y, T, q1, -⟩ := q; exact h44 (hl.2 i p X Y T hf q1).1)))
    · obtain ⟨X, Y, T, hL⟩ : ∃ X Y T, lay i = some (p, X, Y, T) := by
        cases hc : lay i with
        | none => rw [(hl.1 i hf hc).1] at h44; exact absurd h44 (by rcases (show p = 0 ∨ p = 1 ∨ p = 2 ∨ p = 3 ∨ p = 4 ∨ p = 5 ∨ p = 6 ∨ p = 7 ∨ p = 8 by omega) with rfl | rfl | rfl | rfl | rfl | rfl | rfl | rfl | rfl <;> decide)
        | some q =>
          obtain ⟨p2, X, Y, T⟩ := q
          have hp2 := (ho.2.1 i p2 X Y T hc).1
          rw [(hl.2 i p2 X Y T hf hc).1, nI_eq (by omega) (by omega)] at h44
          exact ⟨X, Y, T, by rw [h44]⟩
      have hn4 := hl.2 i p X Y T hf hL
      have hT := ho.2.1 i p X Y T hL
      have hNB := gN_le hs (t := T) hlt
      have hWH : W ≤ 16 ∧ H ≤ 16 := ⟨hs.2.2.2.2.1, hs.2.2.2.2.2.1⟩
      refine px_aload_n dX11_layGrid_47 rfl rfl ?_
      refine px_getR dX11_layGrid_48 fX11_35 (xol rfl) hM rfl (wr_11_23 hW (xol rfl)) (Nat.succ_pos _) ?_
      refine px_iconst dX11_layGrid_51 ic_4 ?_
      refine px_iload_n dX11_layGrid_52 rfl rfl ?_
      refine px_imul dX11_layGrid_53 ?_
      refine px_iconst dX11_layGrid_54 ic_3 ?_
      refine px_iadd dX11_layGrid_55 ?_
      refine px_top (ixA 4 i 3) ?_
      refine px_iald dX11_layGrid_56 (xal (n := 33) rfl) hM (vp_in_nI (by omega) (by decide)) ?_
      refine px_top (y := nI T) (by rw [nI_clamp (by omega)]; exact hn4.2.2.2) ?_
      refine px_si_3 dX11_layGrid_57 rfl ?_
      refine px_iconst dX11_layGrid_58 ic_0 ?_
      refine px_si_4 dX11_layGrid_59 rfl ?_
      refine px_eq (M' := wF M 85 (pnt i X Y (gNX A D i T) 0 0 g)) rfl (by rw [pnt_0]) ?_
      refine px_forget (lo' := [some (.ref 74), some (.int (nI p)), some (.int (nI i)), some (.int (nI T)), some (.int (nI 0)), none]) (by repeat' constructor) ?_
      refine px_for (P := fun y => PR E mX11_layGrid (xN M) 61 [some (.ref 74), some (.int (nI p)), some (.int (nI i)), some (.int (nI T)), some (.int (nI y)), none] [] (wF M 85 (pnt i X Y (gNX A D i T) y 0 g)) (fun r m => r = none ∧ ∃ g, m = wF M 85 g ∧ grOK A D lay p n g)) (gNY A D i T) (fun y hy ny => ?_) 0 (Nat.zero_le _)
      refine px_iload dX11_layGrid_61 rfl ?_
      refine px_aload_n dX11_layGrid_63 rfl rfl ?_
      refine px_iload_n dX11_layGrid_64 rfl rfl ?_
      refine px_iload_n dX11_layGrid_65 rfl rfl ?_
      refine px_fV2i dX11_layGrid_66 kX11_layGrid_229 (xol rfl) hM (Nat.le_of_ble_eq_true rfl) (c_X11_needY hf hM hW) ?_
      refine px_top (y := nI (gNY A D i T)) (mNX_t hs hlt hT.2.1).2 ?_
      refine px_icmp_ge 134 dX11_layGrid_69 rfl (fun h69 => ?_) (fun h69 => ?_)
      · have hye : y = gNY A D i T := by rw [nI_leI (by omega) (by omega)] at h69; omega
        subst hye
        refine px_inc_2 dX11_layGrid_134 rfl ic_1 ?_
        refine px_goto 25 dX11_layGrid_137 rfl ?_
        exact px_forget (lo' := [some (.ref 74), some (.int (nI p)), some (.int (nI i + 1)), none, none, none]) (by repeat' constructor) (px_eq (by rw [nI_1]) rfl (nx hlt _ (gr_pnt hI hL)))
      · have hyl : y < gNY A D i T := by rw [nI_leI (by omega) (by omega)] at h69; omega
        refine px_iconst dX11_layGrid_72 ic_0 ?_
        refine px_si_5 dX11_layGrid_73 rfl ?_
        refine px_for (P := fun x => PR E mX11_layGrid (xN M) 75 [some (.ref 74), some (.int (nI p)), some (.int (nI i)), some (.int (nI T)), some (.int (nI y)), some (.int (nI x))] [] (wF M 85 (pnt i X Y (gNX A D i T) y x g)) (fun r m => r = none ∧ ∃ g, m = wF M 85 g ∧ grOK A D lay p n g)) (gNX A D i T) (fun x hx nxx => ?_) 0 (Nat.zero_le _)
        refine px_iload dX11_layGrid_75 rfl ?_
        refine px_aload_n dX11_layGrid_77 rfl rfl ?_
        refine px_iload_n dX11_layGrid_78 rfl rfl ?_
        refine px_iload_n dX11_layGrid_79 rfl rfl ?_
        refine px_fV2i dX11_layGrid_80 kX11_layGrid_220 (xol rfl) hM (Nat.le_of_ble_eq_true rfl) (c_X11_needX hf hM hW) ?_
        refine px_top (y := nI (gNX A D i T)) (mNX_t hs hlt hT.2.1).1 ?_
        refine px_icmp_ge 128 dX11_layGrid_83 rfl (fun h83 => ?_) (fun h83 => ?_)
        · have hxe : x = gNX A D i T := by rw [nI_leI (by omega) (by omega)] at h83; omega
          subst hxe
          refine px_inc_4 dX11_layGrid_128 rfl ic_1 ?_
          refine px_goto 61 dX11_layGrid_131 rfl ?_
          refine px_eq (M' := wF M 85 (pnt i X Y (gNX A D i T) (y + 1) 0 g)) rfl (by rw [pnt_row]) ?_
          rw [nI_1]
          exact px_forget (by repeat' constructor) (ny hyl)
        · have hxl : x < gNX A D i T := by rw [nI_leI (by omega) (by omega)] at h83; omega
          refine px_aload_n dX11_layGrid_86 rfl rfl ?_
          refine px_getR dX11_layGrid_87 fX11_41 (xol rfl) hM rfl (wr_11_26 hW (xol rfl)) (Nat.succ_pos _) ?_
          refine px_bipush dX11_layGrid_90 bp_16 ?_
          refine px_aload_n dX11_layGrid_92 rfl rfl ?_
          refine px_getR dX11_layGrid_93 fX11_35 (xol rfl) hM rfl (wr_11_23 hW (xol rfl)) (Nat.succ_pos _) ?_
          refine px_iconst dX11_layGrid_96 ic_4 ?_
          refine px_iload_n dX11_layGrid_97 rfl rfl ?_
          refine px_imul dX11_layGrid_98 ?_
          refine px_iconst dX11_layGrid_99 ic_2 ?_
          refine px_iadd dX11_layGrid_100 ?_
          refine px_top (ixA 4 i 2) ?_
          refine px_iald dX11_layGrid_101 (xal (n := 33) rfl) hM (vp_in_nI (by omega) (by decide)) ?_
          refine px_top (y := nI Y) (by rw [nI_clamp (by omega)]; exact hn4.2.2.1) ?_
          refine px_iload dX11_layGrid_102 rfl ?_
          refine px_iadd dX11_layGrid_104 ?_
          refine px_imul dX11_layGrid_105 ?_
          refine px_aload_n dX11_layGrid_106 rfl rfl ?_
          refine px_getR dX11_layGrid_107 fX11_35 (xol rfl) hM rfl (wr_11_23 hW (xol rfl)) (Nat.succ_pos _) ?_
          refine px_iconst dX11_layGrid_110 ic_4 ?_
          refine px_iload_n dX11_layGrid_111 rfl rfl ?_
          refine px_imul dX11_layGrid_112 ?_
          refine px_iconst dX11_layGrid_113 ic_1 ?_
          refine px_iadd dX11_layGrid_114 ?_
          refine px_top (ixA 4 i 1) ?_
          refine px_iald dX11_layGrid_115 (xal (n := 33) rfl) hM (vp_in_nI (by omega) (by decide)) ?_
          refine px_top (y := nI X) (by rw [nI_clamp (by omega)]; exact hn4.2.1) ?_
          refine px_iadd dX11_layGrid_116 ?_
          refine px_iload dX11_layGrid_117 rfl ?_
          refine px_iadd dX11_layGrid_119 ?_
          refine px_top (y := nI (16 * (Y + y) + X + x)) (by rw [nI_add, show (16 : Int32) = nI 16 from rfl, pk_mul, nI_add, nI_add]) ?_
          refine px_iload_n dX11_layGrid_120 rfl rfl ?_
          refine px_iast dX11_layGrid_121 (xal (n := 256) rfl) hM (vp_in_nI (by omega) (by decide)) ?_
          refine px_inc_5 dX11_layGrid_122 rfl ic_1 ?_
          refine px_goto 75 dX11_layGrid_125 rfl ?_
          exact px_eq (by rw [nI_1]) (by rw [nI_clamp (by omega)]; exact pnt_s _ _ _ _ _ _ _ _ (by omega)) (nxx hxl)

set_option maxRecDepth 100000 in
theorem l_X11_layGrid1 {E : xE} {M : xMem} {n W H p : Nat} {A D : Nat → Nat} {lay : gLay} (hM : xNT ≤ xN M) (hW : xWire M.2.1) (hs : shM M n W H A D) (hl : lyM (M.1 83) lay) (ho : lyOK n W H A D lay) (hp : p < 9) : PR E mX11_layGrid (xN M) 2 [some (.ref 74), some (.int (nI p)), some (.int (nI 0)), none, none, none] [] (wF M 85 (fun k => if k < 0 then -9 else M.1 85 k)) (fun r m => r = none ∧ ∃ g, m = wF M 85 g ∧ grOK A D lay p n g) := by
  refine px_for (P := fun i => PR E mX11_layGrid (xN M) 2 [some (.ref 74), some (.int (nI p)), some (.int (nI i)), none, none, none] [] (wF M 85 (fun k => if k < i then -9 else M.1 85 k)) (fun r m => r = none ∧ ∃ g, m = wF M 85 g ∧ grOK A D lay p n g)) (256) (fun i hi nx => ?_) (0) (by omega)
  refine px_iload_n dX11_layGrid_2 rfl rfl ?_
  refine px_sipush dX11_layGrid_3 sp_256 ?_
  refine px_icmp_ge 23 dX11_layGrid_6 rfl (fun h6 => ?_) (fun h6 => ?_)
  · have hi2 : i = 256 := by have h6 : nI 256 ≤ nI i := h6; rw [nI_leI (by omega) (by omega)] at h6; omega
    subst hi2
    refine px_iconst dX11_layGrid_23 ic_0 ?_
    refine px_si_2 dX11_layGrid_24 rfl ?_
    exact l_X11_layGrid2 hM hW hs hl ho hp _ (fun i j hi hj => Or.inl ⟨by rw [if_pos (by omega)], fun f hf => by omega⟩)
  · have hlt : i < 256 := by have h6 : ¬ nI 256 ≤ nI i := h6; rw [nI_leI (by omega) (by omega)] at h6; omega
    refine px_aload_n dX11_layGrid_9 rfl rfl ?_
    refine px_getR dX11_layGrid_10 fX11_41 (xol rfl) hM rfl (wr_11_26 hW (xol rfl)) (Nat.succ_pos _) ?_
    refine px_iload_n dX11_layGrid_13 rfl rfl ?_
    refine px_bipush dX11_layGrid_14 bp_m9 ?_
    refine px_iast dX11_layGrid_16 (xal (n := 256) rfl) hM (vp_in_nI (by omega) (by decide)) ?_
    refine px_inc_2 dX11_layGrid_17 rfl ic_1 ?_
    refine px_goto 2 dX11_layGrid_20 rfl ?_
    exact px_eq (by rw [nI_1]) (by rw [nI_clamp (by omega)]; exact fil_s _ _ _ _ _) (nx hlt)

set_option maxRecDepth 100000 in
theorem c_X11_layGrid {E : xE} {M : xMem} {n W H p : Nat} {A D : Nat → Nat} {lay : gLay} (hM : xNT ≤ xN M) (hW : xWire M.2.1) (hs : shM M n W H A D) (hl : lyM (M.1 83) lay) (ho : lyOK n W H A D lay) (hp : p < 9) : Ct E mX11_layGrid [.ref 74, .int (nI p)] M (xN M) (fun r m => r = none ∧ ∃ g, m = wF M 85 g ∧ grOK A D lay p n g) := by
  refine Ct.of (lo := [some (.ref 74), some (.int (nI p)), none, none, none, none]) pln_X11 (Nat.le_of_ble_eq_true rfl) rfl (Nat.le_refl _) ?_
  refine px_iconst dX11_layGrid_0 ic_0 ?_
  refine px_si_2 dX11_layGrid_1 rfl ?_
  have k := l_X11_layGrid1 (E := E) hM hW hs hl ho hp
  have e : wF M 85 (fun k => if k < 0 then -9 else M.1 85 k) = M := by
    have : (fun k => if k < 0 then (-9 : Int32) else M.1 85 k) = M.1 85 := by funext k; rw [if_neg (by omega)]
    rw [this, wF_id]
  rw [e] at k
  exact k
