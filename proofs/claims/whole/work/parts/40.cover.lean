/-! ===== the class's sheet and layout; a look at a page ===== -/
abbrev fA (s f : Nat) : Nat := s + 1 + 1 + f
def shC (M : xMem) (s n W H : Nat) (A D : Nat → Nat) : Prop := M.1 s 1 = nI n ∧ M.1 s 2 = nI W ∧ M.1 s 3 = nI H ∧ n ≤ 8 ∧ W ≤ 16 ∧ H ≤ 16 ∧ ∀ f, f < n → fAc M (fA s f) 0 = nI (A f) ∧ fDn M (fA s f) 0 = nI (D f) ∧ 1 ≤ A f ∧ A f ≤ 22 ∧ 1 ≤ D f ∧ D f ≤ 22
def lyC (w : Nat → Int32) (lay : gLay) : Prop := (∀ f, f < 8 → lay f = none → w f = -9) ∧ ∀ f p x y t, f < 8 → lay f = some (p, x, y, t) → w f = nI (p * 512 + x * 32 + y * 2 + t)
/-- only the room differs -/
def rmS (M M1 : xMem) : Prop := M1.2 = M.2 ∧ ∀ a, a ≠ 25 → a ≠ 26 → a ≠ 27 → M1.1 a = M.1 a
theorem rmS.rf (M : xMem) : rmS M M := ⟨rfl, fun _ _ _ _ => rfl⟩
theorem rmS.tr {M M1 M2 : xMem} (h : rmS M M1) (h' : rmS M1 M2) : rmS M M2 := ⟨h'.1.trans h.1, fun a a1 a2 a3 => (h'.2 a a1 a2 a3).trans (h.2 a a1 a2 a3)⟩
theorem rmF.s {M M1 : xMem} (h : rmF M M1) : rmS M M1 := ⟨h.1, fun a a1 _ a3 => h.2.1 a a1 a3⟩
theorem shC_keep {M M1 : xMem} {s n W H : Nat} {A D : Nat → Nat} (hs : xob s 7) (h : shC M s n W H A D) (hk : rmS M M1) : shC M1 s n W H A D := by
  have h7 := xob_7 hs
  have e1 : M1.1 s = M.1 s := hk.2 s (by omega) (by omega) (by omega)
  refine ⟨by rw [e1]; exact h.1, by rw [e1]; exact h.2.1, by rw [e1]; exact h.2.2.1, h.2.2.2.1, h.2.2.2.2.1, h.2.2.2.2.2.1, fun f hf => ?_⟩
  have e2 : M1.1 (fA s f) = M.1 (fA s f) := hk.2 _ (by have := h.2.2.2.1; show s + 1 + 1 + f ≠ 25; omega) (by have := h.2.2.2.1; show s + 1 + 1 + f ≠ 26; omega) (by have := h.2.2.2.1; show s + 1 + 1 + f ≠ 27; omega)
  unfold fAc fDn
  rw [e2]
  exact h.2.2.2.2.2.2 f hf
theorem fC_t {M : xMem} {s n W H : Nat} {A D : Nat → Nat} (h : shC M s n W H A D) {f t : Nat} (hf : f < n) (ht : t < 2) : fAc M (fA s f) (nI t) = nI (gNX A D f t) ∧ fDn M (fA s f) (nI t) = nI (gNY A D f t) := by
  obtain ⟨e0, e1, -⟩ := h.2.2.2.2.2.2 f hf
  rcases (show t = 0 ∨ t = 1 by omega) with rfl | rfl
  · exact ⟨e0, e1⟩
  · exact ⟨e1, e0⟩
theorem gNC_le {M : xMem} {s n W H : Nat} {A D : Nat → Nat} (h : shC M s n W H A D) {f t : Nat} (hf : f < n) : gNX A D f t ≤ 22 ∧ gNY A D f t ≤ 22 ∧ 1 ≤ gNX A D f t ∧ 1 ≤ gNY A D f t := by
  obtain ⟨-, -, a1, a2, d1, d2⟩ := h.2.2.2.2.2.2 f hf
  unfold gNX gNY
  split <;> exact ⟨by omega, by omega, by omega, by omega⟩
theorem sp_dec {p x y t : Nat} (hp : p < 9) (hx : x < 16) (hy : y < 16) (ht : t < 2) : sPg (nI (p * 512 + x * 32 + y * 2 + t)) = nI p ∧ sX (nI (p * 512 + x * 32 + y * 2 + t)) = nI x ∧ sY (nI (p * 512 + x * 32 + y * 2 + t)) = nI y ∧ sT (nI (p * 512 + x * 32 + y * 2 + t)) = nI t := by
  have e512 : (512 : Int32) = nI 512 := rfl
  have e32 : (32 : Int32) = nI 32 := rfl
  have e2 : (2 : Int32) = nI 2 := rfl
  refine ⟨?_, ?_, ?_, ?_⟩
  · unfold sPg; rw [e512, pk_div (by omega) (by decide) (by decide)]; congr 1; omega
  · unfold sX; rw [e512, e32, pk_rem (by omega) (by decide) (by decide), pk_div (by omega) (by decide) (by decide)]; congr 1; omega
  · unfold sY; rw [e32, e2, pk_rem (by omega) (by decide) (by decide), pk_div (by omega) (by decide) (by decide)]; congr 1; omega
  · unfold sT; rw [e2, pk_rem (by omega) (by decide) (by decide), show (p * 512 + x * 32 + y * 2 + t) % 2 = t by omega]
    rcases (show t = 0 ∨ t = 1 by omega) with rfl | rfl
    · exact zb_f (by decide)
    · exact zb_t rfl
theorem nI_ne9 {v : Nat} (h : v < 2 ^ 30) : ¬ nI v = -9 := by
  intro e
  have h1 : (nI v).toInt = (v : Int) := nI_toInt (by omega)
  rw [e] at h1
  have : ((-9 : Int32)).toInt = -9 := by decide
  omega
def cvr (Y h : Nat) (v : Int32) (g : Nat → Int32) (k j : Nat) : Int32 := if Y ≤ j ∧ j < Y + k then g j ||| v else g j
theorem cvr_0 (Y h : Nat) (v : Int32) (g : Nat → Int32) : cvr Y h v g 0 = g := by funext j; unfold cvr; rw [if_neg (by omega)]
theorem cvr_s (M : xMem) (Y h : Nat) (v : Int32) (g : Nat → Int32) (k : Nat) : wI (wF M 26 (cvr Y h v g k)) 26 (Y + k) (cvr Y h v g k (Y + k) ||| v) = wF M 26 (cvr Y h v g (k + 1)) := by
  rw [wI_wF]
  congr 1
  funext j
  unfold cvr
  by_cases e : j = Y + k
  · subst e; rw [if_pos rfl, if_neg (by omega), if_pos (by omega)]
  · rw [if_neg e]
    by_cases e2 : Y ≤ j ∧ j < Y + k
    · rw [if_pos e2, if_pos (by omega)]
    · rw [if_neg e2, if_neg (by omega)]

theorem i_min2 {b : Nat} (h : b ≤ 16) : (if (16 : Int32) < nI b then 16 else nI b) = nI b := by
  rw [if_neg]
  show ¬ nI 16 < nI b
  rw [nI_ltI (by decide) (by omega)]
  omega

theorem i_minE {a b : Nat} (h : b ≤ a) (ha : a < 2 ^ 31) : (if nI b < nI a then nI b else nI a) = nI b := by
  by_cases z : nI b < nI a
  · rw [if_pos z]
  · rw [if_neg z]
    rw [nI_ltI (by omega) ha] at z
    rw [show a = b by omega]

set_option maxRecDepth 100000 in
theorem l_X4_cover {E : xE} {M : xMem} {s la n W H f p X Y T : Nat} {A D : Nat → Nat} {lay : gLay} (hM : xNT ≤ xN M) (hW : xWire M.2.1) (hs : xob s 7) (hla : xob la 1) (hsh : shC M s n W H A D) (hl : lyC (M.1 (la + 1)) lay) (ho : lyOK n W H A D lay) (hL : lay f = some (p, X, Y, T)) (hfn : f < n) (eh : M.1 25 3 = nI H) : PR E mX4_cover (xN M) 52 [some (.ref 25), some (.ref (fA s f)), some (.ref la), some (.int (nI f)), some (.int (nI T)), some (.int ((1 <<< ((nI X + nI (gNX A D f T)) &&& 31)) - (1 <<< (nI X &&& 31)))), some (.int (nI Y)), some (.int (nI (Y + gNY A D f T))), some (.int (nI (Y + 0)))] [] (wF M 26 (cvr Y (gNY A D f T) ((1 <<< ((nI X + nI (gNX A D f T)) &&& 31)) - (1 <<< (nI X &&& 31))) (M.1 26) 0)) (fun r m => r = none ∧ m = wF M 26 (cvr Y (gNY A D f T) ((1 <<< ((nI X + nI (gNX A D f T)) &&& 31)) - (1 <<< (nI X &&& 31))) (M.1 26) (gNY A D f T))) := by
  have h8 : n ≤ 8 := hsh.2.2.2.1
  have hT := ho.2.1 f p X Y T hL
  have hNB := gNC_le hsh (t := T) hfn
  have hWH : W ≤ 16 ∧ H ≤ 16 := ⟨hsh.2.2.2.2.1, hsh.2.2.2.2.2.1⟩
  have hsp := hl.2 f p X Y T (by omega) hL
  have hdc := sp_dec (p := p) (x := X) (y := Y) (t := T) (by omega) (by omega) (by omega) hT.2.1
  have hfi : vp_in (nI f) 8 := vp_in_nI (by omega) (by decide)
  have hnf : (nI f).toNatClampNeg = f := nI_clamp (by omega)
  have hfo : xob (fA s f) 0 := ob_frame hs (by omega)
  refine px_for (P := fun i => PR E mX4_cover (xN M) 52 [some (.ref 25), some (.ref (fA s f)), some (.ref la), some (.int (nI f)), some (.int (nI T)), some (.int ((1 <<< ((nI X + nI (gNX A D f T)) &&& 31)) - (1 <<< (nI X &&& 31)))), some (.int (nI Y)), some (.int (nI (Y + gNY A D f T))), some (.int (nI (Y + i)))] [] (wF M 26 (cvr Y (gNY A D f T) ((1 <<< ((nI X + nI (gNX A D f T)) &&& 31)) - (1 <<< (nI X &&& 31))) (M.1 26) i)) (fun r m => r = none ∧ m = wF M 26 (cvr Y (gNY A D f T) ((1 <<< ((nI X + nI (gNX A D f T)) &&& 31)) - (1 <<< (nI X &&& 31))) (M.1 26) (gNY A D f T)))) (gNY A D f T) (fun i hi nx => ?_) (0) (by omega)
  refine px_iload dX4_cover_52 rfl ?_
  refine px_iload dX4_cover_54 rfl ?_
  refine px_icmp_ge 77 dX4_cover_56 rfl (fun h56 => ?_) (fun h56 => ?_)
  · have hi2 : i = gNY A D f T := by rw [nI_leI (by omega) (by omega)] at h56; omega
    exact px_ret dX4_cover_77 rfl ⟨rfl, by rw [hi2]⟩ (rfl)
  · have hlt : i < gNY A D f T := by rw [nI_leI (by omega) (by omega)] at h56; omega
    refine px_aload_n dX4_cover_59 rfl rfl ?_
    refine px_getR dX4_cover_60 fX4_9 (xol rfl) hM rfl (wr_4_0 hW (xol rfl)) (Nat.succ_pos _) ?_
    refine px_iload dX4_cover_63 rfl ?_
    refine px_dup2 dX4_cover_65 ?_
    refine px_iald dX4_cover_66 (xal (n := 16) rfl) hM (vp_in_nI (by omega) (by decide)) ?_
    refine px_top (y := cvr Y (gNY A D f T) ((1 <<< ((nI X + nI (gNX A D f T)) &&& 31)) - (1 <<< (nI X &&& 31))) (M.1 26) i (Y + i)) (by rw [nI_clamp (by omega), xI_wF, if_pos rfl]) ?_
    refine px_iload dX4_cover_67 rfl ?_
    refine px_ior dX4_cover_69 ?_
    refine px_iast dX4_cover_70 (xal (n := 16) rfl) hM (vp_in_nI (by omega) (by decide)) ?_
    refine px_inc_8 dX4_cover_71 rfl ic_1 ?_
    refine px_goto 52 dX4_cover_74 rfl ?_
    rw [nI_1 (Y + i)]
    exact px_eq rfl (by rw [nI_clamp (by omega)]; exact cvr_s _ _ _ _ _ _) (nx hlt)

set_option maxRecDepth 100000 in
theorem c_X4_cover {E : xE} {M : xMem} {s la n W H f p X Y T : Nat} {A D : Nat → Nat} {lay : gLay} (hM : xNT ≤ xN M) (hW : xWire M.2.1) (hs : xob s 7) (hla : xob la 1) (hsh : shC M s n W H A D) (hl : lyC (M.1 (la + 1)) lay) (ho : lyOK n W H A D lay) (hL : lay f = some (p, X, Y, T)) (hfn : f < n) (eh : M.1 25 3 = nI H) : Cf E mX4_cover [.ref 25, .ref (fA s f), .ref la, .int (nI f)] M none (wF M 26 (cvr Y (gNY A D f T) ((1 <<< ((nI X + nI (gNX A D f T)) &&& 31)) - (1 <<< (nI X &&& 31))) (M.1 26) (gNY A D f T))) := by
  have h8 : n ≤ 8 := hsh.2.2.2.1
  have hT := ho.2.1 f p X Y T hL
  have hNB := gNC_le hsh (t := T) hfn
  have hWH : W ≤ 16 ∧ H ≤ 16 := ⟨hsh.2.2.2.2.1, hsh.2.2.2.2.2.1⟩
  have hsp := hl.2 f p X Y T (by omega) hL
  have hdc := sp_dec (p := p) (x := X) (y := Y) (t := T) (by omega) (by omega) (by omega) hT.2.1
  have hfi : vp_in (nI f) 8 := vp_in_nI (by omega) (by decide)
  have hnf : (nI f).toNatClampNeg = f := nI_clamp (by omega)
  have hfo : xob (fA s f) 0 := ob_frame hs (by omega)
  refine Ct.of (lo := [some (.ref 25), some (.ref (fA s f)), some (.ref la), some (.int (nI f)), none, none, none, none, none]) pln_X4 (Nat.le_of_ble_eq_true rfl) rfl (Nat.le_refl _) ?_
  refine px_aload_n dX4_cover_0 rfl rfl ?_
  refine px_iload_n dX4_cover_1 rfl rfl ?_
  refine px_fV1i dX4_cover_2 kX4_cover_60 hla hM (Nat.le_of_ble_eq_true rfl) (c_X1_isTurned hla hM hW hfi) ?_
  refine px_top (y := nI T) (by rw [hnf, hsp]; exact hdc.2.2.2) ?_
  refine px_si_4 dX4_cover_5 rfl ?_
  refine px_aload_n dX4_cover_7 rfl rfl ?_
  refine px_iload_n dX4_cover_8 rfl rfl ?_
  refine px_fV1i dX4_cover_9 kX4_cover_63 hla hM (Nat.le_of_ble_eq_true rfl) (c_X1_xOf hla hM hW hfi) ?_
  refine px_top (y := nI X) (by rw [hnf, hsp]; exact hdc.2.1) ?_
  refine px_aload_n dX4_cover_12 rfl rfl ?_
  refine px_iload dX4_cover_13 rfl ?_
  refine px_fV1i dX4_cover_15 kX4_cover_66 hfo hM (Nat.le_of_ble_eq_true rfl) (c_X0_needsAcross hfo hM) ?_
  refine px_top (y := nI (gNX A D f T)) (fC_t hsh hfn hT.2.1).1 ?_
  refine px_fS2i dX4_cover_18 kX4_cover_72 (Nat.le_of_ble_eq_true rfl) (c_X4_span) ?_
  refine px_si_5 dX4_cover_21 rfl ?_
  refine px_aload_n dX4_cover_23 rfl rfl ?_
  refine px_iload_n dX4_cover_24 rfl rfl ?_
  refine px_fV1i dX4_cover_25 kX4_cover_75 hla hM (Nat.le_of_ble_eq_true rfl) (c_X1_yOf hla hM hW hfi) ?_
  refine px_top (y := nI Y) (by rw [hnf, hsp]; exact hdc.2.2.1) ?_
  refine px_si_6 dX4_cover_28 rfl ?_
  refine px_aload_n dX4_cover_30 rfl rfl ?_
  refine px_getI dX4_cover_31 fX4_22 (xol rfl) hM rfl ?_
  refine px_top (y := nI H) eh ?_
  refine px_iload dX4_cover_34 rfl ?_
  refine px_aload_n dX4_cover_36 rfl rfl ?_
  refine px_iload dX4_cover_37 rfl ?_
  refine px_fV1i dX4_cover_39 kX4_cover_78 hfo hM (Nat.le_of_ble_eq_true rfl) (c_X0_needsDown hfo hM) ?_
  refine px_top (y := nI (gNY A D f T)) (fC_t hsh hfn hT.2.1).2 ?_
  refine px_iadd dX4_cover_42 ?_
  refine px_min dX4_cover_43 kX4_cover_31 (Nat.le_of_ble_eq_true rfl) ?_
  refine px_top (y := nI (Y + gNY A D f T)) (by rw [nI_add]; exact i_minE (by omega) (by omega)) ?_
  refine px_si_7 dX4_cover_46 rfl ?_
  refine px_iload dX4_cover_48 rfl ?_
  refine px_si_8 dX4_cover_50 rfl ?_
  have k := l_X4_cover (E := E) hM hW hs hla hsh hl ho hL hfn eh
  rw [cvr_0, wF_id] at k
  exact k

theorem lOcc_g {n W H : Nat} {A D : Nat → Nat} {lay : gLay} {p : Nat} (ho : lyOK n W H A D lay) (h8 : n ≤ 8) : ∃ (q : Nat → Prop) (fx fy fw fh : Nat → Nat), ∀ i j, lOcc A D lay p i j ↔ gOcc q fx fy fw fh i j := by
  refine ⟨fun f => ∃ x y t, lay f = some (p, x, y, t), fun f => ((lay f).getD (0, 0, 0, 0)).2.1, fun f => ((lay f).getD (0, 0, 0, 0)).2.2.1, fun f => gNX A D f ((lay f).getD (0, 0, 0, 0)).2.2.2, fun f => gNY A D f ((lay f).getD (0, 0, 0, 0)).2.2.2, fun i j => ?_⟩
  constructor
  · rintro ⟨f, x, y, t, h1, h2, h3, h4, h5⟩
    refine ⟨f, ?_, ⟨x, y, t, h1⟩, ?_⟩
    · apply Classical.byContradiction
      intro z
      rw [ho.1 f (by omega)] at h1
      cases h1
    · dsimp only; rw [h1]; exact ⟨h2, h3, h4, h5⟩
  · rintro ⟨f, hf, ⟨x, y, t, h1⟩, h2⟩
    dsimp only at h2
    rw [h1] at h2
    exact ⟨f, x, y, t, h1, h2.1, h2.2.1, h2.2.2.1, h2.2.2.2⟩
theorem lcap {n W H : Nat} {A D : Nat → Nat} {lay : gLay} {p : Nat} (ho : lyOK n W H A D lay) (h8 : n ≤ 8) : ∀ L : List gR, gSort L → (∀ q ∈ L, gMax W H (lOcc A D lay p) q) → L.length ≤ 729 := by
  obtain ⟨q, fx, fy, fw, fh, hq⟩ := lOcc_g (p := p) ho h8
  have e : lOcc A D lay p = gOcc q fx fy fw fh := by funext i j; exact propext (hq i j)
  intro L hS hm
  rw [e] at hm
  exact gIs_len hS hm
def lkI (W H : Nat) (A D : Nat → Nat) (lay : gLay) (p f : Nat) (g : Nat → Int32) : Prop := ∀ j, j < H → cols W (g j) (fun i => ∃ f2, f2 < f ∧ gCov A D lay p f2 i j)
theorem lk_skip {W H : Nat} {A D : Nat → Nat} {lay : gLay} {p f : Nat} {g : Nat → Int32} (h : lkI W H A D lay p f g) (hn : ∀ i j, ¬ gCov A D lay p f i j) : lkI W H A D lay p (f + 1) g := by
  intro j hj
  refine cols_c (h j hj) (fun i hi => ⟨fun ⟨f2, h1, h2⟩ => ⟨f2, by omega, h2⟩, fun ⟨f2, h1, h2⟩ => ⟨f2, ?_, h2⟩⟩)
  by_cases e : f2 = f
  · subst e; exact absurd h2 (hn i j)
  · omega
theorem lk_cov {W H : Nat} {A D : Nat → Nat} {lay : gLay} {p f X Y T : Nat} {g : Nat → Int32} (h : lkI W H A D lay p f g) (hL : lay f = some (p, X, Y, T)) (hX : X + gNX A D f T ≤ W) (hW : W ≤ 16) : lkI W H A D lay p (f + 1) (cvr Y (gNY A D f T) ((1 <<< ((nI X + nI (gNX A D f T)) &&& 31)) - (1 <<< (nI X &&& 31))) g (gNY A D f T)) := by
  intro j hj
  unfold cvr
  by_cases hy : Y ≤ j ∧ j < Y + gNY A D f T
  · rw [if_pos hy]
    refine cols_c (cols_or (h j hj) (cols_span hX hW)) (fun i hi => ?_)
    constructor
    · rintro (⟨f2, h1, h2⟩ | h1)
      · exact ⟨f2, by omega, h2⟩
      · exact ⟨f, by omega, X, Y, T, hL, h1.1, h1.2, hy.1, hy.2⟩
    · rintro ⟨f2, h1, h2⟩
      by_cases e : f2 = f
      · subst e
        obtain ⟨x, y, t, q1, q2, q3, q4, q5⟩ := h2
        rw [hL] at q1; cases q1
        exact Or.inr ⟨q2, q3⟩
      · exact Or.inl ⟨f2, by omega, h2⟩
  · rw [if_neg hy]
    refine cols_c (h j hj) (fun i hi => ⟨fun ⟨f2, h1, h2⟩ => ⟨f2, by omega, h2⟩, fun ⟨f2, h1, h2⟩ => ⟨f2, ?_, h2⟩⟩)
    by_cases e : f2 = f
    · subst e
      obtain ⟨x, y, t, q1, q2, q3, q4, q5⟩ := h2
      rw [hL] at q1; cases q1
      exact absurd ⟨q4, q5⟩ hy
    · omega
theorem rmS_26 (M : xMem) (v w : Int32) (g : Nat → Int32) : rmS M (wF (wI (wI M 25 2 v) 25 3 w) 26 g) :=
  ⟨rfl, fun a a1 a2 _ => by rw [xI_wF, if_neg a2]; funext k; rw [xI_wI, if_neg (fun z => a1 z.1), xI_wI, if_neg (fun z => a1 z.1)]⟩

set_option maxRecDepth 100000 in
theorem l_X4_look2 {E : xE} {M : xMem} {s la n W H p : Nat} {A D : Nat → Nat} {lay : gLay} (hM : xNT ≤ xN M) (hW : xWire M.2.1) (hs : xob s 7) (hla : xob la 1) (hsh : shC M s n W H A D) (hl : lyC (M.1 (la + 1)) lay) (ho : lyOK n W H A D lay) (hp : p < 9) (g : Nat → Int32) (hI : lkI W H A D lay p 0 g) : PR E mX4_look (xN M) 55 [some (.ref 25), some (.ref s), some (.ref la), some (.int (nI p)), some (.int (nI 0))] [] (wF (wI (wI M 25 2 (nI W)) 25 3 (nI H)) 26 g) (fun r m => r = none ∧ ∃ L, rmS M m ∧ frC m L ∧ gIs W H (lOcc A D lay p) L) := by
  have h8 : n ≤ 8 := hsh.2.2.2.1
  have hWH : W ≤ 16 ∧ H ≤ 16 := ⟨hsh.2.2.2.2.1, hsh.2.2.2.2.2.1⟩
  have h7 := xob_7 hs
  have h1 := xob_1 hla
  refine px_for (P := fun i => ∀ g : Nat → Int32, lkI W H A D lay p i g → PR E mX4_look (xN M) 55 [some (.ref 25), some (.ref s), some (.ref la), some (.int (nI p)), some (.int (nI i))] [] (wF (wI (wI M 25 2 (nI W)) 25 3 (nI H)) 26 g) (fun r m => r = none ∧ ∃ L, rmS M m ∧ frC m L ∧ gIs W H (lOcc A D lay p) L)) n (fun i hi nx => ?_) 0 (Nat.zero_le _) g hI
  intro g hI
  have hk := rmS_26 M (nI W) (nI H) g
  have hsh1 := shC_keep hs hsh hk
  have hl1 : lyC ((wF (wI (wI M 25 2 (nI W)) 25 3 (nI H)) 26 g).1 (la + 1)) lay := by rw [hk.2 (la + 1) (by omega) (by omega) (by omega)]; exact hl
  refine px_iload dX4_look_55 rfl ?_
  refine px_aload_n dX4_look_57 rfl rfl ?_
  refine px_getI dX4_look_58 fX4_38 hs hM rfl ?_
  refine px_top (y := nI n) hsh1.1 ?_
  refine px_icmp_ge 103 dX4_look_61 rfl (fun h61 => ?_) (fun h61 => ?_)
  · have hi2 : i = n := by rw [nI_leI (by omega) (by omega)] at h61; omega
    have htk : tkC W H (lOcc A D lay p) ((wF (wI (wI M 25 2 (nI W)) 25 3 (nI H)) 26 g).1 26) := by
      rw [xI_wF, if_pos rfl]
      intro j hj
      refine cols_c (hI j hj) (fun a ha => ⟨fun ⟨f2, z1, z2⟩ => ⟨f2, z2⟩, fun ⟨f2, z2⟩ => ⟨f2, ?_, z2⟩⟩)
      apply Classical.byContradiction
      intro z
      obtain ⟨X, Y, T, z3, -⟩ := z2
      rw [ho.1 f2 (by omega)] at z3
      cases z3
    refine px_aload_n dX4_look_103 rfl rfl ?_
    refine px_gV0 dX4_look_104 kX4_look_57 (xol rfl) hM (Nat.le_of_ble_eq_true rfl) (c_X4_findFree (W := W) (H := H) (o := lOcc A D lay p) hM hW rfl rfl hWH.1 hWH.2 htk (lcap ho h8)) (fun r104 M104 hq104 hn104 => ?_)
    obtain ⟨rfl, L, q1, q2, q3⟩ := hq104
    exact px_ret dX4_look_107 rfl ⟨rfl, L, hk.tr q1.s, q2, q3⟩ (hn104)
  · have hlt : i < n := by rw [nI_leI (by omega) (by omega)] at h61; omega
    have hfi : vp_in (nI i) 8 := vp_in_nI (by omega) (by decide)
    have hnf : (nI i).toNatClampNeg = i := nI_clamp (by omega)
    refine px_aload_n dX4_look_64 rfl rfl ?_
    refine px_iload dX4_look_65 rfl ?_
    refine px_fV1i dX4_look_67 kX4_look_39 hla hM (Nat.le_of_ble_eq_true rfl) (c_X1_isSet hla hM hW hfi) ?_
    refine px_zif_eq 97 dX4_look_70 rfl (fun h70 => ?_) (fun h70 => ?_)
    · refine px_inc_4 dX4_look_97 rfl ic_1 ?_
      refine px_goto 55 dX4_look_100 rfl ?_
      first
        | (rw [nI_1 i]; exact nx hlt _ (lk_skip hI (fun a b z => by obtain ⟨X, Y, T, z1, -⟩ := z; exact h70 (by rw [hnf, hl1.2 i p X Y T (by omega) z1]; exact nI_ne9 (by have := ho.2.1 i p X Y T z1; have := gNC_le hsh (t := T) hlt; omega)))))
        | (rw [nI_1 i]; exact nx hlt _ (lk_skip hI (fun a b z => by obtain ⟨X2, Y2, T2, z1, -⟩ := z; rw [hL] at z1; cases z1; exact h80 rfl)))
        | (rw [nI_1 i]; refine px_eq rfl ?_ (nx hlt _ (lk_cov hI hL hT.2.2.1 hWH.1)); rw [wF_wF, xI_wF, if_pos rfl])
    · rw [hnf] at h70
      obtain ⟨p2, X, Y, T, hL⟩ : ∃ p2 X Y T, lay i = some (p2, X, Y, T) := by
        cases hc : lay i with
        | none => exact absurd (hl1.1 i (by omega) hc) h70
        | some q => exact ⟨q.1, q.2.1, q.2.2.1, q.2.2.2, rfl⟩
      have hT := ho.2.1 i p2 X Y T hL
      have hNB := gNC_le hsh (t := T) hlt
      have hdc := sp_dec (p := p2) (x := X) (y := Y) (t := T) (by omega) (by omega) (by omega) hT.2.1
      refine px_aload_n dX4_look_73 rfl rfl ?_
      refine px_iload dX4_look_74 rfl ?_
      refine px_fV1i dX4_look_76 kX4_look_45 hla hM (Nat.le_of_ble_eq_true rfl) (c_X1_pageOf hla hM hW hfi) ?_
      refine px_top (y := nI p2) (by rw [hnf, hl1.2 i p2 X Y T (by omega) hL]; exact hdc.1) ?_
      refine px_iload_n dX4_look_79 rfl rfl ?_
      refine px_icmp_ne 97 dX4_look_80 rfl (fun h80 => ?_) (fun h80 => ?_)
      · refine px_inc_4 dX4_look_97 rfl ic_1 ?_
        refine px_goto 55 dX4_look_100 rfl ?_
        first
          | (rw [nI_1 i]; exact nx hlt _ (lk_skip hI (fun a b z => by obtain ⟨X, Y, T, z1, -⟩ := z; exact h70 (by rw [hnf, hl1.2 i p X Y T (by omega) z1]; exact nI_ne9 (by have := ho.2.1 i p X Y T z1; have := gNC_le hsh (t := T) hlt; omega)))))
          | (rw [nI_1 i]; exact nx hlt _ (lk_skip hI (fun a b z => by obtain ⟨X2, Y2, T2, z1, -⟩ := z; rw [hL] at z1; cases z1; exact h80 rfl)))
          | (rw [nI_1 i]; refine px_eq rfl ?_ (nx hlt _ (lk_cov hI hL hT.2.2.1 hWH.1)); rw [wF_wF, xI_wF, if_pos rfl])
      · have hpe : p2 = p := by rw [nI_eq (by omega) (by omega)] at h80; exact h80
        subst hpe
        refine px_aload_n dX4_look_83 rfl rfl ?_
        refine px_aload_n dX4_look_84 rfl rfl ?_
        refine px_getR dX4_look_85 fX4_49 hs hM rfl (wr_7_0 hW hs) (Nat.succ_pos _) ?_
        refine px_iload dX4_look_88 rfl ?_
        refine px_aald (t0 := 6) dX4_look_90 (ar_7 hs) (by decide) (fun _ => rfl) hM hfi (show M.2.1 (s + 1) (nI i).toNatClampNeg = s + 1 + 1 + i by rw [hnf]; exact wa_26 hW (ar_7 hs) (by omega)) (by omega) ?_
        refine px_aload_n dX4_look_91 rfl rfl ?_
        refine px_iload dX4_look_92 rfl ?_
        refine px_fV3v dX4_look_94 kX4_look_53 (xol rfl) hM (Nat.le_of_ble_eq_true rfl) (c_X4_cover (M := wF (wI (wI M 25 2 (nI W)) 25 3 (nI H)) 26 g) (s := s) (f := i) (n := n) (W := W) (H := H) hM hW hs hla hsh1 hl1 ho hL hlt rfl) ?_
        refine px_inc_4 dX4_look_97 rfl ic_1 ?_
        refine px_goto 55 dX4_look_100 rfl ?_
        first
          | (rw [nI_1 i]; exact nx hlt _ (lk_skip hI (fun a b z => by obtain ⟨X, Y, T, z1, -⟩ := z; exact h70 (by rw [hnf, hl1.2 i p X Y T (by omega) z1]; exact nI_ne9 (by have := ho.2.1 i p X Y T z1; have := gNC_le hsh (t := T) hlt; omega)))))
          | (rw [nI_1 i]; exact nx hlt _ (lk_skip hI (fun a b z => by obtain ⟨X2, Y2, T2, z1, -⟩ := z; rw [hL] at z1; cases z1; exact h80 rfl)))
          | (rw [nI_1 i]; refine px_eq rfl ?_ (nx hlt _ (lk_cov hI hL hT.2.2.1 hWH.1)); rw [wF_wF, xI_wF, if_pos rfl])

set_option maxRecDepth 100000 in
theorem l_X4_look1 {E : xE} {M : xMem} {s la n W H p : Nat} {A D : Nat → Nat} {lay : gLay} (hM : xNT ≤ xN M) (hW : xWire M.2.1) (hs : xob s 7) (hla : xob la 1) (hsh : shC M s n W H A D) (hl : lyC (M.1 (la + 1)) lay) (ho : lyOK n W H A D lay) (hp : p < 9) : PR E mX4_look (xN M) 29 [some (.ref 25), some (.ref s), some (.ref la), some (.int (nI p)), some (.int (nI 0))] [] (wF (wI (wI M 25 2 (nI W)) 25 3 (nI H)) 26 (fun k => if k < 0 then 0 else M.1 26 k)) (fun r m => r = none ∧ ∃ L, rmS M m ∧ frC m L ∧ gIs W H (lOcc A D lay p) L) := by
  have h8 : n ≤ 8 := hsh.2.2.2.1
  have hWH : W ≤ 16 ∧ H ≤ 16 := ⟨hsh.2.2.2.2.1, hsh.2.2.2.2.2.1⟩
  have h7 := xob_7 hs
  have h1 := xob_1 hla
  refine px_for (P := fun i => PR E mX4_look (xN M) 29 [some (.ref 25), some (.ref s), some (.ref la), some (.int (nI p)), some (.int (nI i))] [] (wF (wI (wI M 25 2 (nI W)) 25 3 (nI H)) 26 (fun k => if k < i then 0 else M.1 26 k)) (fun r m => r = none ∧ ∃ L, rmS M m ∧ frC m L ∧ gIs W H (lOcc A D lay p) L)) (H) (fun i hi nx => ?_) (0) (by omega)
  refine px_iload dX4_look_29 rfl ?_
  refine px_aload_n dX4_look_31 rfl rfl ?_
  refine px_getI dX4_look_32 fX4_22 (xol rfl) hM rfl ?_
  refine px_top (y := nI H) rfl ?_
  refine px_icmp_ge 52 dX4_look_35 rfl (fun h35 => ?_) (fun h35 => ?_)
  · have hi2 : i = H := by rw [nI_leI (by omega) (by omega)] at h35; omega
    subst hi2
    refine px_iconst dX4_look_52 ic_0 ?_
    refine px_si_4 dX4_look_53 rfl ?_
    exact l_X4_look2 hM hW hs hla hsh hl ho hp _ (fun j hj => by rw [if_pos hj]; exact cols_c (cols_0 W) (fun a ha => ⟨fun z => z.elim, fun ⟨f2, z1, _⟩ => by omega⟩))
  · have hlt : i < H := by rw [nI_leI (by omega) (by omega)] at h35; omega
    refine px_aload_n dX4_look_38 rfl rfl ?_
    refine px_getR dX4_look_39 fX4_9 (xol rfl) hM rfl (wr_4_0 hW (xol rfl)) (Nat.succ_pos _) ?_
    refine px_iload dX4_look_42 rfl ?_
    refine px_iconst dX4_look_44 ic_0 ?_
    refine px_iast dX4_look_45 (xal (n := 16) rfl) hM (vp_in_nI (by omega) (by decide)) ?_
    refine px_inc_4 dX4_look_46 rfl ic_1 ?_
    refine px_goto 29 dX4_look_49 rfl ?_
    exact px_eq (by rw [nI_1]) (by rw [nI_clamp (by omega)]; exact fil_s _ _ _ _ _) (nx hlt)

set_option maxRecDepth 100000 in
theorem c_X4_look {E : xE} {M : xMem} {s la n W H p : Nat} {A D : Nat → Nat} {lay : gLay} (hM : xNT ≤ xN M) (hW : xWire M.2.1) (hs : xob s 7) (hla : xob la 1) (hsh : shC M s n W H A D) (hl : lyC (M.1 (la + 1)) lay) (ho : lyOK n W H A D lay) (hp : p < 9) : Ct E mX4_look [.ref 25, .ref s, .ref la, .int (nI p)] M (xN M) (fun r m => r = none ∧ ∃ L, rmS M m ∧ frC m L ∧ gIs W H (lOcc A D lay p) L) := by
  have h8 : n ≤ 8 := hsh.2.2.2.1
  have hWH : W ≤ 16 ∧ H ≤ 16 := ⟨hsh.2.2.2.2.1, hsh.2.2.2.2.2.1⟩
  have h7 := xob_7 hs
  have h1 := xob_1 hla
  refine Ct.of (lo := [some (.ref 25), some (.ref s), some (.ref la), some (.int (nI p)), none]) pln_X4 (Nat.le_of_ble_eq_true rfl) rfl (Nat.le_refl _) ?_
  refine px_aload_n dX4_look_0 rfl rfl ?_
  refine px_aload_n dX4_look_1 rfl rfl ?_
  refine px_getI dX4_look_2 fX4_28 hs hM rfl ?_
  refine px_top (y := nI W) hsh.2.1 ?_
  refine px_bipush dX4_look_5 bp_16 ?_
  refine px_min dX4_look_7 kX4_look_31 (Nat.le_of_ble_eq_true rfl) ?_
  refine px_top (y := nI W) (by have := i_minE (a := 16) (b := W) hWH.1 (by decide); exact i_min2 hWH.1) ?_
  refine px_putI dX4_look_10 fX4_18 p4_2 (xol rfl) hM rfl ?_
  refine px_aload_n dX4_look_13 rfl rfl ?_
  refine px_aload_n dX4_look_14 rfl rfl ?_
  refine px_getI dX4_look_15 fX4_37 hs hM rfl ?_
  refine px_top (y := nI H) (by rw [xI_wI, if_neg (fun z => by omega)]; exact hsh.2.2.1) ?_
  refine px_bipush dX4_look_18 bp_16 ?_
  refine px_min dX4_look_20 kX4_look_31 (Nat.le_of_ble_eq_true rfl) ?_
  refine px_top (y := nI H) (i_min2 hWH.2) ?_
  refine px_putI dX4_look_23 fX4_22 p4_3 (xol rfl) hM rfl ?_
  refine px_iconst dX4_look_26 ic_0 ?_
  refine px_si_4 dX4_look_27 rfl ?_
  have k := l_X4_look1 (E := E) hM hW hs hla hsh hl ho hp
  have e : wF (wI (wI M 25 2 (nI W)) 25 3 (nI H)) 26 (fun k => if k < 0 then 0 else M.1 26 k) = (wI (wI M 25 2 (nI W)) 25 3 (nI H)) := by
    have : (fun k => if k < 0 then (0 : Int32) else M.1 26 k) = ((wI (wI M 25 2 (nI W)) 25 3 (nI H))).1 26 := by funext k; rw [if_neg (by omega)]; rfl
    rw [this, wF_id]
  rw [e] at k
  exact k
