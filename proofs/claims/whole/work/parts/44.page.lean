/-! ===== a page that has room ===== -/
theorem gIs_ex {W H : Nat} (o : Nat → Nat → Prop) (hW : W ≤ 16) (hH : H ≤ 16) : ∃ L, gIs W H o L := by
  let dc : Nat → gR := fun n => (n / 1024 % 32, n / 32768, n / 32 % 32, n % 32)
  refine ⟨((List.range (2 ^ 20)).filter (fun n => @decide (gMax W H o (dc n) ∧ gEnc (dc n) = n) (Classical.propDecidable _))).map dc, ?_, fun r => ?_⟩
  · unfold gSort
    rw [List.pairwise_map]
    have h1 : ((List.range (2 ^ 20)).filter (fun n => @decide (gMax W H o (dc n) ∧ gEnc (dc n) = n) (Classical.propDecidable _))).Pairwise (fun a b => a < b) := List.pairwise_lt_range.filter _
    refine List.Pairwise.imp_of_mem ?_ h1
    intro a b ha hb hab
    have e1 := (List.mem_filter.mp ha).2
    have e2 := (List.mem_filter.mp hb).2
    simp only [decide_eq_true_eq] at e1 e2
    rw [e1.2, e2.2]
    exact hab
  · rw [List.mem_map]
    constructor
    · rintro ⟨n, hn, rfl⟩
      have e1 := (List.mem_filter.mp hn).2
      simp only [decide_eq_true_eq] at e1
      exact e1.1
    · intro hr
      have hb := gMax_b hW hH hr
      obtain ⟨x, y, w, h⟩ := r
      simp only at hb
      have e : dc (gEnc (x, y, w, h)) = (x, y, w, h) := by
        show (_, _, _, _) = _
        have hE : gEnc (x, y, w, h) = ((y * 32 + x) * 32 + w) * 32 + h := rfl
        rw [hE]
        refine Prod.ext ?_ (Prod.ext ?_ (Prod.ext ?_ ?_)) <;> simp only <;> omega
      refine ⟨gEnc (x, y, w, h), List.mem_filter.mpr ⟨List.mem_range.mpr ?_, ?_⟩, e⟩
      · have hE : gEnc (x, y, w, h) = ((y * 32 + x) * 32 + w) * 32 + h := rfl
        rw [hE]; omega
      · simp only [decide_eq_true_eq]
        rw [e]
        exact ⟨hr, rfl⟩
noncomputable def fL (W H : Nat) (o : Nat → Nat → Prop) : List gR := @dite _ (∃ L, gIs W H o L) (Classical.propDecidable _) (fun h => Classical.choose h) (fun _ => [])
theorem fL_eq {W H : Nat} {o : Nat → Nat → Prop} {L : List gR} (h : gIs W H o L) : L = fL W H o := by
  unfold fL
  rw [dif_pos ⟨L, h⟩]
  exact gIs_uniq h (Classical.choose_spec (p := fun L => gIs W H o L) ⟨L, h⟩)
theorem fL_is {W H : Nat} (o : Nat → Nat → Prop) (hW : W ≤ 16) (hH : H ≤ 16) : gIs W H o (fL W H o) := by
  obtain ⟨L, h⟩ := gIs_ex o hW hH
  rw [← fL_eq h]; exact h
noncomputable def pB (rule W H : Nat) (A D : Nat → Nat) (T f : Nat) (lay : gLay) (p : Nat) : Option (Nat × Nat) := bsK rule A D f (fL W H (lOcc A D lay p)) T (fL W H (lOcc A D lay p)).length
noncomputable def fpG (B : Nat → Option (Nat × Nat)) : Nat → Nat → Option Nat
  | _, 0 => none
  | p, c + 1 => if (B p).isSome = true then some p else fpG B (p + 1) c
theorem fpG_f {B : Nat → Option (Nat × Nat)} {q : Nat × Nat} : ∀ (c p i : Nat), p ≤ i → i < p + c → (∀ k, p ≤ k → k < i → B k = none) → B i = some q → fpG B p c = some i
  | 0, p, i, h1, h2, _, _ => by omega
  | c + 1, p, i, h1, h2, h3, h4 => by
    rw [fpG]
    by_cases e : p = i
    · subst e; rw [h4]; rfl
    · rw [h3 p (Nat.le_refl _) (by omega)]
      exact fpG_f c (p + 1) i (by omega) (by omega) (fun k k1 k2 => h3 k (by omega) k2) h4
theorem fpG_n {B : Nat → Option (Nat × Nat)} : ∀ (c p : Nat), (∀ k, p ≤ k → k < p + c → B k = none) → fpG B p c = none
  | 0, p, _ => rfl
  | c + 1, p, h => by
    rw [fpG, h p (Nat.le_refl _) (by omega)]
    exact fpG_n c (p + 1) (fun k k1 k2 => h k (by omega) (by omega))
theorem fpG_s {B : Nat → Option (Nat × Nat)} : ∀ (c p i : Nat), fpG B p c = some i → i < p + c ∧ ∃ q, B i = some q
  | 0, p, i, h => by cases h
  | c + 1, p, i, h => by
    rw [fpG] at h
    cases hb : B p with
    | none => rw [hb] at h; have := fpG_s c (p + 1) i h; exact ⟨by omega, this.2⟩
    | some q => rw [hb] at h; cases h; exact ⟨by omega, q, hb⟩
noncomputable def spG (rule W H : Nat) (A D : Nat → Nat) (T f : Nat) (lay : gLay) : Option (Nat × Nat × Nat × Nat) :=
  match fpG (pB rule W H A D T f lay) 0 (if pgL lay 8 < 7 then pgL lay 8 + 1 else 8) with
  | none => none
  | some p => match pB rule W H A D T f lay p with
    | none => none
    | some q => some (p, (gd (fL W H (lOcc A D lay p)) q.1).1, (gd (fL W H (lOcc A D lay p)) q.1).2.1, q.2)
section SPG
variable {rule W H : Nat} {A D : Nat → Nat} {T f : Nat} {lay : gLay}
theorem spG_at {i : Nat} {q : Nat × Nat} (h : ∀ p, p < i → pB rule W H A D T f lay p = none) (hi : i ≤ pgL lay 8) (h8 : i < 8) (hq : pB rule W H A D T f lay i = some q) : spG rule W H A D T f lay = some (i, (gd (fL W H (lOcc A D lay i)) q.1).1, (gd (fL W H (lOcc A D lay i)) q.1).2.1, q.2) := by
  unfold spG
  rw [fpG_f (q := q) _ 0 i (Nat.zero_le _) (by split <;> omega) (fun k _ hk => h k hk) hq]
  dsimp only
  rw [hq]
theorem spG_no {i : Nat} (h : ∀ p, p < i → pB rule W H A D T f lay p = none) (hi : pgL lay 8 < i ∨ 8 ≤ i) : spG rule W H A D T f lay = none := by
  unfold spG
  rw [fpG_n _ 0 (fun k _ hk => h k (by split at hk <;> omega))]
theorem spG_in {p x y t : Nat} (hT : T ≤ 2) (hW : W ≤ 16) (hH : H ≤ 16) (h : spG rule W H A D T f lay = some (p, x, y, t)) : p < 8 ∧ t < 2 ∧ x + gNX A D f t ≤ W ∧ y + gNY A D f t ≤ H ∧ ∀ i j, x ≤ i → i < x + gNX A D f t → y ≤ j → j < y + gNY A D f t → ¬ lOcc A D lay p i j := by
  unfold spG at h
  cases hp : fpG (pB rule W H A D T f lay) 0 (if pgL lay 8 < 7 then pgL lay 8 + 1 else 8) with
  | none => rw [hp] at h; cases h
  | some p' =>
    rw [hp] at h
    have h1 := fpG_s _ _ _ hp
    obtain ⟨q, hq⟩ := h1.2
    dsimp only at h
    rw [hq] at h
    cases h
    have hb := bsK_ok T _ q hq
    have hm := ((fL_is (lOcc A D lay p) hW hH).2 _).mp (List.mem_of_getElem? (gd_at hb.1))
    have hf := hm.2.2.1
    have hlt := h1.1
    refine ⟨by split at hlt <;> omega, by omega, ?_, ?_, ?_⟩
    · have := hf.1; omega
    · have := hf.2.1; omega
    · intro i j i1 i2 j1 j2
      exact hf.2.2 i j i1 (by omega) j1 (by omega)
def uly (lay : gLay) (f : Nat) (v : Option (Nat × Nat × Nat × Nat)) : gLay := fun g => if g = f then v else lay g
theorem uly_s (lay : gLay) (f : Nat) (v : Option (Nat × Nat × Nat × Nat)) : uly lay f v f = v := if_pos rfl
theorem uly_o {lay : gLay} {f g : Nat} {v : Option (Nat × Nat × Nat × Nat)} (h : g ≠ f) : uly lay f v g = lay g := if_neg h
theorem uly_none {n : Nat} (ho : lyOK n W H A D lay) : lyOK n W H A D (uly lay f none) := by
  have key : ∀ g v, uly lay f none g = some v → lay g = some v := by
    intro g v e
    by_cases hg : g = f
    · subst hg; rw [uly_s] at e; cases e
    · rw [uly_o hg] at e; exact e
  refine ⟨fun g hg => ?_, fun g p x y t e => ho.2.1 g p x y t (key g _ e), fun g g' p i j c1 c2 => ?_⟩
  · by_cases e : g = f
    · subst e; exact uly_s _ _ _
    · rw [uly_o e]; exact ho.1 g hg
  · obtain ⟨x, y, t, e, hh⟩ := c1
    obtain ⟨x2, y2, t2, e2, hh2⟩ := c2
    exact ho.2.2 g g' p i j ⟨x, y, t, key g _ e, hh⟩ ⟨x2, y2, t2, key g' _ e2, hh2⟩
theorem uly_ok {n : Nat} (ho : lyOK n W H A D lay) (hfn : f < n) {p x y t : Nat} (h : p < 8 ∧ t < 2 ∧ x + gNX A D f t ≤ W ∧ y + gNY A D f t ≤ H ∧ ∀ i j, x ≤ i → i < x + gNX A D f t → y ≤ j → j < y + gNY A D f t → ¬ lOcc A D lay p i j) : lyOK n W H A D (uly lay f (some (p, x, y, t))) := by
  refine ⟨fun g hg => ?_, fun g p' x' y' t' e => ?_, fun g g' p' i j c1 c2 => ?_⟩
  · rw [uly_o (by omega)]; exact ho.1 g hg
  · by_cases hg : g = f
    · subst hg; rw [uly_s] at e; cases e; exact ⟨h.1, h.2.1, h.2.2.1, h.2.2.2.1⟩
    · rw [uly_o hg] at e; exact ho.2.1 g p' x' y' t' e
  · obtain ⟨x1, y1, t1, e1, a1, a2, a3, a4⟩ := c1
    obtain ⟨x2, y2, t2, e2, d1, d2, d3, d4⟩ := c2
    by_cases hg : g = f
    · by_cases hg' : g' = f
      · rw [hg, hg']
      · subst hg
        rw [uly_s] at e1; cases e1
        rw [uly_o hg'] at e2
        exact absurd ⟨g', x2, y2, t2, e2, d1, d2, d3, d4⟩ (h.2.2.2.2 i j a1 a2 a3 a4)
    · by_cases hg' : g' = f
      · subst hg'
        rw [uly_s] at e2; cases e2
        rw [uly_o hg] at e1
        exact absurd ⟨g, x1, y1, t1, e1, a1, a2, a3, a4⟩ (h.2.2.2.2 i j d1 d2 d3 d4)
      · rw [uly_o hg] at e1
        rw [uly_o hg'] at e2
        exact ho.2.2 g g' p' i j ⟨x1, y1, t1, e1, a1, a2, a3, a4⟩ ⟨x2, y2, t2, e2, d1, d2, d3, d4⟩
/-- a frame set where there is room, if there is -/
noncomputable def setG (rule W H : Nat) (A D : Nat → Nat) (T f : Nat) (lay : gLay) : gLay := uly lay f (spG rule W H A D T f lay)
theorem setG_ok {n : Nat} (ho : lyOK n W H A D lay) (hfn : f < n) (hT : T ≤ 2) (hW : W ≤ 16) (hH : H ≤ 16) : lyOK n W H A D (setG rule W H A D T f lay) := by
  unfold setG
  cases hc : spG rule W H A D T f lay with
  | none => exact uly_none ho
  | some q => exact uly_ok ho hfn (spG_in hT hW hH hc)
def spC : Option (Nat × Nat × Nat × Nat) → Int32
  | none => -9
  | some q => nI (q.1 * 512 + q.2.1 * 32 + q.2.2.1 * 2 + q.2.2.2)
def spP : Option (Nat × Nat × Nat × Nat) → Int32
  | none => -9
  | some q => nI q.1
end SPG
theorem rmS.m {M m : xMem} (h : rmS M m) : xN m = xN M := by show m.2.2.2 = M.2.2.2; rw [h.1]
theorem rmS.w {M m : xMem} (h : rmS M m) : m.2.1 = M.2.1 := by rw [h.1]
theorem gr8 {i PG : Nat} (h : i ≤ 8) (hP : PG ≤ 8) (z : nI PG < nI i) : PG < i := by rw [nI_ltI (by omega) (by omega)] at z; exact z

theorem sp_on {L : List gR} {i : Nat} {q : Nat × Nat} : nI i * 512 + spE L (some q) = nI (i * 512 + (gd L q.1).1 * 32 + (gd L q.1).2.1 * 2 + q.2) := by
  show nI i * nI 512 + nI _ = _
  rw [pk_mul, nI_add, show i * 512 + ((gd L q.1).1 * 32 + (gd L q.1).2.1 * 2 + q.2) = i * 512 + (gd L q.1).1 * 32 + (gd L q.1).2.1 * 2 + q.2 by omega]

set_option maxRecDepth 100000 in
theorem l_X2_spotFor {E : xE} {M : xMem} {s la n W H f T rule : Nat} {A D : Nat → Nat} {lay : gLay} (hM : xNT ≤ xN M) (hW : xWire M.2.1) (hs : xob s 7) (hla : xob la 1) (hsh : shC M s n W H A D) (hl : lyC (M.1 (la + 1)) lay) (ho : lyOK n W H A D lay) (hfn : f < n) (hrl : M.1 la 1 = nI rule) (hru : rule < 4) (hT : T ≤ 2) (hTt : (M.1 (fA s f) 0 = 1 ∨ M.1 (fA s f) 0 = 3 → T = 1) ∧ (¬ (M.1 (fA s f) 0 = 1 ∨ M.1 (fA s f) 0 = 3) → T = 2)) : ∀ m, rmS M m → (∀ p, p < 0 → pB rule W H A D T f lay p = none) → PR E mX2_spotFor (xN M) 9 [some (.ref 24), some (.ref s), some (.ref la), some (.int (nI f)), some (.int (nI (pgL lay 8))), some (.int (nI 0)), none] [] m (fun r m => r = some (.int (spC (spG rule W H A D T f lay))) ∧ rmS M m) := by
  have h8 : n ≤ 8 := hsh.2.2.2.1
  have hWH : W ≤ 16 ∧ H ≤ 16 := ⟨hsh.2.2.2.2.1, hsh.2.2.2.2.2.1⟩
  have h7 := xob_7 hs
  have h1 := xob_1 hla
  have hb : lyB lay := hsh.b ho
  have hPG := pgL_le hb 8
  refine px_for (P := fun i => ∀ m, rmS M m → (∀ p, p < i → pB rule W H A D T f lay p = none) → PR E mX2_spotFor (xN M) 9 [some (.ref 24), some (.ref s), some (.ref la), some (.int (nI f)), some (.int (nI (pgL lay 8))), some (.int (nI i)), none] [] m (fun r m => r = some (.int (spC (spG rule W H A D T f lay))) ∧ rmS M m)) 8 (fun i hi nx => ?_) 0 (by omega)
  intro m hk hp
  have hm : xNT ≤ xN m := by rw [hk.m]; exact hM
  have hw : xWire m.2.1 := by rw [hk.w]; exact hW
  have hmN := hk.m
  have hsh1 := shC_keep hs hsh hk
  have hl1 : lyC (m.1 (la + 1)) lay := by rw [hk.2 (la + 1) (by omega) (by omega) (by omega)]; exact hl
  refine px_iload dX2_spotFor_9 rfl ?_
  refine px_iload dX2_spotFor_11 rfl ?_
  refine px_icmp_gt 74 dX2_spotFor_13 rfl (fun h13 => ?_) (fun h13 => ?_)
  · refine px_bipush dX2_spotFor_74 bp_m9 ?_
    exact px_iret dX2_spotFor_76 rfl (by first | exact ⟨by rw [spG_no hp (Or.inl (by rw [nI_ltI (by omega) (by omega)] at h13; omega))]; rfl, hk⟩ | exact ⟨by rw [spG_no hp (Or.inr (by rw [show (8 : Int32) = nI 8 from rfl, nI_leI (by omega) (by omega)] at h20; omega))]; rfl, hk⟩) (by first | exact hn31.trans hmN | exact hmN)
  · have hle : i ≤ pgL lay 8 := by rw [nI_ltI (by omega) (by omega)] at h13; omega
    refine px_iload dX2_spotFor_16 rfl ?_
    refine px_bipush dX2_spotFor_18 bp_8 ?_
    refine px_icmp_ge 74 dX2_spotFor_20 rfl (fun h20 => ?_) (fun h20 => ?_)
    · refine px_bipush dX2_spotFor_74 bp_m9 ?_
      exact px_iret dX2_spotFor_76 rfl (by first | exact ⟨by rw [spG_no hp (Or.inl (by rw [nI_ltI (by omega) (by omega)] at h13; omega))]; rfl, hk⟩ | exact ⟨by rw [spG_no hp (Or.inr (by rw [show (8 : Int32) = nI 8 from rfl, nI_leI (by omega) (by omega)] at h20; omega))]; rfl, hk⟩) (by first | exact hn31.trans hmN | exact hmN)
    · have hlt : i < 8 := by rw [show (8 : Int32) = nI 8 from rfl, nI_leI (by omega) (by omega)] at h20; omega
      refine px_aload_n dX2_spotFor_23 rfl rfl ?_
      refine px_getR dX2_spotFor_24 fX2_12 (xol rfl) hm rfl (wr_2_0 hw (xol rfl)) (Nat.succ_pos _) ?_
      refine px_aload_n dX2_spotFor_27 rfl rfl ?_
      refine px_aload_n dX2_spotFor_28 rfl rfl ?_
      refine px_iload dX2_spotFor_29 rfl ?_
      refine px_gV3 dX2_spotFor_31 kX2_spotFor_28 (xol rfl) hm (Nat.le_of_ble_eq_true rfl) (c_X4_look (n := n) (W := W) (H := H) hm hw hs hla hsh1 hl1 ho (by omega)) (fun r31 M31 hq31 hn31 => ?_)
      obtain ⟨rfl, L, q1, q2, q3⟩ := hq31
      have hcap := lcap (p := i) ho h8 L q3.1 (fun q hq => (q3.2 q).mp hq)
      have hB := gIs_B hWH.1 hWH.2 q3
      have eL := fL_eq q3
      have hm : xNT ≤ xN M31 := by rw [hn31]; exact hm
      have hk2 := hk.tr q1
      have hw : xWire M31.2.1 := by rw [hk2.w]; exact hW
      have hsh2 := shC_keep hs hsh hk2
      have e34 : M31.1 (fA s f) = M.1 (fA s f) := hk2.2 _ (by show s + 1 + 1 + f ≠ 25; omega) (by show s + 1 + 1 + f ≠ 26; omega) (by show s + 1 + 1 + f ≠ 27; omega)
      have hfi : vp_in (nI f) 8 := vp_in_nI (by omega) (by decide)
      have hnf : (nI f).toNatClampNeg = f := nI_clamp (by omega)
      refine px_aload_n dX2_spotFor_34 rfl rfl ?_
      refine px_getR dX2_spotFor_35 fX2_12 (xol rfl) hm rfl (wr_2_0 hw (xol rfl)) (Nat.succ_pos _) ?_
      refine px_aload_n dX2_spotFor_38 rfl rfl ?_
      refine px_getR dX2_spotFor_39 fX2_32 hs hm rfl (wr_7_0 hw hs) (Nat.succ_pos _) ?_
      refine px_iload_n dX2_spotFor_42 rfl rfl ?_
      refine px_aald (t0 := 6) dX2_spotFor_43 (ar_7 hs) (by decide) (fun _ => rfl) hm hfi (show M31.2.1 (s + 1) (nI f).toNatClampNeg = s + 1 + 1 + f by rw [hnf]; exact wa_26 hw (ar_7 hs) (by omega)) (by omega) ?_
      refine px_aload_n dX2_spotFor_44 rfl rfl ?_
      refine px_getI dX2_spotFor_45 fX2_38 hla hm rfl ?_
      refine px_top (y := nI rule) (by rw [hk2.2 la (by omega) (by omega) (by omega)]; exact hrl) ?_
      refine px_fV2i dX2_spotFor_48 kX2_spotFor_42 (xol rfl) hm (Nat.le_of_ble_eq_true rfl) (c_X4_bestSpot (M := M31) (s := s) (f := f) (T := T) hm hw hs hsh2 q2 hB hcap hfn hT hru (by rw [e34]; exact hTt)) ?_
      refine px_si_6 dX2_spotFor_51 rfl ?_
      refine px_iload dX2_spotFor_53 rfl ?_
      refine px_bipush dX2_spotFor_55 bp_m9 ?_
      refine px_icmp_eq 68 dX2_spotFor_57 rfl (fun h57 => ?_) (fun h57 => ?_)
      · refine px_inc_5 dX2_spotFor_68 rfl ic_1 ?_
        refine px_goto 9 dX2_spotFor_71 rfl ?_
        rw [nI_1 i]
        exact px_forget (by repeat' constructor) (nx hlt _ hk2 (fun p hpi => by
          by_cases e : p = i
          · subst e; subst eL; exact spE_n hB (fun q hq => by have := (bsK_ok T _ q hq).2.1; omega) h57
          · exact hp p (by omega)))
      · refine px_iload dX2_spotFor_60 rfl ?_
        refine px_iload dX2_spotFor_62 rfl ?_
        refine px_fS2i dX2_spotFor_64 kX2_spotFor_46 (Nat.le_of_ble_eq_true rfl) (c_X1_spotOnPage) ?_
        exact px_iret dX2_spotFor_67 rfl ⟨by obtain ⟨q, hq⟩ := spE_s h57; rw [hq]; subst eL; rw [spG_at hp hle hlt hq, sp_on]; rfl, hk2⟩ (by first | exact hn31.trans hmN | exact hmN)

set_option maxRecDepth 100000 in
theorem c_X2_spotFor {E : xE} {M : xMem} {s la n W H f T rule : Nat} {A D : Nat → Nat} {lay : gLay} (hM : xNT ≤ xN M) (hW : xWire M.2.1) (hs : xob s 7) (hla : xob la 1) (hsh : shC M s n W H A D) (hl : lyC (M.1 (la + 1)) lay) (ho : lyOK n W H A D lay) (hfn : f < n) (hrl : M.1 la 1 = nI rule) (hru : rule < 4) (hT : T ≤ 2) (hTt : (M.1 (fA s f) 0 = 1 ∨ M.1 (fA s f) 0 = 3 → T = 1) ∧ (¬ (M.1 (fA s f) 0 = 1 ∨ M.1 (fA s f) 0 = 3) → T = 2)) : Ct E mX2_spotFor [.ref 24, .ref s, .ref la, .int (nI f)] M (xN M) (fun r m => r = some (.int (spC (spG rule W H A D T f lay))) ∧ rmS M m) := by
  refine Ct.of (lo := [some (.ref 24), some (.ref s), some (.ref la), some (.int (nI f)), none, none, none]) pln_X2 (Nat.le_of_ble_eq_true rfl) rfl (Nat.le_refl _) ?_
  refine px_aload_n dX2_spotFor_0 rfl rfl ?_
  refine px_fV0i dX2_spotFor_1 kX2_spotFor_22 hla hM (Nat.le_of_ble_eq_true rfl) (c_X1_pages hM hW hla hl (hsh.b ho)) ?_
  refine px_si_4 dX2_spotFor_4 rfl ?_
  refine px_iconst dX2_spotFor_6 ic_0 ?_
  refine px_si_5 dX2_spotFor_7 rfl ?_
  exact l_X2_spotFor hM hW hs hla hsh hl ho hfn hrl hru hT hTt M (rmS.rf M) (fun p hp => by omega)

/-- only the reference's scratch differs -/
def mSc2 (M M1 : xMem) : Prop := M1.2 = M.2 ∧ (∀ a, a ≠ 74 → a ≠ 85 → a ≠ 86 → a ≠ 87 → a ≠ 88 → a ≠ 89 → M1.1 a = M.1 a) ∧ ∀ k, k ≠ 27 → (k < 32 ∨ 35 < k) → M1.1 74 k = M.1 74 k
theorem mSc2.rf (M : xMem) : mSc2 M M := ⟨rfl, fun _ _ _ _ _ _ _ => rfl, fun _ _ _ => rfl⟩
theorem mSc2.tr {M M1 M2 : xMem} (h : mSc2 M M1) (h' : mSc2 M1 M2) : mSc2 M M2 := ⟨h'.1.trans h.1, fun a a1 a2 a3 a4 a5 a6 => (h'.2.1 a a1 a2 a3 a4 a5 a6).trans (h.2.1 a a1 a2 a3 a4 a5 a6), fun k k1 k2 => (h'.2.2 k k1 k2).trans (h.2.2 k k1 k2)⟩
theorem mScr.s {M M1 : xMem} (h : mScr M M1) : mSc2 M M1 := ⟨h.1, h.2.1, fun k k1 _ => h.2.2 k k1⟩
theorem mSc2.m {M m : xMem} (h : mSc2 M m) : xN m = xN M := by show m.2.2.2 = M.2.2.2; rw [h.1]
theorem mSc2.w {M m : xMem} (h : mSc2 M m) : m.2.1 = M.2.1 := by rw [h.1]
theorem mSc2.bg (M : xMem) {rule f : Nat} {A D : Nat → Nat} {L : List gR} (b : Option (Nat × Nat)) : mSc2 M (wF M 74 (bg rule A D f L (M.1 74) b)) := ⟨rfl, fun a a1 _ _ _ _ _ => by rw [xI_wF, if_neg a1], fun k _ k2 => bg_o b k2⟩
theorem mSc2.sh {M m : xMem} {n W H : Nat} {A D : Nat → Nat} (h : mSc2 M m) (hs : shM M n W H A D) : shM m n W H A D := shM_keep hs (h.2.1 81 (by decide) (by decide) (by decide) (by decide) (by decide) (by decide)) (fun k k1 k2 => h.2.2 k (by omega) (by omega))
theorem mSc2.now {M m : xMem} (h : mSc2 M m) : m.1 83 = M.1 83 := h.2.1 83 (by decide) (by decide) (by decide) (by decide) (by decide) (by decide)
theorem mSc2.giv {M m : xMem} (h : mSc2 M m) : m.1 81 = M.1 81 := h.2.1 81 (by decide) (by decide) (by decide) (by decide) (by decide) (by decide)

theorem not_some {α : Type} {b : Option α} (h : ¬ b.isSome = true) : b = none := by
  cases b with
  | none => rfl
  | some q => exact absurd rfl h
theorem is_some {α : Type} {b : Option α} (h : b.isSome = true) : ∃ q, b = some q := by
  cases b with
  | none => cases h
  | some q => exact ⟨q, rfl⟩
theorem fp_ret {M M20 : xMem} {rule W H : Nat} {A D : Nat → Nat} {T f i : Nat} {lay : gLay} {L : List gR} (hp : ∀ p, p < i → pB rule W H A D T f lay p = none) (hle : i ≤ pgL lay 8) (hlt : i < 8) (eL : L = fL W H (lOcc A D lay i)) (h : (bsK rule A D f L T L.length).isSome = true) (hcap : L.length ≤ 729) (hk3 : mSc2 M (wF M20 74 (bg rule A D f L (M20.1 74) (bsK rule A D f L T L.length)))) (hL : frL M20 L) :
    some (Value.int (nI i)) = some (.int (spP (spG rule W H A D T f lay))) ∧ mSc2 M (wF M20 74 (bg rule A D f L (M20.1 74) (bsK rule A D f L T L.length))) ∧ ∀ p x y t, spG rule W H A D T f lay = some (p, x, y, t) → ∃ k, k < 4096 ∧ (wF M20 74 (bg rule A D f L (M20.1 74) (bsK rule A D f L T L.length))).1 74 32 = nI k ∧ (wF M20 74 (bg rule A D f L (M20.1 74) (bsK rule A D f L T L.length))).1 74 33 = nI t ∧ (wF M20 74 (bg rule A D f L (M20.1 74) (bsK rule A D f L T L.length))).1 86 k = nI x ∧ (wF M20 74 (bg rule A D f L (M20.1 74) (bsK rule A D f L T L.length))).1 87 k = nI y := by
  obtain ⟨q, hq⟩ := is_some h
  have hok := bsK_ok T _ q hq
  have hat := hL.2 q.1 _ (gd_at hok.1)
  have hq2 : pB rule W H A D T f lay i = some q := by subst eL; exact hq
  have hsp := spG_at hp hle hlt hq2
  refine ⟨by rw [hsp]; rfl, hk3, fun p x y t e => ?_⟩
  rw [hsp] at e
  rw [← eL] at e
  cases e
  rw [hq]
  exact ⟨q.1, by omega, rfl, rfl, hat.1, hat.2.1⟩

set_option maxRecDepth 100000 in
theorem l_X11_findsPage {E : xE} {M : xMem} {n W H f T rule : Nat} {A D : Nat → Nat} {lay : gLay} (hM : xNT ≤ xN M) (hW : xWire M.2.1) (hs : shM M n W H A D) (hl : lyM (M.1 83) lay) (ho : lyOK n W H A D lay) (hfn : f < n) (hrl : M.1 83 32 = nI rule) (hru : rule < 4) (hT : T ≤ 2) (hTt : (if mg M f 0 = 1 then (1 : Int32) else if mg M f 0 = 3 then 1 else 2) = nI T) : ∀ m, mSc2 M m → (∀ p, p < 0 → pB rule W H A D T f lay p = none) → PR E mX11_findsPage (xN M) 7 [some (.ref 74), some (.int (nI f)), some (.int (nI (pgL lay 8))), some (.int (nI 0))] [] m (fun r m => r = some (.int (spP (spG rule W H A D T f lay))) ∧ mSc2 M m ∧ ∀ p x y t, spG rule W H A D T f lay = some (p, x, y, t) → ∃ k, k < 4096 ∧ m.1 74 32 = nI k ∧ m.1 74 33 = nI t ∧ m.1 86 k = nI x ∧ m.1 87 k = nI y) := by
  have h8 : n ≤ 8 := hs.2.2.2.1
  have hWH : W ≤ 16 ∧ H ≤ 16 := ⟨hs.2.2.2.2.1, hs.2.2.2.2.2.1⟩
  have hb : lyB lay := hs.b ho
  have hPG := pgL_le hb 8
  refine px_for (P := fun i => ∀ m, mSc2 M m → (∀ p, p < i → pB rule W H A D T f lay p = none) → PR E mX11_findsPage (xN M) 7 [some (.ref 74), some (.int (nI f)), some (.int (nI (pgL lay 8))), some (.int (nI i))] [] m (fun r m => r = some (.int (spP (spG rule W H A D T f lay))) ∧ mSc2 M m ∧ ∀ p x y t, spG rule W H A D T f lay = some (p, x, y, t) → ∃ k, k < 4096 ∧ m.1 74 32 = nI k ∧ m.1 74 33 = nI t ∧ m.1 86 k = nI x ∧ m.1 87 k = nI y)) 8 (fun i hi nx => ?_) 0 (by omega)
  intro m hk hp
  have hm : xNT ≤ xN m := by rw [hk.m]; exact hM
  have hw : xWire m.2.1 := by rw [hk.w]; exact hW
  have hmN := hk.m
  have hs1 := hk.sh hs
  have hl1 : lyM (m.1 83) lay := by rw [hk.now]; exact hl
  refine px_iload_n dX11_findsPage_7 rfl rfl ?_
  refine px_iload_n dX11_findsPage_8 rfl rfl ?_
  refine px_icmp_gt 46 dX11_findsPage_9 rfl (fun h9 => ?_) (fun h9 => ?_)
  · refine px_bipush dX11_findsPage_46 bp_m9 ?_
    exact px_iret dX11_findsPage_48 rfl (by first | exact ⟨by rw [spG_no hp (Or.inl (by rw [nI_ltI (by omega) (by omega)] at h9; omega))]; rfl, hk, fun p x y t e => by rw [spG_no hp (Or.inl (by rw [nI_ltI (by omega) (by omega)] at h9; omega))] at e; cases e⟩ | exact ⟨by rw [spG_no hp (Or.inr (by rw [show (8 : Int32) = nI 8 from rfl, nI_leI (by omega) (by omega)] at h15; omega))]; rfl, hk, fun p x y t e => by rw [spG_no hp (Or.inr (by rw [show (8 : Int32) = nI 8 from rfl, nI_leI (by omega) (by omega)] at h15; omega))] at e; cases e⟩) (by first | exact hn20.trans hmN | exact hmN)
  · have hle : i ≤ pgL lay 8 := by rw [nI_ltI (by omega) (by omega)] at h9; omega
    refine px_iload_n dX11_findsPage_12 rfl rfl ?_
    refine px_bipush dX11_findsPage_13 bp_8 ?_
    refine px_icmp_ge 46 dX11_findsPage_15 rfl (fun h15 => ?_) (fun h15 => ?_)
    · refine px_bipush dX11_findsPage_46 bp_m9 ?_
      exact px_iret dX11_findsPage_48 rfl (by first | exact ⟨by rw [spG_no hp (Or.inl (by rw [nI_ltI (by omega) (by omega)] at h9; omega))]; rfl, hk, fun p x y t e => by rw [spG_no hp (Or.inl (by rw [nI_ltI (by omega) (by omega)] at h9; omega))] at e; cases e⟩ | exact ⟨by rw [spG_no hp (Or.inr (by rw [show (8 : Int32) = nI 8 from rfl, nI_leI (by omega) (by omega)] at h15; omega))]; rfl, hk, fun p x y t e => by rw [spG_no hp (Or.inr (by rw [show (8 : Int32) = nI 8 from rfl, nI_leI (by omega) (by omega)] at h15; omega))] at e; cases e⟩) (by first | exact hn20.trans hmN | exact hmN)
    · have hlt : i < 8 := by rw [show (8 : Int32) = nI 8 from rfl, nI_leI (by omega) (by omega)] at h15; omega
      refine px_aload_n dX11_findsPage_18 rfl rfl ?_
      refine px_iload_n dX11_findsPage_19 rfl rfl ?_
      refine px_gV1 dX11_findsPage_20 kX11_findsPage_274 (xol rfl) hm (Nat.le_of_ble_eq_true rfl) (c_X11_layFree (n := n) (W := W) (H := H) hm hw hs1 hl1 ho (by omega)) (fun r20 M20 hq20 hn20 => ?_)
      obtain ⟨rfl, L, q1, q2, q3, q4⟩ := hq20
      have hcap := lcap (p := i) ho h8 L q3.1 (fun q hq => (q3.2 q).mp hq)
      have hB := gIs_B hWH.1 hWH.2 q3
      have eL := fL_eq q3
      have hm : xNT ≤ xN M20 := by rw [hn20]; exact hm
      have hk2 := hk.tr q1.s
      have hw : xWire M20.2.1 := by rw [hk2.w]; exact hW
      have hs2 := hk2.sh hs
      have hk3 : mSc2 M (wF M20 74 (bg rule A D f L (M20.1 74) (bsK rule A D f L T L.length))) := hk2.tr (mSc2.bg M20 _)
      refine px_aload_n dX11_findsPage_23 rfl rfl ?_
      refine px_iload_n dX11_findsPage_24 rfl rfl ?_
      refine px_aload_n dX11_findsPage_25 rfl rfl ?_
      refine px_getR dX11_findsPage_26 fX11_35 (xol rfl) hm rfl (wr_11_23 hw (xol rfl)) (Nat.succ_pos _) ?_
      refine px_bipush dX11_findsPage_29 bp_32 ?_
      refine px_iald dX11_findsPage_31 (xal (n := 33) rfl) hm (vp_in_nI (n := 32) (by decide) (by decide)) ?_
      refine px_top (y := nI rule) (by show M20.1 83 32 = _; rw [hk2.now]; exact hrl) ?_
      refine px_fV2i dX11_findsPage_32 kX11_findsPage_277 (xol rfl) hm (Nat.le_of_ble_eq_true rfl) (c_X11_findsRoom (M := M20) (T := T) hm hw hs2 q2 hB (by omega) hfn hT hru (by show (if M20.1 81 (7 * f + 0) = 1 then _ else if M20.1 81 (7 * f + 0) = 3 then _ else _) = _; rw [hk2.giv]; exact hTt)) ?_
      refine px_zif_eq 40 dX11_findsPage_35 rfl (fun h35 => ?_) (fun h35 => ?_)
      · refine px_inc_3 dX11_findsPage_40 rfl ic_1 ?_
        refine px_goto 7 dX11_findsPage_43 rfl ?_
        rw [nI_1 i]
        exact px_forget (by repeat' constructor) (nx hlt _ hk3 (fun p hpi => by
          by_cases e : p = i
          · subst e; subst eL; exact not_some h35
          · exact hp p (by omega)))
      · refine px_iload_n dX11_findsPage_38 rfl rfl ?_
        exact px_iret dX11_findsPage_39 rfl (fp_ret hp hle hlt eL h35 (hcap := hcap) hk3 q2) (by first | exact hn20.trans hmN | exact hmN)

set_option maxRecDepth 100000 in
theorem c_X11_findsPage {E : xE} {M : xMem} {n W H f T rule : Nat} {A D : Nat → Nat} {lay : gLay} (hM : xNT ≤ xN M) (hW : xWire M.2.1) (hs : shM M n W H A D) (hl : lyM (M.1 83) lay) (ho : lyOK n W H A D lay) (hfn : f < n) (hrl : M.1 83 32 = nI rule) (hru : rule < 4) (hT : T ≤ 2) (hTt : (if mg M f 0 = 1 then (1 : Int32) else if mg M f 0 = 3 then 1 else 2) = nI T) : Ct E mX11_findsPage [.ref 74, .int (nI f)] M (xN M) (fun r m => r = some (.int (spP (spG rule W H A D T f lay))) ∧ mSc2 M m ∧ ∀ p x y t, spG rule W H A D T f lay = some (p, x, y, t) → ∃ k, k < 4096 ∧ m.1 74 32 = nI k ∧ m.1 74 33 = nI t ∧ m.1 86 k = nI x ∧ m.1 87 k = nI y) := by
  refine Ct.of (lo := [some (.ref 74), some (.int (nI f)), none, none]) pln_X11 (Nat.le_of_ble_eq_true rfl) rfl (Nat.le_refl _) ?_
  refine px_aload_n dX11_findsPage_0 rfl rfl ?_
  refine px_fV0i dX11_findsPage_1 kX11_findsPage_270 (xol rfl) hM (Nat.le_of_ble_eq_true rfl) (c_X11_pageMany hM hW hs.2.2.2.1 hs.1) ?_
  refine px_top (y := nI (pgL lay 8)) (by rw [pgF_L hl (hs.b ho) n hs.2.2.2.1, (L_more ho.1 8 hs.2.2.2.1).1]) ?_
  refine px_si_2 dX11_findsPage_4 rfl ?_
  refine px_iconst dX11_findsPage_5 ic_0 ?_
  refine px_si_3 dX11_findsPage_6 rfl ?_
  exact l_X11_findsPage hM hW hs hl ho hfn hrl hru hT hTt M (mSc2.rf M) (fun p hp => by omega)

def upR (g : Nat → Int32) (f : Nat) (a b c d : Int32) (k : Nat) : Int32 := if k = 4 * f + 3 then d else if k = 4 * f + 2 then c else if k = 4 * f + 1 then b else if k = 4 * f + 0 then a else g k
theorem upR_s (M : xMem) (f : Nat) (a b c d : Int32) : wI (wI (wI (wI M 83 (4 * f + 0) a) 83 (4 * f + 1) b) 83 (4 * f + 2) c) 83 (4 * f + 3) d = wF M 83 (upR (M.1 83) f a b c d) := by
  rw [wI_eq M, wI_wF, wI_wF, wI_wF]
  rfl
theorem upR_no {w : Nat → Int32} {lay : gLay} {f : Nat} (h : lyM w lay) : lyM (upR w f (-1) 0 0 0) (uly lay f none) := by
  refine ⟨fun g hg e => ?_, fun g p x y t hg e => ?_⟩
  · by_cases hf : g = f
    · subst hf
      unfold upR
      rw [if_neg (by omega), if_neg (by omega), if_neg (by omega), if_pos (by omega), if_neg (by omega), if_neg (by omega), if_pos (by omega), if_neg (by omega), if_pos (by omega), if_pos (by omega)]
      exact ⟨rfl, rfl, rfl, rfl⟩
    · rw [uly_o hf] at e
      have := h.1 g hg e
      unfold upR
      rw [if_neg (by omega), if_neg (by omega), if_neg (by omega), if_neg (by omega), if_neg (by omega), if_neg (by omega), if_neg (by omega), if_neg (by omega), if_neg (by omega), if_neg (by omega), if_neg (by omega), if_neg (by omega), if_neg (by omega), if_neg (by omega), if_neg (by omega), if_neg (by omega)]
      exact this
  · by_cases hf : g = f
    · subst hf; rw [uly_s] at e; cases e
    · rw [uly_o hf] at e
      have := h.2 g p x y t hg e
      unfold upR
      rw [if_neg (by omega), if_neg (by omega), if_neg (by omega), if_neg (by omega), if_neg (by omega), if_neg (by omega), if_neg (by omega), if_neg (by omega), if_neg (by omega), if_neg (by omega), if_neg (by omega), if_neg (by omega), if_neg (by omega), if_neg (by omega), if_neg (by omega), if_neg (by omega)]
      exact this
theorem upR_so {w : Nat → Int32} {lay : gLay} {f p x y t : Nat} (h : lyM w lay) : lyM (upR w f (nI p) (nI x) (nI y) (nI t)) (uly lay f (some (p, x, y, t))) := by
  refine ⟨fun g hg e => ?_, fun g p' x' y' t' hg e => ?_⟩
  · by_cases hf : g = f
    · subst hf; rw [uly_s] at e; cases e
    · rw [uly_o hf] at e
      have := h.1 g hg e
      unfold upR
      rw [if_neg (by omega), if_neg (by omega), if_neg (by omega), if_neg (by omega), if_neg (by omega), if_neg (by omega), if_neg (by omega), if_neg (by omega), if_neg (by omega), if_neg (by omega), if_neg (by omega), if_neg (by omega), if_neg (by omega), if_neg (by omega), if_neg (by omega), if_neg (by omega)]
      exact this
  · by_cases hf : g = f
    · subst hf
      rw [uly_s] at e
      cases e
      unfold upR
      rw [if_neg (by omega), if_neg (by omega), if_neg (by omega), if_pos (by omega), if_neg (by omega), if_neg (by omega), if_pos (by omega), if_neg (by omega), if_pos (by omega), if_pos (by omega)]
      exact ⟨rfl, rfl, rfl, rfl⟩
    · rw [uly_o hf] at e
      have := h.2 g p' x' y' t' hg e
      unfold upR
      rw [if_neg (by omega), if_neg (by omega), if_neg (by omega), if_neg (by omega), if_neg (by omega), if_neg (by omega), if_neg (by omega), if_neg (by omega), if_neg (by omega), if_neg (by omega), if_neg (by omega), if_neg (by omega), if_neg (by omega), if_neg (by omega), if_neg (by omega), if_neg (by omega)]
      exact this
theorem upR_32 {w : Nat → Int32} {f : Nat} {a b c d : Int32} (hf : f < 8) : upR w f a b c d 32 = w 32 := by
  unfold upR
  rw [if_neg (by omega), if_neg (by omega), if_neg (by omega), if_neg (by omega)]
theorem upC_no {w : Nat → Int32} {lay : gLay} {f : Nat} (h : lyC w lay) : lyC (fun k => if k = f then -9 else w k) (uly lay f none) := by
  refine ⟨fun g hg e => ?_, fun g p x y t hg e => ?_⟩
  · show (if g = f then (-9 : Int32) else w g) = -9
    by_cases hf : g = f
    · rw [if_pos hf]
    · rw [uly_o hf] at e; rw [if_neg hf]; exact h.1 g hg e
  · show (if g = f then (-9 : Int32) else w g) = _
    by_cases hf : g = f
    · subst hf; rw [uly_s] at e; cases e
    · rw [uly_o hf] at e; rw [if_neg hf]; exact h.2 g p x y t hg e
theorem upC_sp {w : Nat → Int32} {lay : gLay} {f : Nat} (v : Option (Nat × Nat × Nat × Nat)) (h : lyC w lay) : lyC (fun k => if k = f then spC v else w k) (uly lay f v) := by
  cases v with
  | none => exact upC_no h
  | some q =>
    refine ⟨fun g hg e => ?_, fun g p x y t hg e => ?_⟩
    · show (if g = f then spC (some q) else w g) = -9
      by_cases hf : g = f
      · subst hf; rw [uly_s] at e; cases e
      · rw [uly_o hf] at e; rw [if_neg hf]; exact h.1 g hg e
    · show (if g = f then spC (some q) else w g) = _
      by_cases hf : g = f
      · subst hf; rw [uly_s] at e; cases e; rw [if_pos rfl]; rfl
      · rw [uly_o hf] at e; rw [if_neg hf]; exact h.2 g p x y t hg e

set_option maxRecDepth 100000 in
theorem c_X11_lifts {E : xE} {M : xMem} {f : Nat} (hf : f < 8) (hM : xNT ≤ xN M) (hW : xWire M.2.1) : Cf E mX11_lifts [.ref 74, .int (nI f)] M none (wF M 83 (upR (M.1 83) f (-1) 0 0 0)) := by
  refine Ct.of (lo := [some (.ref 74), some (.int (nI f))]) pln_X11 (Nat.le_of_ble_eq_true rfl) rfl (Nat.le_refl _) ?_
  refine px_aload_n dX11_lifts_0 rfl rfl ?_
  refine px_getR dX11_lifts_1 fX11_35 (xol rfl) hM rfl (wr_11_23 hW (xol rfl)) (Nat.succ_pos _) ?_
  refine px_iconst dX11_lifts_4 ic_4 ?_
  refine px_iload_n dX11_lifts_5 rfl rfl ?_
  refine px_imul dX11_lifts_6 ?_
  refine px_iconst dX11_lifts_7 ic_0 ?_
  refine px_iadd dX11_lifts_8 ?_
  refine px_top (ixA 4 f 0) ?_
  refine px_iconst dX11_lifts_9 ic_m1 ?_
  refine px_iast dX11_lifts_10 (xal (n := 33) rfl) hM (vp_in_nI (by omega) (by decide)) ?_
  refine px_aload_n dX11_lifts_11 rfl rfl ?_
  refine px_getR dX11_lifts_12 fX11_35 (xol rfl) hM rfl (wr_11_23 hW (xol rfl)) (Nat.succ_pos _) ?_
  refine px_iconst dX11_lifts_15 ic_4 ?_
  refine px_iload_n dX11_lifts_16 rfl rfl ?_
  refine px_imul dX11_lifts_17 ?_
  refine px_iconst dX11_lifts_18 ic_1 ?_
  refine px_iadd dX11_lifts_19 ?_
  refine px_top (ixA 4 f 1) ?_
  refine px_iconst dX11_lifts_20 ic_0 ?_
  refine px_iast dX11_lifts_21 (xal (n := 33) rfl) hM (vp_in_nI (by omega) (by decide)) ?_
  refine px_aload_n dX11_lifts_22 rfl rfl ?_
  refine px_getR dX11_lifts_23 fX11_35 (xol rfl) hM rfl (wr_11_23 hW (xol rfl)) (Nat.succ_pos _) ?_
  refine px_iconst dX11_lifts_26 ic_4 ?_
  refine px_iload_n dX11_lifts_27 rfl rfl ?_
  refine px_imul dX11_lifts_28 ?_
  refine px_iconst dX11_lifts_29 ic_2 ?_
  refine px_iadd dX11_lifts_30 ?_
  refine px_top (ixA 4 f 2) ?_
  refine px_iconst dX11_lifts_31 ic_0 ?_
  refine px_iast dX11_lifts_32 (xal (n := 33) rfl) hM (vp_in_nI (by omega) (by decide)) ?_
  refine px_aload_n dX11_lifts_33 rfl rfl ?_
  refine px_getR dX11_lifts_34 fX11_35 (xol rfl) hM rfl (wr_11_23 hW (xol rfl)) (Nat.succ_pos _) ?_
  refine px_iconst dX11_lifts_37 ic_4 ?_
  refine px_iload_n dX11_lifts_38 rfl rfl ?_
  refine px_imul dX11_lifts_39 ?_
  refine px_iconst dX11_lifts_40 ic_3 ?_
  refine px_iadd dX11_lifts_41 ?_
  refine px_top (ixA 4 f 3) ?_
  refine px_iconst dX11_lifts_42 ic_0 ?_
  refine px_iast dX11_lifts_43 (xal (n := 33) rfl) hM (vp_in_nI (by omega) (by decide)) ?_
  exact px_ret dX11_lifts_44 rfl ⟨rfl, by rw [nI_clamp (by omega), nI_clamp (by omega), nI_clamp (by omega), nI_clamp (by omega)]; exact upR_s _ _ _ _ _ _⟩ (rfl)

set_option maxRecDepth 100000 in
theorem c_X11_sets {E : xE} {M : xMem} {f k : Nat} {pg vx vy vt : Int32} (hf : f < 8) (hk : k < 4096) (e32 : M.1 74 32 = nI k) (e33 : M.1 74 33 = vt) (ex : M.1 86 k = vx) (ey : M.1 87 k = vy) (hM : xNT ≤ xN M) (hW : xWire M.2.1) : Cf E mX11_sets [.ref 74, .int (nI f), .int pg] M none (wF M 83 (upR (M.1 83) f pg vx vy vt)) := by
  refine Ct.of (lo := [some (.ref 74), some (.int (nI f)), some (.int pg)]) pln_X11 (Nat.le_of_ble_eq_true rfl) rfl (Nat.le_refl _) ?_
  have hnk : (nI k).toNatClampNeg = k := nI_clamp (by omega)
  refine px_aload_n dX11_sets_0 rfl rfl ?_
  refine px_getR dX11_sets_1 fX11_35 (xol rfl) hM rfl (wr_11_23 hW (xol rfl)) (Nat.succ_pos _) ?_
  refine px_iconst dX11_sets_4 ic_4 ?_
  refine px_iload_n dX11_sets_5 rfl rfl ?_
  refine px_imul dX11_sets_6 ?_
  refine px_iconst dX11_sets_7 ic_0 ?_
  refine px_iadd dX11_sets_8 ?_
  refine px_top (ixA 4 f 0) ?_
  refine px_iload_n dX11_sets_9 rfl rfl ?_
  refine px_iast dX11_sets_10 (xal (n := 33) rfl) hM (vp_in_nI (by omega) (by decide)) ?_
  refine px_aload_n dX11_sets_11 rfl rfl ?_
  refine px_getR dX11_sets_12 fX11_35 (xol rfl) hM rfl (wr_11_23 hW (xol rfl)) (Nat.succ_pos _) ?_
  refine px_iconst dX11_sets_15 ic_4 ?_
  refine px_iload_n dX11_sets_16 rfl rfl ?_
  refine px_imul dX11_sets_17 ?_
  refine px_iconst dX11_sets_18 ic_1 ?_
  refine px_iadd dX11_sets_19 ?_
  refine px_top (ixA 4 f 1) ?_
  refine px_aload_n dX11_sets_20 rfl rfl ?_
  refine px_getR dX11_sets_21 fX11_44 (xol rfl) hM rfl (wr_11_28 hW (xol rfl)) (Nat.succ_pos _) ?_
  refine px_aload_n dX11_sets_24 rfl rfl ?_
  refine px_getI dX11_sets_25 fX11_248 (xol rfl) hM rfl ?_
  refine px_top (y := nI k) e32 ?_
  refine px_iald dX11_sets_28 (xal (n := 4096) rfl) hM (vp_in_nI (by omega) (by decide)) ?_
  refine px_top (y := vx) (by rw [hnk]; exact ex) ?_
  refine px_iast dX11_sets_29 (xal (n := 33) rfl) hM (vp_in_nI (by omega) (by decide)) ?_
  refine px_aload_n dX11_sets_30 rfl rfl ?_
  refine px_getR dX11_sets_31 fX11_35 (xol rfl) hM rfl (wr_11_23 hW (xol rfl)) (Nat.succ_pos _) ?_
  refine px_iconst dX11_sets_34 ic_4 ?_
  refine px_iload_n dX11_sets_35 rfl rfl ?_
  refine px_imul dX11_sets_36 ?_
  refine px_iconst dX11_sets_37 ic_2 ?_
  refine px_iadd dX11_sets_38 ?_
  refine px_top (ixA 4 f 2) ?_
  refine px_aload_n dX11_sets_39 rfl rfl ?_
  refine px_getR dX11_sets_40 fX11_47 (xol rfl) hM rfl (wr_11_29 hW (xol rfl)) (Nat.succ_pos _) ?_
  refine px_aload_n dX11_sets_43 rfl rfl ?_
  refine px_getI dX11_sets_44 fX11_248 (xol rfl) hM rfl ?_
  refine px_top (y := nI k) e32 ?_
  refine px_iald dX11_sets_47 (xal (n := 4096) rfl) hM (vp_in_nI (by omega) (by decide)) ?_
  refine px_top (y := vy) (by rw [hnk]; exact ey) ?_
  refine px_iast dX11_sets_48 (xal (n := 33) rfl) hM (vp_in_nI (by omega) (by decide)) ?_
  refine px_aload_n dX11_sets_49 rfl rfl ?_
  refine px_getR dX11_sets_50 fX11_35 (xol rfl) hM rfl (wr_11_23 hW (xol rfl)) (Nat.succ_pos _) ?_
  refine px_iconst dX11_sets_53 ic_4 ?_
  refine px_iload_n dX11_sets_54 rfl rfl ?_
  refine px_imul dX11_sets_55 ?_
  refine px_iconst dX11_sets_56 ic_3 ?_
  refine px_iadd dX11_sets_57 ?_
  refine px_top (ixA 4 f 3) ?_
  refine px_aload_n dX11_sets_58 rfl rfl ?_
  refine px_getI dX11_sets_59 fX11_267 (xol rfl) hM rfl ?_
  refine px_top (y := vt) e33 ?_
  refine px_iast dX11_sets_62 (xal (n := 33) rfl) hM (vp_in_nI (by omega) (by decide)) ?_
  exact px_ret dX11_sets_63 rfl ⟨rfl, by rw [nI_clamp (by omega), nI_clamp (by omega), nI_clamp (by omega), nI_clamp (by omega)]; exact upR_s _ _ _ _ _ _⟩ (rfl)
