/-! ===== layouts: pages, frames set, frames turned, all lifted; of both ===== -/
def lyB (lay : gLay) : Prop := ∀ f p x y t, lay f = some (p, x, y, t) → f < 8 ∧ p < 8 ∧ x < 16 ∧ y < 16 ∧ t < 2
theorem lyOK.b {n W H : Nat} {A D : Nat → Nat} {lay : gLay} (h : lyOK n W H A D lay) (h8 : n ≤ 8) (hW : W ≤ 16) (hH : H ≤ 16) (hA : ∀ f, f < n → 1 ≤ A f ∧ 1 ≤ D f) : lyB lay := by
  intro f p x y t e
  have h1 := h.2.1 f p x y t e
  have hf : f < n := by
    apply Classical.byContradiction
    intro z
    rw [h.1 f (by omega)] at e
    cases e
  have h2 := hA f hf
  have h3 : 1 ≤ gNX A D f t ∧ 1 ≤ gNY A D f t := by unfold gNX gNY; split <;> omega
  exact ⟨by omega, h1.1, by omega, by omega, h1.2.1⟩
theorem shC.b {M : xMem} {s n W H : Nat} {A D : Nat → Nat} {lay : gLay} (hs : shC M s n W H A D) (h : lyOK n W H A D lay) : lyB lay :=
  h.b hs.2.2.2.1 hs.2.2.2.2.1 hs.2.2.2.2.2.1 (fun f hf => ⟨(hs.2.2.2.2.2.2 f hf).2.2.1, (hs.2.2.2.2.2.2 f hf).2.2.2.2.1⟩)
theorem shM.b {M : xMem} {n W H : Nat} {A D : Nat → Nat} {lay : gLay} (hs : shM M n W H A D) (h : lyOK n W H A D lay) : lyB lay :=
  h.b hs.2.2.2.1 hs.2.2.2.2.1 hs.2.2.2.2.2.1 (fun f hf => ⟨(hs.2.2.2.2.2.2 f hf).2.2.1, (hs.2.2.2.2.2.2 f hf).2.2.2.2.1⟩)
theorem lyC_s {w : Nat → Int32} {lay : gLay} (h : lyC w lay) (hb : lyB lay) {f p x y t : Nat} (e : lay f = some (p, x, y, t)) : ¬ w f = -9 ∧ sPg (w f) = nI p ∧ sX (w f) = nI x ∧ sY (w f) = nI y ∧ sT (w f) = nI t := by
  obtain ⟨b1, b2, b3, b4, b5⟩ := hb f p x y t e
  rw [h.2 f p x y t b1 e]
  exact ⟨nI_ne9 (by omega), sp_dec (by omega) b3 b4 b5⟩
theorem lyC_set {w : Nat → Int32} {lay : gLay} (h : lyC w lay) {f : Nat} (hf : f < 8) (e : ¬ w f = -9) : ∃ p x y t, lay f = some (p, x, y, t) := by
  cases hc : lay f with
  | none => exact absurd (h.1 f hf hc) e
  | some q => exact ⟨q.1, q.2.1, q.2.2.1, q.2.2.2, rfl⟩
theorem lyC_un {w : Nat → Int32} {lay : gLay} (h : lyC w lay) (hb : lyB lay) {f : Nat} (e : w f = -9) : lay f = none := by
  cases hc : lay f with
  | none => rfl
  | some q => exact absurd e (lyC_s h hb (p := q.1) (x := q.2.1) (y := q.2.2.1) (t := q.2.2.2) hc).1
def pgL (lay : gLay) : Nat → Nat
  | 0 => 0
  | f + 1 => match lay f with
    | none => pgL lay f
    | some q => if pgL lay f < q.1 + 1 then q.1 + 1 else pgL lay f
def stL (lay : gLay) : Nat → Nat
  | 0 => 0
  | f + 1 => match lay f with
    | none => stL lay f
    | some _ => stL lay f + 1
def tuL (lay : gLay) : Nat → Nat
  | 0 => 0
  | f + 1 => match lay f with
    | none => tuL lay f
    | some q => tuL lay f + q.2.2.2
theorem pgL_n {lay : gLay} {f : Nat} (h : lay f = none) : pgL lay (f + 1) = pgL lay f := by rw [pgL, h]
theorem pgL_s {lay : gLay} {f p x y t : Nat} (h : lay f = some (p, x, y, t)) : pgL lay (f + 1) = if pgL lay f < p + 1 then p + 1 else pgL lay f := by rw [pgL, h]
theorem stL_n {lay : gLay} {f : Nat} (h : lay f = none) : stL lay (f + 1) = stL lay f := by rw [stL, h]
theorem stL_s {lay : gLay} {f p x y t : Nat} (h : lay f = some (p, x, y, t)) : stL lay (f + 1) = stL lay f + 1 := by rw [stL, h]
theorem tuL_n {lay : gLay} {f : Nat} (h : lay f = none) : tuL lay (f + 1) = tuL lay f := by rw [tuL, h]
theorem tuL_s {lay : gLay} {f p x y t : Nat} (h : lay f = some (p, x, y, t)) : tuL lay (f + 1) = tuL lay f + t := by rw [tuL, h]
theorem pgL_le {lay : gLay} (hb : lyB lay) : ∀ f, pgL lay f ≤ 8
  | 0 => Nat.zero_le _
  | f + 1 => by
    have h := pgL_le hb f
    cases hc : lay f with
    | none => rw [pgL_n hc]; exact h
    | some q =>
      have := hb f q.1 q.2.1 q.2.2.1 q.2.2.2 hc
      rw [pgL_s (p := q.1) (x := q.2.1) (y := q.2.2.1) (t := q.2.2.2) hc]
      split <;> omega
theorem stL_le (lay : gLay) : ∀ f, stL lay f ≤ f
  | 0 => Nat.zero_le _
  | f + 1 => by
    have h := stL_le lay f
    cases hc : lay f with
    | none => rw [stL_n hc]; omega
    | some q => rw [stL_s (p := q.1) (x := q.2.1) (y := q.2.2.1) (t := q.2.2.2) hc]; omega
theorem tuL_le {lay : gLay} (hb : lyB lay) : ∀ f, tuL lay f ≤ f
  | 0 => Nat.zero_le _
  | f + 1 => by
    have h := tuL_le hb f
    cases hc : lay f with
    | none => rw [tuL_n hc]; omega
    | some q =>
      have := hb f q.1 q.2.1 q.2.2.1 q.2.2.2 hc
      rw [tuL_s (p := q.1) (x := q.2.1) (y := q.2.2.1) (t := q.2.2.2) hc]; omega
theorem L_more {lay : gLay} {n : Nat} (h : ∀ f, n ≤ f → lay f = none) : ∀ k, n ≤ k → pgL lay k = pgL lay n ∧ stL lay k = stL lay n ∧ tuL lay k = tuL lay n := by
  intro k hk
  induction k with
  | zero => rw [show n = 0 by omega]; exact ⟨rfl, rfl, rfl⟩
  | succ k ih =>
    by_cases e : n = k + 1
    · rw [e]; exact ⟨rfl, rfl, rfl⟩
    · have := ih (by omega)
      rw [pgL_n (h k (by omega)), stL_n (h k (by omega)), tuL_n (h k (by omega))]
      exact this
theorem pgL_lt {lay : gLay} {f p x y t : Nat} (h : lay f = some (p, x, y, t)) : ∀ n, f < n → p < pgL lay n := by
  intro n hn
  induction n with
  | zero => omega
  | succ n ih =>
    by_cases e : f = n
    · subst e; rw [pgL_s h]; split <;> omega
    · have := ih (by omega)
      cases hc : lay n with
      | none => rw [pgL_n hc]; exact this
      | some q => rw [pgL_s (p := q.1) (x := q.2.1) (y := q.2.2.1) (t := q.2.2.2) hc]; split <;> omega
/-- of the reference's row -/
theorem pgF_L {w : Nat → Int32} {lay : gLay} (h : lyM w lay) (hb : lyB lay) : ∀ i, i ≤ 8 → pgF w i = nI (pgL lay i)
  | 0, _ => rfl
  | i + 1, hi => by
    have ih := pgF_L h hb i (by omega)
    have hl := pgL_le hb i
    rw [pgF, ih]
    cases hc : lay i with
    | none =>
      rw [(h.1 i (by omega) hc).1, pgL_n hc]
      by_cases z : (-1 : Int32) < nI (pgL lay i)
      · rw [if_pos z]
      · exfalso
        apply z
        rw [Int32.lt_iff_toInt_lt, nI_toInt (by omega)]
        have : ((-1 : Int32)).toInt = -1 := by decide
        omega
    | some q =>
      have hp := hb i q.1 q.2.1 q.2.2.1 q.2.2.2 hc
      rw [(h.2 i q.1 q.2.1 q.2.2.1 q.2.2.2 (by omega) hc).1, pgL_s (p := q.1) (x := q.2.1) (y := q.2.2.1) (t := q.2.2.2) hc]
      by_cases z : nI q.1 < nI (pgL lay i)
      · rw [if_pos z]; rw [nI_ltI (by omega) (by omega)] at z; rw [if_neg (by omega)]
      · rw [if_neg z]; rw [nI_ltI (by omega) (by omega)] at z; rw [if_pos (by omega), nI_1]
theorem mn_set {w : Nat → Int32} {lay : gLay} (h : lyM w lay) (hb : lyB lay) {f : Nat} (hf : f < 8) : (0 ≤ w (4 * f + 0) ↔ ¬ lay f = none) := by
  cases hc : lay f with
  | none => rw [Nat.add_zero, (h.1 f hf hc).1]; exact ⟨fun z => absurd z (by decide), fun z => absurd rfl z⟩
  | some q =>
    have hp := hb f q.1 q.2.1 q.2.2.1 q.2.2.2 hc
    rw [Nat.add_zero, (h.2 f q.1 q.2.1 q.2.2.1 q.2.2.2 hf hc).1]
    refine ⟨fun _ z => (by cases z), fun _ => ?_⟩
    rw [Int32.le_iff_toInt_le, nI_toInt (by omega)]
    have : ((0 : Int32)).toInt = 0 := by decide
    omega
theorem lay_some {lay : gLay} {f : Nat} (h : ¬ lay f = none) : ∃ p x y t, lay f = some (p, x, y, t) := by
  cases hc : lay f with
  | none => exact absurd hc h
  | some q => exact ⟨q.1, q.2.1, q.2.2.1, q.2.2.2, rfl⟩

theorem tu_1 {t : Nat} (h : t < 2) (e : nI t = 1) : t = 1 := by
  rcases (show t = 0 ∨ t = 1 by omega) with rfl | rfl
  · exact absurd e (by decide)
  · rfl
theorem tu_0 {t : Nat} (h : t < 2) (e : nI t = 0) : t = 0 := by
  rcases (show t = 0 ∨ t = 1 by omega) with rfl | rfl
  · rfl
  · exact absurd e (by decide)

theorem i_maxN {a b : Nat} (ha : a < 2 ^ 31) (hb : b < 2 ^ 31) : (if nI a < nI b then nI b else nI a) = nI (if a < b then b else a) := by
  by_cases h : a < b
  · rw [if_pos ((nI_ltI ha hb).mpr h), if_pos h]
  · rw [if_neg (fun z => h ((nI_ltI ha hb).mp z)), if_neg h]
theorem i_minN {a b : Nat} (ha : a < 2 ^ 31) (hb : b < 2 ^ 31) : (if nI b < nI a then nI b else nI a) = nI (if b < a then b else a) := by
  by_cases h : b < a
  · rw [if_pos ((nI_ltI hb ha).mpr h), if_pos h]
  · rw [if_neg (fun z => h ((nI_ltI hb ha).mp z)), if_neg h]

set_option maxRecDepth 100000 in
theorem l_X1_pages {E : xE} {M : xMem} {la : Nat} {lay : gLay} (hM : xNT ≤ xN M) (hW : xWire M.2.1) (hla : xob la 1) (hl : lyC (M.1 (la + 1)) lay) (hb : lyB lay) : PR E mX1_pages (xN M) 4 [some (.ref la), some (.int (nI (pgL lay 0))), some (.int (nI 0))] [] (M) (fun r m => r = some (.int (nI (pgL lay 8))) ∧ m = M) := by
  refine px_for (P := fun i => PR E mX1_pages (xN M) 4 [some (.ref la), some (.int (nI (pgL lay i))), some (.int (nI i))] [] (M) (fun r m => r = some (.int (nI (pgL lay 8))) ∧ m = M)) (8) (fun i hi nx => ?_) (0) (by omega)
  refine px_iload_n dX1_pages_4 rfl rfl ?_
  refine px_bipush dX1_pages_5 bp_8 ?_
  refine px_icmp_ge 36 dX1_pages_7 rfl (fun h7 => ?_) (fun h7 => ?_)
  · have hi2 : i = 8 := by rw [show (8 : Int32) = nI 8 from rfl, nI_leI (by omega) (by omega)] at h7; omega
    refine px_iload_n dX1_pages_36 rfl rfl ?_
    exact px_iret dX1_pages_37 rfl ⟨by rw [hi2], rfl⟩ (rfl)
  · have hlt : i < 8 := by rw [show (8 : Int32) = nI 8 from rfl, nI_leI (by omega) (by omega)] at h7; omega
    have hfi : vp_in (nI i) 8 := vp_in_nI (by omega) (by decide)
    have hnf : (nI i).toNatClampNeg = i := nI_clamp (by omega)
    refine px_aload_n dX1_pages_10 rfl rfl ?_
    refine px_iload_n dX1_pages_11 rfl rfl ?_
    refine px_fV1i dX1_pages_12 kX1_pages_33 hla hM (Nat.le_of_ble_eq_true rfl) (c_X1_isSet hla hM hW hfi) ?_
    refine px_zif_eq 30 dX1_pages_15 rfl (fun h15 => ?_) (fun h15 => ?_)
    · refine px_inc_2 dX1_pages_30 rfl ic_1 ?_
      refine px_goto 4 dX1_pages_33 rfl ?_
      first
        | (have hc := lyC_un hl hb (by rw [hnf] at h15; exact Classical.not_not.mp h15); exact px_eq (by rw [nI_1, pgL_n hc]) rfl (nx hlt))
        | (have hle := pgL_le hb i; refine px_eq ?_ rfl (nx hlt); rw [nI_1, nI_1, pgL_s hc, i_maxN (by omega) (by omega)])
    · rw [hnf] at h15
      obtain ⟨p, x, y, t, hc⟩ := lyC_set hl hlt h15
      have hs := lyC_s hl hb hc
      have hbb := hb _ _ _ _ _ hc
      refine px_iload_n dX1_pages_18 rfl rfl ?_
      refine px_aload_n dX1_pages_19 rfl rfl ?_
      refine px_iload_n dX1_pages_20 rfl rfl ?_
      refine px_fV1i dX1_pages_21 kX1_pages_19 hla hM (Nat.le_of_ble_eq_true rfl) (c_X1_pageOf hla hM hW hfi) ?_
      refine px_top (y := nI p) (by rw [hnf]; exact hs.2.1) ?_
      refine px_iconst dX1_pages_24 ic_1 ?_
      refine px_iadd dX1_pages_25 ?_
      refine px_max dX1_pages_26 kX1_pages_36 (Nat.le_of_ble_eq_true rfl) ?_
      refine px_si_1 dX1_pages_29 rfl ?_
      refine px_inc_2 dX1_pages_30 rfl ic_1 ?_
      refine px_goto 4 dX1_pages_33 rfl ?_
      first
        | (have hc := lyC_un hl hb (by rw [hnf] at h15; exact Classical.not_not.mp h15); exact px_eq (by rw [nI_1, pgL_n hc]) rfl (nx hlt))
        | (have hle := pgL_le hb i; refine px_eq ?_ rfl (nx hlt); rw [nI_1, nI_1, pgL_s hc, i_maxN (by omega) (by omega)])

set_option maxRecDepth 100000 in
theorem l_X1_framesSet {E : xE} {M : xMem} {la : Nat} {lay : gLay} (hM : xNT ≤ xN M) (hW : xWire M.2.1) (hla : xob la 1) (hl : lyC (M.1 (la + 1)) lay) (hb : lyB lay) : PR E mX1_framesSet (xN M) 4 [some (.ref la), some (.int (nI (stL lay 0))), some (.int (nI 0))] [] (M) (fun r m => r = some (.int (nI (stL lay 8))) ∧ m = M) := by
  refine px_for (P := fun i => PR E mX1_framesSet (xN M) 4 [some (.ref la), some (.int (nI (stL lay i))), some (.int (nI i))] [] (M) (fun r m => r = some (.int (nI (stL lay 8))) ∧ m = M)) (8) (fun i hi nx => ?_) (0) (by omega)
  refine px_iload_n dX1_framesSet_4 rfl rfl ?_
  refine px_bipush dX1_framesSet_5 bp_8 ?_
  refine px_icmp_ge 27 dX1_framesSet_7 rfl (fun h7 => ?_) (fun h7 => ?_)
  · have hi2 : i = 8 := by rw [show (8 : Int32) = nI 8 from rfl, nI_leI (by omega) (by omega)] at h7; omega
    refine px_iload_n dX1_framesSet_27 rfl rfl ?_
    exact px_iret dX1_framesSet_28 rfl ⟨by rw [hi2], rfl⟩ (rfl)
  · have hlt : i < 8 := by rw [show (8 : Int32) = nI 8 from rfl, nI_leI (by omega) (by omega)] at h7; omega
    have hfi : vp_in (nI i) 8 := vp_in_nI (by omega) (by decide)
    have hnf : (nI i).toNatClampNeg = i := nI_clamp (by omega)
    refine px_aload_n dX1_framesSet_10 rfl rfl ?_
    refine px_iload_n dX1_framesSet_11 rfl rfl ?_
    refine px_fV1i dX1_framesSet_12 kX1_framesSet_33 hla hM (Nat.le_of_ble_eq_true rfl) (c_X1_isSet hla hM hW hfi) ?_
    refine px_zif_eq 21 dX1_framesSet_15 rfl (fun h15 => ?_) (fun h15 => ?_)
    · refine px_inc_2 dX1_framesSet_21 rfl ic_1 ?_
      refine px_goto 4 dX1_framesSet_24 rfl ?_
      first
        | (have hc := lyC_un hl hb (by rw [hnf] at h15; exact Classical.not_not.mp h15); exact px_eq (by rw [nI_1, stL_n hc]) rfl (nx hlt))
        | exact px_eq (by rw [nI_1, nI_1, stL_s hc]) rfl (nx hlt)
    · rw [hnf] at h15
      obtain ⟨p, x, y, t, hc⟩ := lyC_set hl hlt h15
      have hs := lyC_s hl hb hc
      have hbb := hb _ _ _ _ _ hc
      refine px_inc_1 dX1_framesSet_18 rfl ic_1 ?_
      refine px_inc_2 dX1_framesSet_21 rfl ic_1 ?_
      refine px_goto 4 dX1_framesSet_24 rfl ?_
      first
        | (have hc := lyC_un hl hb (by rw [hnf] at h15; exact Classical.not_not.mp h15); exact px_eq (by rw [nI_1, stL_n hc]) rfl (nx hlt))
        | exact px_eq (by rw [nI_1, nI_1, stL_s hc]) rfl (nx hlt)

set_option maxRecDepth 100000 in
theorem l_X1_framesTurned {E : xE} {M : xMem} {la : Nat} {lay : gLay} (hM : xNT ≤ xN M) (hW : xWire M.2.1) (hla : xob la 1) (hl : lyC (M.1 (la + 1)) lay) (hb : lyB lay) : PR E mX1_framesTurned (xN M) 4 [some (.ref la), some (.int (nI (tuL lay 0))), some (.int (nI 0))] [] (M) (fun r m => r = some (.int (nI (tuL lay 8))) ∧ m = M) := by
  refine px_for (P := fun i => PR E mX1_framesTurned (xN M) 4 [some (.ref la), some (.int (nI (tuL lay i))), some (.int (nI i))] [] (M) (fun r m => r = some (.int (nI (tuL lay 8))) ∧ m = M)) (8) (fun i hi nx => ?_) (0) (by omega)
  refine px_iload_n dX1_framesTurned_4 rfl rfl ?_
  refine px_bipush dX1_framesTurned_5 bp_8 ?_
  refine px_icmp_ge 35 dX1_framesTurned_7 rfl (fun h7 => ?_) (fun h7 => ?_)
  · have hi2 : i = 8 := by rw [show (8 : Int32) = nI 8 from rfl, nI_leI (by omega) (by omega)] at h7; omega
    refine px_iload_n dX1_framesTurned_35 rfl rfl ?_
    exact px_iret dX1_framesTurned_36 rfl ⟨by rw [hi2], rfl⟩ (rfl)
  · have hlt : i < 8 := by rw [show (8 : Int32) = nI 8 from rfl, nI_leI (by omega) (by omega)] at h7; omega
    have hfi : vp_in (nI i) 8 := vp_in_nI (by omega) (by decide)
    have hnf : (nI i).toNatClampNeg = i := nI_clamp (by omega)
    refine px_aload_n dX1_framesTurned_10 rfl rfl ?_
    refine px_iload_n dX1_framesTurned_11 rfl rfl ?_
    refine px_fV1i dX1_framesTurned_12 kX1_framesTurned_33 hla hM (Nat.le_of_ble_eq_true rfl) (c_X1_isSet hla hM hW hfi) ?_
    refine px_zif_eq 29 dX1_framesTurned_15 rfl (fun h15 => ?_) (fun h15 => ?_)
    · refine px_inc_2 dX1_framesTurned_29 rfl ic_1 ?_
      refine px_goto 4 dX1_framesTurned_32 rfl ?_
      first
        | (have hc := lyC_un hl hb (by rw [hnf] at h15; exact Classical.not_not.mp h15); exact px_eq (by rw [nI_1, tuL_n hc]) rfl (nx hlt))
        | (have ht : t = 1 := tu_1 hbb.2.2.2.2 (by have h9 := hs.2.2.2.2; rw [hnf] at h23; rw [← h9]; exact zb_t h23); subst ht; exact px_eq (by rw [nI_1, nI_1, tuL_s hc]) rfl (nx hlt))
        | (have ht : t = 0 := tu_0 hbb.2.2.2.2 (by have h9 := hs.2.2.2.2; rw [hnf] at h23; rw [← h9]; exact zb_f h23); subst ht; exact px_eq (by rw [nI_1, tuL_s hc]; rfl) rfl (nx hlt))
    · rw [hnf] at h15
      obtain ⟨p, x, y, t, hc⟩ := lyC_set hl hlt h15
      have hs := lyC_s hl hb hc
      have hbb := hb _ _ _ _ _ hc
      refine px_aload_n dX1_framesTurned_18 rfl rfl ?_
      refine px_iload_n dX1_framesTurned_19 rfl rfl ?_
      refine px_fV1i dX1_framesTurned_20 kX1_framesTurned_29 hla hM (Nat.le_of_ble_eq_true rfl) (c_X1_isTurned hla hM hW hfi) ?_
      refine px_zif_eq 29 dX1_framesTurned_23 rfl (fun h23 => ?_) (fun h23 => ?_)
      · refine px_inc_2 dX1_framesTurned_29 rfl ic_1 ?_
        refine px_goto 4 dX1_framesTurned_32 rfl ?_
        first
          | (have hc := lyC_un hl hb (by rw [hnf] at h15; exact Classical.not_not.mp h15); exact px_eq (by rw [nI_1, tuL_n hc]) rfl (nx hlt))
          | (have ht : t = 1 := tu_1 hbb.2.2.2.2 (by have h9 := hs.2.2.2.2; rw [hnf] at h23; rw [← h9]; exact zb_t h23); subst ht; exact px_eq (by rw [nI_1, nI_1, tuL_s hc]) rfl (nx hlt))
          | (have ht : t = 0 := tu_0 hbb.2.2.2.2 (by have h9 := hs.2.2.2.2; rw [hnf] at h23; rw [← h9]; exact zb_f h23); subst ht; exact px_eq (by rw [nI_1, tuL_s hc]; rfl) rfl (nx hlt))
      · refine px_inc_1 dX1_framesTurned_26 rfl ic_1 ?_
        refine px_inc_2 dX1_framesTurned_29 rfl ic_1 ?_
        refine px_goto 4 dX1_framesTurned_32 rfl ?_
        first
          | (have hc := lyC_un hl hb (by rw [hnf] at h15; exact Classical.not_not.mp h15); exact px_eq (by rw [nI_1, tuL_n hc]) rfl (nx hlt))
          | (have ht : t = 1 := tu_1 hbb.2.2.2.2 (by have h9 := hs.2.2.2.2; rw [hnf] at h23; rw [← h9]; exact zb_t h23); subst ht; exact px_eq (by rw [nI_1, nI_1, tuL_s hc]) rfl (nx hlt))
          | (have ht : t = 0 := tu_0 hbb.2.2.2.2 (by have h9 := hs.2.2.2.2; rw [hnf] at h23; rw [← h9]; exact zb_f h23); subst ht; exact px_eq (by rw [nI_1, tuL_s hc]; rfl) rfl (nx hlt))

set_option maxRecDepth 100000 in
theorem c_X1_pages {E : xE} {M : xMem} {la : Nat} {lay : gLay} (hM : xNT ≤ xN M) (hW : xWire M.2.1) (hla : xob la 1) (hl : lyC (M.1 (la + 1)) lay) (hb : lyB lay) : Cf E mX1_pages [.ref la] M (some (.int (nI (pgL lay 8)))) M := by
  refine Ct.of (lo := [some (.ref la), none, none]) pln_X1 (Nat.le_of_ble_eq_true rfl) rfl (Nat.le_refl _) ?_
  refine px_iconst dX1_pages_0 ic_0 ?_
  refine px_si_1 dX1_pages_1 rfl ?_
  refine px_iconst dX1_pages_2 ic_0 ?_
  refine px_si_2 dX1_pages_3 rfl ?_
  exact l_X1_pages hM hW hla hl hb

set_option maxRecDepth 100000 in
theorem c_X1_framesSet {E : xE} {M : xMem} {la : Nat} {lay : gLay} (hM : xNT ≤ xN M) (hW : xWire M.2.1) (hla : xob la 1) (hl : lyC (M.1 (la + 1)) lay) (hb : lyB lay) : Cf E mX1_framesSet [.ref la] M (some (.int (nI (stL lay 8)))) M := by
  refine Ct.of (lo := [some (.ref la), none, none]) pln_X1 (Nat.le_of_ble_eq_true rfl) rfl (Nat.le_refl _) ?_
  refine px_iconst dX1_framesSet_0 ic_0 ?_
  refine px_si_1 dX1_framesSet_1 rfl ?_
  refine px_iconst dX1_framesSet_2 ic_0 ?_
  refine px_si_2 dX1_framesSet_3 rfl ?_
  exact l_X1_framesSet hM hW hla hl hb

set_option maxRecDepth 100000 in
theorem c_X1_framesTurned {E : xE} {M : xMem} {la : Nat} {lay : gLay} (hM : xNT ≤ xN M) (hW : xWire M.2.1) (hla : xob la 1) (hl : lyC (M.1 (la + 1)) lay) (hb : lyB lay) : Cf E mX1_framesTurned [.ref la] M (some (.int (nI (tuL lay 8)))) M := by
  refine Ct.of (lo := [some (.ref la), none, none]) pln_X1 (Nat.le_of_ble_eq_true rfl) rfl (Nat.le_refl _) ?_
  refine px_iconst dX1_framesTurned_0 ic_0 ?_
  refine px_si_1 dX1_framesTurned_1 rfl ?_
  refine px_iconst dX1_framesTurned_2 ic_0 ?_
  refine px_si_2 dX1_framesTurned_3 rfl ?_
  exact l_X1_framesTurned hM hW hla hl hb

set_option maxRecDepth 100000 in
theorem l_X1_liftAll {E : xE} {M : xMem} {la : Nat} (hM : xNT ≤ xN M) (hW : xWire M.2.1) (hla : xob la 1) : PR E mX1_liftAll (xN M) 2 [some (.ref la), some (.int (nI 0))] [] (wF M (la + 1) (fun k => if k < 0 then -9 else M.1 (la + 1) k)) (fun r m => r = none ∧ m = wF M (la + 1) (fun k => if k < 8 then -9 else M.1 (la + 1) k)) := by
  refine px_for (P := fun i => PR E mX1_liftAll (xN M) 2 [some (.ref la), some (.int (nI i))] [] (wF M (la + 1) (fun k => if k < i then -9 else M.1 (la + 1) k)) (fun r m => r = none ∧ m = wF M (la + 1) (fun k => if k < 8 then -9 else M.1 (la + 1) k))) (8) (fun i hi nx => ?_) (0) (by omega)
  refine px_iload_n dX1_liftAll_2 rfl rfl ?_
  refine px_bipush dX1_liftAll_3 bp_8 ?_
  refine px_icmp_ge 22 dX1_liftAll_5 rfl (fun h5 => ?_) (fun h5 => ?_)
  · have hi2 : i = 8 := by rw [show (8 : Int32) = nI 8 from rfl, nI_leI (by omega) (by omega)] at h5; omega
    exact px_ret dX1_liftAll_22 rfl ⟨rfl, by rw [hi2]⟩ (rfl)
  · have hlt : i < 8 := by rw [show (8 : Int32) = nI 8 from rfl, nI_leI (by omega) (by omega)] at h5; omega
    have hfi : vp_in (nI i) 8 := vp_in_nI (by omega) (by decide)
    have hnf : (nI i).toNatClampNeg = i := nI_clamp (by omega)
    refine px_aload_n dX1_liftAll_8 rfl rfl ?_
    refine px_getR dX1_liftAll_9 fX1_9 hla hM rfl (wr_1_0 hW hla) (Nat.succ_pos _) ?_
    refine px_iload_n dX1_liftAll_12 rfl rfl ?_
    refine px_bipush dX1_liftAll_13 bp_m9 ?_
    refine px_iast dX1_liftAll_15 (ar_1 hla) hM hfi ?_
    refine px_inc_1 dX1_liftAll_16 rfl ic_1 ?_
    refine px_goto 2 dX1_liftAll_19 rfl ?_
    exact px_eq (by rw [nI_1]) (by rw [hnf]; exact fil_s _ _ _ _ _) (nx hlt)

set_option maxRecDepth 100000 in
theorem c_X1_liftAll {E : xE} {M : xMem} {la : Nat} (hM : xNT ≤ xN M) (hW : xWire M.2.1) (hla : xob la 1) : Cf E mX1_liftAll [.ref la] M none (wF M (la + 1) (fun k => if k < 8 then -9 else M.1 (la + 1) k)) := by
  refine Ct.of (lo := [some (.ref la), none]) pln_X1 (Nat.le_of_ble_eq_true rfl) rfl (Nat.le_refl _) ?_
  refine px_iconst dX1_liftAll_0 ic_0 ?_
  refine px_si_1 dX1_liftAll_1 rfl ?_
  have k := l_X1_liftAll (E := E) hM hW hla
  have e : (fun k => if k < 0 then (-9 : Int32) else M.1 (la + 1) k) = M.1 (la + 1) := by funext k; rw [if_neg (by omega)]
  rw [e, wF_id] at k
  exact k

set_option maxRecDepth 100000 in
theorem l_X11_setMany {E : xE} {M : xMem} {n : Nat} {lay : gLay} (hM : xNT ≤ xN M) (hW : xWire M.2.1) (h8 : n ≤ 8) (hs : M.1 74 11 = nI n) (hl : lyM (M.1 83) lay) (hb : lyB lay) : PR E mX11_setMany (xN M) 4 [some (.ref 74), some (.int (nI (stL lay 0))), some (.int (nI 0))] [] (M) (fun r m => r = some (.int (nI (stL lay n))) ∧ m = M) := by
  refine px_for (P := fun i => PR E mX11_setMany (xN M) 4 [some (.ref 74), some (.int (nI (stL lay i))), some (.int (nI i))] [] (M) (fun r m => r = some (.int (nI (stL lay n))) ∧ m = M)) (n) (fun i hi nx => ?_) (0) (by omega)
  refine px_iload_n dX11_setMany_4 rfl rfl ?_
  refine px_aload_n dX11_setMany_5 rfl rfl ?_
  refine px_getI dX11_setMany_6 fX11_179 (xol rfl) hM rfl ?_
  refine px_top hs ?_
  refine px_icmp_ge 34 dX11_setMany_9 rfl (fun h9 => ?_) (fun h9 => ?_)
  · have hi2 : i = n := by rw [nI_leI (by omega) (by omega)] at h9; omega
    refine px_iload_n dX11_setMany_34 rfl rfl ?_
    exact px_iret dX11_setMany_35 rfl ⟨by rw [hi2], rfl⟩ (rfl)
  · have hlt : i < n := by rw [nI_leI (by omega) (by omega)] at h9; omega
    refine px_iload_n dX11_setMany_12 rfl rfl ?_
    refine px_aload_n dX11_setMany_13 rfl rfl ?_
    refine px_iload_n dX11_setMany_14 rfl rfl ?_
    refine px_fV1i dX11_setMany_15 kX11_setMany_232 (xol rfl) hM (Nat.le_of_ble_eq_true rfl) (c_X11_isSet (f := i) (by omega) hM hW) ?_
    refine px_zif_eq 25 dX11_setMany_18 rfl (fun h18 => ?_) (fun h18 => ?_)
    · refine px_iconst dX11_setMany_25 ic_0 ?_
      refine px_iadd dX11_setMany_26 ?_
      refine px_si_1 dX11_setMany_27 rfl ?_
      refine px_inc_2 dX11_setMany_28 rfl ic_1 ?_
      refine px_goto 4 dX11_setMany_31 rfl ?_
      first
        | (have hc : lay i = none := Classical.not_not.mp (fun z => h18 ((mn_set hl hb (by omega)).mpr z)); exact px_eq (by rw [nI_1, stL_n hc, Int32.add_zero]) rfl (nx hlt))
        | (obtain ⟨p, x, y, t, hc⟩ := lay_some ((mn_set hl hb (by omega)).mp h18); exact px_eq (by rw [nI_1, nI_1, stL_s hc]) rfl (nx hlt))
    · refine px_iconst dX11_setMany_21 ic_1 ?_
      refine px_goto 26 dX11_setMany_22 rfl ?_
      refine px_iadd dX11_setMany_26 ?_
      refine px_si_1 dX11_setMany_27 rfl ?_
      refine px_inc_2 dX11_setMany_28 rfl ic_1 ?_
      refine px_goto 4 dX11_setMany_31 rfl ?_
      first
        | (have hc : lay i = none := Classical.not_not.mp (fun z => h18 ((mn_set hl hb (by omega)).mpr z)); exact px_eq (by rw [nI_1, stL_n hc, Int32.add_zero]) rfl (nx hlt))
        | (obtain ⟨p, x, y, t, hc⟩ := lay_some ((mn_set hl hb (by omega)).mp h18); exact px_eq (by rw [nI_1, nI_1, stL_s hc]) rfl (nx hlt))

set_option maxRecDepth 100000 in
theorem c_X11_setMany {E : xE} {M : xMem} {n : Nat} {lay : gLay} (hM : xNT ≤ xN M) (hW : xWire M.2.1) (h8 : n ≤ 8) (hs : M.1 74 11 = nI n) (hl : lyM (M.1 83) lay) (hb : lyB lay) : Cf E mX11_setMany [.ref 74] M (some (.int (nI (stL lay n)))) M := by
  refine Ct.of (lo := [some (.ref 74), none, none]) pln_X11 (Nat.le_of_ble_eq_true rfl) rfl (Nat.le_refl _) ?_
  refine px_iconst dX11_setMany_0 ic_0 ?_
  refine px_si_1 dX11_setMany_1 rfl ?_
  refine px_iconst dX11_setMany_2 ic_0 ?_
  refine px_si_2 dX11_setMany_3 rfl ?_
  exact l_X11_setMany hM hW h8 hs hl hb

def lfF (g : Nat → Int32) (i k : Nat) : Int32 := if k < 4 * i then (if k % 4 = 0 then -1 else 0) else g k
theorem lfF_s (M : xMem) (g : Nat → Int32) (i : Nat) : wI (wI (wI (wI (wF M 83 (lfF g i)) 83 (4 * i + 0) (-1)) 83 (4 * i + 1) 0) 83 (4 * i + 2) 0) 83 (4 * i + 3) 0 = wF M 83 (lfF g (i + 1)) := by
  rw [wI_wF, wI_wF, wI_wF, wI_wF]
  congr 1
  funext k
  unfold lfF
  by_cases e3 : k = 4 * i + 3
  · rw [if_pos e3, if_pos (by omega), if_neg (by omega)]
  rw [if_neg e3]
  by_cases e2 : k = 4 * i + 2
  · rw [if_pos e2, if_pos (by omega), if_neg (by omega)]
  rw [if_neg e2]
  by_cases e1 : k = 4 * i + 1
  · rw [if_pos e1, if_pos (by omega), if_neg (by omega)]
  rw [if_neg e1]
  by_cases e0 : k = 4 * i + 0
  · rw [if_pos e0, if_pos (by omega), if_pos (by omega)]
  rw [if_neg e0]
  by_cases e : k < 4 * i
  · rw [if_pos e, if_pos (show k < 4 * (i + 1) by omega)]
  · rw [if_neg e, if_neg (show ¬ k < 4 * (i + 1) by omega)]
theorem lfF_0 (g : Nat → Int32) : lfF g 0 = g := by funext k; unfold lfF; rw [if_neg (by omega)]
theorem lfF_ly (g : Nat → Int32) : lyM (lfF g 8) (fun _ => none) := by
  refine ⟨fun f hf _ => ?_, fun f p x y t _ e => (by cases e)⟩
  unfold lfF
  rw [if_pos (by omega), if_pos (by omega), if_pos (by omega), if_neg (by omega), if_pos (by omega), if_neg (by omega), if_pos (by omega), if_neg (by omega)]
  exact ⟨rfl, rfl, rfl, rfl⟩
theorem lfF_32 (g : Nat → Int32) : lfF g 8 32 = g 32 := by unfold lfF; rw [if_neg (by omega)]
theorem lfC_ly (g : Nat → Int32) : lyC (fun k => if k < 8 then -9 else g k) (fun _ => none) := by
  refine ⟨fun f hf _ => ?_, fun f p x y t _ e => (by cases e)⟩
  show (if f < 8 then (-9 : Int32) else g f) = -9
  rw [if_pos hf]
theorem lyOK_none (n W H : Nat) (A D : Nat → Nat) : lyOK n W H A D (fun _ => none) := ⟨fun _ _ => rfl, fun f p x y t e => (by cases e), fun f g p i j h => by obtain ⟨x, y, t, e, -⟩ := h; cases e⟩

set_option maxRecDepth 100000 in
theorem l_X11_liftsAll {E : xE} {M : xMem} (hM : xNT ≤ xN M) (hW : xWire M.2.1) : PR E mX11_liftsAll (xN M) 2 [some (.ref 74), some (.int (nI 0))] [] (wF M 83 (lfF (M.1 83) 0)) (fun r m => r = none ∧ m = wF M 83 (lfF (M.1 83) 8)) := by
  refine px_for (P := fun i => PR E mX11_liftsAll (xN M) 2 [some (.ref 74), some (.int (nI i))] [] (wF M 83 (lfF (M.1 83) i)) (fun r m => r = none ∧ m = wF M 83 (lfF (M.1 83) 8))) (8) (fun i hi nx => ?_) (0) (by omega)
  refine px_iload_n dX11_liftsAll_2 rfl rfl ?_
  refine px_bipush dX11_liftsAll_3 bp_8 ?_
  refine px_icmp_ge 58 dX11_liftsAll_5 rfl (fun h5 => ?_) (fun h5 => ?_)
  · have hi2 : i = 8 := by rw [show (8 : Int32) = nI 8 from rfl, nI_leI (by omega) (by omega)] at h5; omega
    exact px_ret dX11_liftsAll_58 rfl ⟨rfl, by rw [hi2]⟩ (rfl)
  · have hlt : i < 8 := by rw [show (8 : Int32) = nI 8 from rfl, nI_leI (by omega) (by omega)] at h5; omega
    have hfi : vp_in (nI i) 8 := vp_in_nI (by omega) (by decide)
    have hnf : (nI i).toNatClampNeg = i := nI_clamp (by omega)
    refine px_aload_n dX11_liftsAll_8 rfl rfl ?_
    refine px_getR dX11_liftsAll_9 fX11_35 (xol rfl) hM rfl (wr_11_23 hW (xol rfl)) (Nat.succ_pos _) ?_
    refine px_iconst dX11_liftsAll_12 ic_4 ?_
    refine px_iload_n dX11_liftsAll_13 rfl rfl ?_
    refine px_imul dX11_liftsAll_14 ?_
    refine px_iconst dX11_liftsAll_15 ic_0 ?_
    refine px_iadd dX11_liftsAll_16 ?_
    refine px_top (ixA 4 i 0) ?_
    refine px_iconst dX11_liftsAll_17 ic_m1 ?_
    refine px_iast dX11_liftsAll_18 (xal (n := 33) rfl) hM (vp_in_nI (by omega) (by decide)) ?_
    refine px_aload_n dX11_liftsAll_19 rfl rfl ?_
    refine px_getR dX11_liftsAll_20 fX11_35 (xol rfl) hM rfl (wr_11_23 hW (xol rfl)) (Nat.succ_pos _) ?_
    refine px_iconst dX11_liftsAll_23 ic_4 ?_
    refine px_iload_n dX11_liftsAll_24 rfl rfl ?_
    refine px_imul dX11_liftsAll_25 ?_
    refine px_iconst dX11_liftsAll_26 ic_1 ?_
    refine px_iadd dX11_liftsAll_27 ?_
    refine px_top (ixA 4 i 1) ?_
    refine px_iconst dX11_liftsAll_28 ic_0 ?_
    refine px_iast dX11_liftsAll_29 (xal (n := 33) rfl) hM (vp_in_nI (by omega) (by decide)) ?_
    refine px_aload_n dX11_liftsAll_30 rfl rfl ?_
    refine px_getR dX11_liftsAll_31 fX11_35 (xol rfl) hM rfl (wr_11_23 hW (xol rfl)) (Nat.succ_pos _) ?_
    refine px_iconst dX11_liftsAll_34 ic_4 ?_
    refine px_iload_n dX11_liftsAll_35 rfl rfl ?_
    refine px_imul dX11_liftsAll_36 ?_
    refine px_iconst dX11_liftsAll_37 ic_2 ?_
    refine px_iadd dX11_liftsAll_38 ?_
    refine px_top (ixA 4 i 2) ?_
    refine px_iconst dX11_liftsAll_39 ic_0 ?_
    refine px_iast dX11_liftsAll_40 (xal (n := 33) rfl) hM (vp_in_nI (by omega) (by decide)) ?_
    refine px_aload_n dX11_liftsAll_41 rfl rfl ?_
    refine px_getR dX11_liftsAll_42 fX11_35 (xol rfl) hM rfl (wr_11_23 hW (xol rfl)) (Nat.succ_pos _) ?_
    refine px_iconst dX11_liftsAll_45 ic_4 ?_
    refine px_iload_n dX11_liftsAll_46 rfl rfl ?_
    refine px_imul dX11_liftsAll_47 ?_
    refine px_iconst dX11_liftsAll_48 ic_3 ?_
    refine px_iadd dX11_liftsAll_49 ?_
    refine px_top (ixA 4 i 3) ?_
    refine px_iconst dX11_liftsAll_50 ic_0 ?_
    refine px_iast dX11_liftsAll_51 (xal (n := 33) rfl) hM (vp_in_nI (by omega) (by decide)) ?_
    refine px_inc_1 dX11_liftsAll_52 rfl ic_1 ?_
    refine px_goto 2 dX11_liftsAll_55 rfl ?_
    exact px_eq (by rw [nI_1]) (by rw [nI_clamp (by omega), nI_clamp (by omega), nI_clamp (by omega), nI_clamp (by omega)]; exact lfF_s _ _ _) (nx hlt)

set_option maxRecDepth 100000 in
theorem c_X11_liftsAll {E : xE} {M : xMem} (hM : xNT ≤ xN M) (hW : xWire M.2.1) : Cf E mX11_liftsAll [.ref 74] M none (wF M 83 (lfF (M.1 83) 8)) := by
  refine Ct.of (lo := [some (.ref 74), none]) pln_X11 (Nat.le_of_ble_eq_true rfl) rfl (Nat.le_refl _) ?_
  refine px_iconst dX11_liftsAll_0 ic_0 ?_
  refine px_si_1 dX11_liftsAll_1 rfl ?_
  have k := l_X11_liftsAll (E := E) hM hW
  rw [lfF_0, wF_id] at k
  exact k
