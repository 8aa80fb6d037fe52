/-! ===== calls that only look ===== -/
def cHy (M : xMem) (s n W H B : Nat) (g : Nat → Nat → Nat) (dd : Nat) (S : gLay × Nat) (P : Nat → gLay × Nat) : Prop := xNT ≤ xN M ∧ xWire M.2.1 ∧ xob s 7 ∧ M.2.1 1 10 = s ∧ cSh M s n W H B g ∧ okSh n W H B g ∧ stC M 6 dd S P ∧ lyOK n W H (aA B g) (aD B g) S.1 ∧ S.2 < 4
def rHy (M : xMem) (n W H B : Nat) (g : Nat → Nat → Nat) (dd : Nat) (S : gLay × Nat) (P : Nat → gLay × Nat) : Prop := xNT ≤ xN M ∧ xWire M.2.1 ∧ mSh M n W H B g ∧ okSh n W H B g ∧ stM M dd S P ∧ lyOK n W H (aA B g) (aD B g) S.1 ∧ S.2 < 4
def cS (M M1 : xMem) : Prop := M1.2 = M.2 ∧ ∀ a, (a < 25 ∨ 30 < a) → M1.1 a = M.1 a
def rS (M M1 : xMem) : Prop := M1.2.1 = M.2.1 ∧ M1.2.2.2 = M.2.2.2 ∧ (∀ a, a ≠ 74 → (a < 85 ∨ 89 < a) → a ≠ 93 → M1.1 a = M.1 a) ∧ ∀ k, k ≠ 27 → (k < 32 ∨ 35 < k) → (k < 41 ∨ 43 < k) → M1.1 74 k = M.1 74 k
theorem cS.rf (M : xMem) : cS M M := ⟨rfl, fun _ _ => rfl⟩
theorem rS.rf (M : xMem) : rS M M := ⟨rfl, rfl, fun _ _ _ _ => rfl, fun _ _ _ _ => rfl⟩
theorem cS.tr {M M1 M2 : xMem} (h : cS M M1) (h' : cS M1 M2) : cS M M2 := ⟨h'.1.trans h.1, fun a a1 => (h'.2 a a1).trans (h.2 a a1)⟩
theorem rS.tr {M M1 M2 : xMem} (h : rS M M1) (h' : rS M1 M2) : rS M M2 := ⟨h'.1.trans h.1, h'.2.1.trans h.2.1, fun a a1 a2 a3 => (h'.2.2.1 a a1 a2 a3).trans (h.2.2.1 a a1 a2 a3), fun k k1 k2 k3 => (h'.2.2.2 k k1 k2 k3).trans (h.2.2.2 k k1 k2 k3)⟩
theorem rmS.c {M M1 : xMem} (h : rmS M M1) : cS M M1 := ⟨h.1, fun a a1 => h.2 a (by omega) (by omega) (by omega)⟩
theorem mSc2.r {M M1 : xMem} (h : mSc2 M M1) : rS M M1 := ⟨by rw [h.1], by rw [h.1], fun a a1 a2 _ => h.2.1 a a1 (by omega) (by omega) (by omega) (by omega) (by omega), fun k k1 k2 _ => h.2.2 k k1 k2⟩
theorem cS.wI {M M1 : xMem} (h : cS M M1) (a j : Nat) (v : Int32) : cS (wI M a j v) (wI M1 a j v) := ⟨h.1, fun b hb => by funext k; rw [xI_wI, xI_wI, h.2 b hb]⟩
theorem rS.wI {M M1 : xMem} (h : rS M M1) (a j : Nat) (v : Int32) : rS (wI M a j v) (wI M1 a j v) := ⟨h.1, h.2.1, fun b b1 b2 b3 => by funext k; rw [xI_wI, xI_wI, h.2.2.1 b b1 b2 b3], fun k k1 k2 k3 => by rw [xI_wI, xI_wI, h.2.2.2 k k1 k2 k3]⟩
theorem cS.m {M m : xMem} (h : cS M m) : xN m = xN M := by show m.2.2.2 = M.2.2.2; rw [h.1]
theorem rS.m {M m : xMem} (h : rS M m) : xN m = xN M := h.2.1
theorem lyC_is {w : Nat → Int32} {lay : gLay} (h : lyC w lay) (hb : lyB lay) {f : Nat} (hf : f < 8) : zb (¬ w (nI f).toNatClampNeg = -9) = zb (¬ lay f = none) := by
  rw [nI_clamp (by omega)]
  exact zb_c ⟨fun z e => z (h.1 f hf e), fun z e => z (lyC_un h hb e)⟩
theorem lyM_is {w : Nat → Int32} {lay : gLay} (h : lyM w lay) (hb : lyB lay) {f : Nat} (hf : f < 8) : zb (0 ≤ w (4 * f + 0)) = zb (¬ lay f = none) := zb_c (mn_set h hb hf)
theorem in_c2 {v : Int32} : zb (0 ≤ v ∧ v ≤ 2) = zb (0 ≤ v ∧ v < 3) := zb_c (by simp only [Int32.le_iff_toInt_le, Int32.lt_iff_toInt_lt, Int32.reduceToInt]; omega)
theorem in_c3 {v : Int32} : zb (0 ≤ v ∧ v ≤ 3) = zb (0 ≤ v ∧ v < 4) := zb_c (by simp only [Int32.le_iff_toInt_le, Int32.lt_iff_toInt_lt, Int32.reduceToInt]; omega)
theorem in_c4 {v : Int32} : zb (0 ≤ v ∧ v ≤ 4) = zb (0 ≤ v ∧ v < 5) := zb_c (by simp only [Int32.le_iff_toInt_le, Int32.lt_iff_toInt_lt, Int32.reduceToInt]; omega)
theorem in_m {v : Int32} {n : Nat} (hn : n < 2 ^ 31) : zb (0 ≤ v ∧ v ≤ nI n - 1) = zb (0 ≤ v ∧ v < nI n) := zb_c (in_lt hn)
abbrev aBad : aOut := (-1, none, none)
def pF (B : Nat) (g : Nat → Nat → Nat) (f : Nat) (w : Int32) : Int32 := if w = 0 then nI (g f 0) else if w = 1 then nI (fd B g f 8) else if w = 2 then nI (fd B g f 9) else if w = 3 then nI (aA B g f) else nI (aD B g f)
def pL (q : Nat × Nat × Nat × Nat) (w : Int32) : Int32 := if w = 0 then nI q.1 else if w = 1 then nI q.2.1 else if w = 2 then nI q.2.2.1 else nI q.2.2.2
def aFrm (n B : Nat) (g : Nat → Nat → Nat) (v w : Int32) : aOut := if ¬ (0 ≤ v ∧ v < nI n) then aBad else if ¬ (0 ≤ w ∧ w < 5) then aBad else (1, some (pF B g v.toNatClampNeg w), none)
def plA (w : Int32) : Option (Nat × Nat × Nat × Nat) → aOut
  | none => (-9, none, none)
  | some q => (1, some (pL q w), none)
def aPlc (n : Nat) (lay : gLay) (v w : Int32) : aOut := if ¬ (0 ≤ v ∧ v < nI n) then aBad else if ¬ (0 ≤ w ∧ w < 4) then aBad else plA w (lay v.toNatClampNeg)
def mkV (B : Nat) (g : Nat → Nat → Nat) (f : Nat) (k : Int32) : Int32 := if k = 1 then (if 0 ≤ nI (fd B g f 8) - nI (fd B g f 9) then nI (fd B g f 8) - nI (fd B g f 9) else 0 - (nI (fd B g f 8) - nI (fd B g f 9))) else if k = 2 then nI (aA B g f) * nI (aD B g f) - nI (fd B g f 8) * nI (fd B g f 9) else nI (g f 1) * nI (g f 2) - (nI (g f 1) - nI (g f 3) - nI (g f 5)) * (nI (g f 2) - nI (g f 4) - nI (g f 6))
def aMrk (n B : Nat) (g : Nat → Nat → Nat) (v k : Int32) : aOut := if ¬ (0 ≤ v ∧ v < nI n) then aBad else if ¬ (1 ≤ k ∧ k < 4) then aBad else if ¬ (nI (g v.toNatClampNeg 0) = k ∨ (nI (g v.toNatClampNeg 0) = 3 ∧ k = 1)) then (-3, none, some 3) else (mkV B g v.toNatClampNeg k, none, none)
theorem cSh_p {M : xMem} {s n W H B : Nat} {g : Nat → Nat → Nat} (h : cSh M s n W H B g) {f : Nat} (hf : f < n) (w : Int32) : (if w = 0 then M.1 (fA s f) 0 else if w = 1 then M.1 (fA s f) 8 else if w = 2 then M.1 (fA s f) 9 else if w = 3 then fAc M (fA s f) 0 else fDn M (fA s f) 0) = pF B g f w := by
  unfold pF
  rw [h.2.2.2.2 f hf 0 (by decide), h.2.2.2.2 f hf 8 (by decide), h.2.2.2.2 f hf 9 (by decide), (cSh_A h hf).1, (cSh_A h hf).2]
  rfl
theorem mSh_p {M : xMem} {n W H B : Nat} {g : Nat → Nat → Nat} (h : mSh M n W H B g) (ho : okSh n W H B g) {f : Nat} (hf : f < n) (w : Int32) : (if w = 0 then mg M f 0 else if w = 1 then mAcr M f else if w = 2 then mDn M f else if w = 3 then mNX M f 0 else mNY M f 0) = pF B g f w := by
  unfold pF
  rw [show mg M f 0 = nI (g f 0) from h.2.2.2.2 f hf 0 (by decide), (mSh_f h ho hf).2.1, (mSh_f h ho hf).2.2.1, (mSh_A h ho hf).1, (mSh_A h ho hf).2.2]
theorem lyC_p {w : Nat → Int32} {lay : gLay} (h : lyC w lay) (hb : lyB lay) {f p x y t : Nat} (e : lay f = some (p, x, y, t)) (k : Int32) : (if k = 0 then sPg (w f) else if k = 1 then sX (w f) else if k = 2 then sY (w f) else sT (w f)) = pL (p, x, y, t) k := by
  have := lyC_s h hb e
  unfold pL
  rw [this.2.1, this.2.2.1, this.2.2.2.1, this.2.2.2.2]
theorem lyM_p {w : Nat → Int32} {lay : gLay} (h : lyM w lay) {f p x y t : Nat} (hf : f < 8) (e : lay f = some (p, x, y, t)) {k : Nat} (hk : k < 4) : w (4 * f + k) = pL (p, x, y, t) (nI k) := by
  have := h.2 f p x y t hf e
  rcases (show k = 0 ∨ k = 1 ∨ k = 2 ∨ k = 3 by omega) with rfl | rfl | rfl | rfl
  · exact this.1
  · exact this.2.1
  · exact this.2.2.1
  · exact this.2.2.2

set_option maxRecDepth 100000 in
theorem c_X10_frame {E : xE} {M : xMem} {s n W H B dd : Nat} {g : Nat → Nat → Nat} {S : gLay × Nat} {P : Nat → gLay × Nat} (hc : cHy M s n W H B g dd S P) {v w : Int32} : Cf E mX10_frame [.ref 1, .int v, .int w] M (some (.int (aFrm n B g v w).1)) (oC M (aFrm n B g v w).2.1 (aFrm n B g v w).2.2) := by
  refine Ct.of (lo := [some (.ref 1), some (.int v), some (.int w)]) pln_X10 (Nat.le_of_ble_eq_true rfl) rfl (Nat.le_refl _) ?_
  obtain ⟨hM, hW, hs, hcu, hsh, hok, hst, hly, hru⟩ := hc
  have hp0 : 0 < s := hs.1
  have h8 : n ≤ 8 := hok.1
  have hb : lyB S.1 := (hsh.s hok).b hly
  have hl : lyC (M.1 8) S.1 := hst.2.2.1
  refine px_iload_n dX10_frame_0 rfl rfl ?_
  refine px_aload_n dX10_frame_1 rfl rfl ?_
  refine px_getR dX10_frame_2 fX10_71 (xol rfl) hM rfl (by assumption) (by assumption) ?_
  refine px_getI dX10_frame_5 fX10_140 hs hM rfl ?_
  refine px_top (y := nI n) hsh.1 ?_
  refine px_fS2i dX10_frame_8 kX10_frame_84 (Nat.le_of_ble_eq_true rfl) (c_X10_isBelow) ?_
  refine px_zif_eq 22 dX10_frame_11 rfl (fun h11 => ?_) (fun h11 => ?_)
  · refine px_iconst dX10_frame_22 ic_m1 ?_
    exact px_iret dX10_frame_23 rfl (by first | (refine ⟨?_, ?_⟩ <;> simp only [aFrm, h11, h19, not_true_eq_false, not_false_eq_true, if_true, if_false, and_self, or_true, true_or, or_false, false_or, true_and, and_true, false_and, and_false, or_self, ite_true, ite_false, reduceIte, oC, oR]; done) | (refine ⟨?_, ?_⟩ <;> simp only [aFrm, h11, not_true_eq_false, not_false_eq_true, if_true, if_false, and_self, or_true, true_or, or_false, false_or, true_and, and_true, false_and, and_false, or_self, ite_true, ite_false, reduceIte, oC, oR]; done)) (rfl)
  · refine px_iload_n dX10_frame_14 rfl rfl ?_
    refine px_iconst dX10_frame_15 ic_5 ?_
    refine px_fS2i dX10_frame_16 kX10_frame_84 (Nat.le_of_ble_eq_true rfl) (c_X10_isBelow) ?_
    refine px_zif_ne 24 dX10_frame_19 rfl (fun h19 => ?_) (fun h19 => ?_)
    · obtain ⟨f, hf, rfl⟩ := in_nat (by omega) h11
      have hnf : (nI f).toNatClampNeg = f := nI_clamp (by omega)
      have hfi : vp_in (nI f) 8 := vp_in_nI (by omega) (by decide)
      refine px_aload_n dX10_frame_24 rfl rfl ?_
      refine px_aload_n dX10_frame_25 rfl rfl ?_
      refine px_getR dX10_frame_26 fX10_71 (xol rfl) hM rfl (by assumption) (by assumption) ?_
      refine px_getR dX10_frame_29 fX10_154 hs hM rfl (wr_7_0 hW hs) (Nat.succ_pos _) ?_
      refine px_iload_n dX10_frame_32 rfl rfl ?_
      refine px_aald (t0 := 6) dX10_frame_33 (ar_7 hs) (by decide) (fun _ => rfl) hM hfi (show M.2.1 (s + 1) (nI f).toNatClampNeg = s + 1 + 1 + f by rw [hnf]; exact wa_26 hW (ar_7 hs) (by omega)) (by omega) ?_
      refine px_iload_n dX10_frame_34 rfl rfl ?_
      refine px_fV1i dX10_frame_35 kX10_frame_158 (ob_frame hs (by omega)) hM (Nat.le_of_ble_eq_true rfl) (c_X0_part (ob_frame hs (by omega)) hM) ?_
      refine px_top (y := pF B g f w) (cSh_p hsh hf w) ?_
      refine px_fV1i dX10_frame_38 kX10_frame_106 (xol rfl) hM (Nat.le_of_ble_eq_true rfl) (c_X10_tell hM) ?_
      exact px_iret dX10_frame_41 rfl (by (refine ⟨?_, ?_⟩ <;> simp only [aFrm, h11, h19, hnf, not_true_eq_false, not_false_eq_true, if_true, if_false, and_self, or_true, true_or, or_false, false_or, true_and, and_true, false_and, and_false, or_self, ite_true, ite_false, reduceIte, oC, oR]; done)) (rfl)
    · refine px_iconst dX10_frame_22 ic_m1 ?_
      exact px_iret dX10_frame_23 rfl (by first | (refine ⟨?_, ?_⟩ <;> simp only [aFrm, h11, h19, not_true_eq_false, not_false_eq_true, if_true, if_false, and_self, or_true, true_or, or_false, false_or, true_and, and_true, false_and, and_false, or_self, ite_true, ite_false, reduceIte, oC, oR]; done) | (refine ⟨?_, ?_⟩ <;> simp only [aFrm, h11, not_true_eq_false, not_false_eq_true, if_true, if_false, and_self, or_true, true_or, or_false, false_or, true_and, and_true, false_and, and_false, or_self, ite_true, ite_false, reduceIte, oC, oR]; done)) (rfl)

set_option maxRecDepth 100000 in
theorem c_X11_frame {E : xE} {M : xMem} {n W H B dd : Nat} {g : Nat → Nat → Nat} {S : gLay × Nat} {P : Nat → gLay × Nat} (hc : rHy M n W H B g dd S P) {v w : Int32} : Cf E mX11_frame [.ref 74, .int v, .int w] M (some (.int (aFrm n B g v w).1)) (oR M (aFrm n B g v w).2.1 (aFrm n B g v w).2.2) := by
  refine Ct.of (lo := [some (.ref 74), some (.int v), some (.int w)]) pln_X11 (Nat.le_of_ble_eq_true rfl) rfl (Nat.le_refl _) ?_
  obtain ⟨hM, hW, hsh, hok, hst, hly, hru⟩ := hc
  have h8 : n ≤ 8 := hok.1
  have hb : lyB S.1 := (hsh.s hok).b hly
  have hl : lyM (M.1 83) S.1 := lyM_c hst.2.2.1.1 (fun k _ => by rw [Nat.zero_add])
  refine px_aload_n dX11_frame_0 rfl rfl ?_
  refine px_iload_n dX11_frame_1 rfl rfl ?_
  refine px_fV1i dX11_frame_2 kX11_frame_223 (xol rfl) hM (Nat.le_of_ble_eq_true rfl) (c_X11_isFrame hM) ?_
  refine px_top (y := zb (0 ≤ v ∧ v < nI n)) (by rw [hsh.1]; exact in_m (by omega)) ?_
  refine px_zif_eq 17 dX11_frame_5 rfl (fun h5 => ?_) (fun h5 => ?_)
  · refine px_iconst dX11_frame_17 ic_m1 ?_
    exact px_iret dX11_frame_18 rfl (by first | (refine ⟨?_, ?_⟩ <;> simp only [aFrm, h5, h14, not_true_eq_false, not_false_eq_true, if_true, if_false, and_self, or_true, true_or, or_false, false_or, true_and, and_true, false_and, and_false, or_self, ite_true, ite_false, reduceIte, oC, oR]; done) | (refine ⟨?_, ?_⟩ <;> simp only [aFrm, h5, not_true_eq_false, not_false_eq_true, if_true, if_false, and_self, or_true, true_or, or_false, false_or, true_and, and_true, false_and, and_false, or_self, ite_true, ite_false, reduceIte, oC, oR]; done)) (rfl)
  · refine px_iload_n dX11_frame_8 rfl rfl ?_
    refine px_iconst dX11_frame_9 ic_0 ?_
    refine px_iconst dX11_frame_10 ic_4 ?_
    refine px_fS3i dX11_frame_11 kX11_frame_75 (Nat.le_of_ble_eq_true rfl) (c_X11_in) ?_
    refine px_top (y := zb (0 ≤ w ∧ w < 5)) in_c4 ?_
    refine px_zif_ne 19 dX11_frame_14 rfl (fun h14 => ?_) (fun h14 => ?_)
    · obtain ⟨f, hf, rfl⟩ := in_nat (by omega) h5
      have hnf : (nI f).toNatClampNeg = f := nI_clamp (by omega)
      have hfi : vp_in (nI f) 8 := vp_in_nI (by omega) (by decide)
      refine px_aload_n dX11_frame_19 rfl rfl ?_
      refine px_aload_n dX11_frame_20 rfl rfl ?_
      refine px_iload_n dX11_frame_21 rfl rfl ?_
      refine px_iload_n dX11_frame_22 rfl rfl ?_
      refine px_fV2i dX11_frame_23 kX11_frame_226 (xol rfl) hM (Nat.le_of_ble_eq_true rfl) (c_X11_frameTells (by omega) hM hW) ?_
      refine px_top (y := pF B g f w) (mSh_p hsh hok hf w) ?_
      refine px_iconst dX11_frame_26 ic_1 ?_
      refine px_fV2i dX11_frame_27 kX11_frame_91 (xol rfl) hM (Nat.le_of_ble_eq_true rfl) (c_X11_tells hM) ?_
      exact px_iret dX11_frame_30 rfl (by (refine ⟨?_, ?_⟩ <;> simp only [aFrm, h5, h14, hnf, not_true_eq_false, not_false_eq_true, if_true, if_false, and_self, or_true, true_or, or_false, false_or, true_and, and_true, false_and, and_false, or_self, ite_true, ite_false, reduceIte, oC, oR]; done)) (rfl)
    · refine px_iconst dX11_frame_17 ic_m1 ?_
      exact px_iret dX11_frame_18 rfl (by first | (refine ⟨?_, ?_⟩ <;> simp only [aFrm, h5, h14, not_true_eq_false, not_false_eq_true, if_true, if_false, and_self, or_true, true_or, or_false, false_or, true_and, and_true, false_and, and_false, or_self, ite_true, ite_false, reduceIte, oC, oR]; done) | (refine ⟨?_, ?_⟩ <;> simp only [aFrm, h5, not_true_eq_false, not_false_eq_true, if_true, if_false, and_self, or_true, true_or, or_false, false_or, true_and, and_true, false_and, and_false, or_self, ite_true, ite_false, reduceIte, oC, oR]; done)) (rfl)

set_option maxRecDepth 100000 in
theorem c_X10_place {E : xE} {M : xMem} {s n W H B dd : Nat} {g : Nat → Nat → Nat} {S : gLay × Nat} {P : Nat → gLay × Nat} (hc : cHy M s n W H B g dd S P) {v w : Int32} : Cf E mX10_place [.ref 1, .int v, .int w] M (some (.int (aPlc n S.1 v w).1)) (oC M (aPlc n S.1 v w).2.1 (aPlc n S.1 v w).2.2) := by
  refine Ct.of (lo := [some (.ref 1), some (.int v), some (.int w)]) pln_X10 (Nat.le_of_ble_eq_true rfl) rfl (Nat.le_refl _) ?_
  obtain ⟨hM, hW, hs, hcu, hsh, hok, hst, hly, hru⟩ := hc
  have hp0 : 0 < s := hs.1
  have h8 : n ≤ 8 := hok.1
  have hb : lyB S.1 := (hsh.s hok).b hly
  have hl : lyC (M.1 8) S.1 := hst.2.2.1
  refine px_iload_n dX10_place_0 rfl rfl ?_
  refine px_aload_n dX10_place_1 rfl rfl ?_
  refine px_getR dX10_place_2 fX10_71 (xol rfl) hM rfl (by assumption) (by assumption) ?_
  refine px_getI dX10_place_5 fX10_140 hs hM rfl ?_
  refine px_top (y := nI n) hsh.1 ?_
  refine px_fS2i dX10_place_8 kX10_place_84 (Nat.le_of_ble_eq_true rfl) (c_X10_isBelow) ?_
  refine px_zif_eq 22 dX10_place_11 rfl (fun h11 => ?_) (fun h11 => ?_)
  · refine px_iconst dX10_place_22 ic_m1 ?_
    exact px_iret dX10_place_23 rfl (by first | (refine ⟨?_, ?_⟩ <;> simp only [aPlc, h11, h19, not_true_eq_false, not_false_eq_true, if_true, if_false, and_self, or_true, true_or, or_false, false_or, true_and, and_true, false_and, and_false, or_self, ite_true, ite_false, reduceIte, oC, oR]; done) | (refine ⟨?_, ?_⟩ <;> simp only [aPlc, h11, not_true_eq_false, not_false_eq_true, if_true, if_false, and_self, or_true, true_or, or_false, false_or, true_and, and_true, false_and, and_false, or_self, ite_true, ite_false, reduceIte, oC, oR]; done)) (rfl)
  · refine px_iload_n dX10_place_14 rfl rfl ?_
    refine px_iconst dX10_place_15 ic_4 ?_
    refine px_fS2i dX10_place_16 kX10_place_84 (Nat.le_of_ble_eq_true rfl) (c_X10_isBelow) ?_
    refine px_zif_ne 24 dX10_place_19 rfl (fun h19 => ?_) (fun h19 => ?_)
    · obtain ⟨f, hf, rfl⟩ := in_nat (by omega) h11
      have hnf : (nI f).toNatClampNeg = f := nI_clamp (by omega)
      have hfi : vp_in (nI f) 8 := vp_in_nI (by omega) (by decide)
      refine px_aload_n dX10_place_24 rfl rfl ?_
      refine px_getR dX10_place_25 fX10_32 (xol rfl) hM rfl (wr_10_4 hW (xol rfl)) (Nat.succ_pos _) ?_
      refine px_getR dX10_place_28 fX10_163 (xol rfl) hM rfl (wr_8_0 hW (xol rfl)) (Nat.succ_pos _) ?_
      refine px_iload_n dX10_place_31 rfl rfl ?_
      refine px_fV1i dX10_place_32 kX10_place_166 (xol rfl) hM (Nat.le_of_ble_eq_true rfl) (c_X1_isSet (a := 7) (xol rfl) hM hW hfi) ?_
      refine px_top (y := zb (¬ S.1 f = none)) (lyC_is hl hb (by omega)) ?_
      refine px_zif_ne 41 dX10_place_35 rfl (fun h35 => ?_) (fun h35 => ?_)
      · obtain ⟨p, x, y, t, e⟩ := lay_some h35
        refine px_aload_n dX10_place_41 rfl rfl ?_
        refine px_aload_n dX10_place_42 rfl rfl ?_
        refine px_getR dX10_place_43 fX10_32 (xol rfl) hM rfl (wr_10_4 hW (xol rfl)) (Nat.succ_pos _) ?_
        refine px_getR dX10_place_46 fX10_163 (xol rfl) hM rfl (wr_8_0 hW (xol rfl)) (Nat.succ_pos _) ?_
        refine px_iload_n dX10_place_49 rfl rfl ?_
        refine px_iload_n dX10_place_50 rfl rfl ?_
        refine px_fV2i dX10_place_51 kX10_place_170 (xol rfl) hM (Nat.le_of_ble_eq_true rfl) (c_X1_part (a := 7) (xol rfl) hM hW hfi) ?_
        refine px_top (y := pL (p, x, y, t) w) (by rw [hnf]; exact lyC_p hl hb e w) ?_
        refine px_fV1i dX10_place_54 kX10_place_106 (xol rfl) hM (Nat.le_of_ble_eq_true rfl) (c_X10_tell hM) ?_
        exact px_iret dX10_place_57 rfl (by (refine ⟨?_, ?_⟩ <;> simp only [aPlc, h11, h19, hnf, e, plA, not_true_eq_false, not_false_eq_true, if_true, if_false, and_self, or_true, true_or, or_false, false_or, true_and, and_true, false_and, and_false, or_self, ite_true, ite_false, reduceIte, oC, oR]; done)) (rfl)
      · have e : S.1 f = none := Classical.byContradiction h35
        refine px_bipush dX10_place_38 bp_m9 ?_
        exact px_iret dX10_place_40 rfl (by (refine ⟨?_, ?_⟩ <;> simp only [aPlc, h11, h19, hnf, e, plA, not_true_eq_false, not_false_eq_true, if_true, if_false, and_self, or_true, true_or, or_false, false_or, true_and, and_true, false_and, and_false, or_self, ite_true, ite_false, reduceIte, oC, oR]; done)) (rfl)
    · refine px_iconst dX10_place_22 ic_m1 ?_
      exact px_iret dX10_place_23 rfl (by first | (refine ⟨?_, ?_⟩ <;> simp only [aPlc, h11, h19, not_true_eq_false, not_false_eq_true, if_true, if_false, and_self, or_true, true_or, or_false, false_or, true_and, and_true, false_and, and_false, or_self, ite_true, ite_false, reduceIte, oC, oR]; done) | (refine ⟨?_, ?_⟩ <;> simp only [aPlc, h11, not_true_eq_false, not_false_eq_true, if_true, if_false, and_self, or_true, true_or, or_false, false_or, true_and, and_true, false_and, and_false, or_self, ite_true, ite_false, reduceIte, oC, oR]; done)) (rfl)

set_option maxRecDepth 100000 in
theorem c_X11_place {E : xE} {M : xMem} {n W H B dd : Nat} {g : Nat → Nat → Nat} {S : gLay × Nat} {P : Nat → gLay × Nat} (hc : rHy M n W H B g dd S P) {v w : Int32} : Cf E mX11_place [.ref 74, .int v, .int w] M (some (.int (aPlc n S.1 v w).1)) (oR M (aPlc n S.1 v w).2.1 (aPlc n S.1 v w).2.2) := by
  refine Ct.of (lo := [some (.ref 74), some (.int v), some (.int w)]) pln_X11 (Nat.le_of_ble_eq_true rfl) rfl (Nat.le_refl _) ?_
  obtain ⟨hM, hW, hsh, hok, hst, hly, hru⟩ := hc
  have h8 : n ≤ 8 := hok.1
  have hb : lyB S.1 := (hsh.s hok).b hly
  have hl : lyM (M.1 83) S.1 := lyM_c hst.2.2.1.1 (fun k _ => by rw [Nat.zero_add])
  refine px_aload_n dX11_place_0 rfl rfl ?_
  refine px_iload_n dX11_place_1 rfl rfl ?_
  refine px_fV1i dX11_place_2 kX11_place_223 (xol rfl) hM (Nat.le_of_ble_eq_true rfl) (c_X11_isFrame hM) ?_
  refine px_top (y := zb (0 ≤ v ∧ v < nI n)) (by rw [hsh.1]; exact in_m (by omega)) ?_
  refine px_zif_eq 17 dX11_place_5 rfl (fun h5 => ?_) (fun h5 => ?_)
  · refine px_iconst dX11_place_17 ic_m1 ?_
    exact px_iret dX11_place_18 rfl (by first | (refine ⟨?_, ?_⟩ <;> simp only [aPlc, h5, h14, not_true_eq_false, not_false_eq_true, if_true, if_false, and_self, or_true, true_or, or_false, false_or, true_and, and_true, false_and, and_false, or_self, ite_true, ite_false, reduceIte, oC, oR]; done) | (refine ⟨?_, ?_⟩ <;> simp only [aPlc, h5, not_true_eq_false, not_false_eq_true, if_true, if_false, and_self, or_true, true_or, or_false, false_or, true_and, and_true, false_and, and_false, or_self, ite_true, ite_false, reduceIte, oC, oR]; done)) (rfl)
  · refine px_iload_n dX11_place_8 rfl rfl ?_
    refine px_iconst dX11_place_9 ic_0 ?_
    refine px_iconst dX11_place_10 ic_3 ?_
    refine px_fS3i dX11_place_11 kX11_place_75 (Nat.le_of_ble_eq_true rfl) (c_X11_in) ?_
    refine px_top (y := zb (0 ≤ w ∧ w < 4)) in_c3 ?_
    refine px_zif_ne 19 dX11_place_14 rfl (fun h14 => ?_) (fun h14 => ?_)
    · obtain ⟨f, hf, rfl⟩ := in_nat (by omega) h5
      have hnf : (nI f).toNatClampNeg = f := nI_clamp (by omega)
      have hfi : vp_in (nI f) 8 := vp_in_nI (by omega) (by decide)
      refine px_aload_n dX11_place_19 rfl rfl ?_
      refine px_iload_n dX11_place_20 rfl rfl ?_
      refine px_fV1i dX11_place_21 kX11_place_232 (xol rfl) hM (Nat.le_of_ble_eq_true rfl) (c_X11_isSet (by omega) hM hW) ?_
      refine px_top (y := zb (¬ S.1 f = none)) (lyM_is hl hb (by omega)) ?_
      refine px_zif_eq 45 dX11_place_24 rfl (fun h24 => ?_) (fun h24 => ?_)
      · have e : S.1 f = none := Classical.byContradiction h24
        refine px_bipush dX11_place_45 bp_m9 ?_
        exact px_iret dX11_place_47 rfl (by (refine ⟨?_, ?_⟩ <;> simp only [aPlc, h5, h14, hnf, e, plA, not_true_eq_false, not_false_eq_true, if_true, if_false, and_self, or_true, true_or, or_false, false_or, true_and, and_true, false_and, and_false, or_self, ite_true, ite_false, reduceIte, oC, oR]; done)) (rfl)
      · obtain ⟨p, x, y, t, e⟩ := lay_some h24
        obtain ⟨k, hk, rfl⟩ := in_nat (n := 4) (by decide) h14
        have hnk : (nI k).toNatClampNeg = k := nI_clamp (by omega)
        refine px_aload_n dX11_place_27 rfl rfl ?_
        refine px_aload_n dX11_place_28 rfl rfl ?_
        refine px_getR dX11_place_29 fX11_35 (xol rfl) hM rfl (wr_11_23 hW (xol rfl)) (Nat.succ_pos _) ?_
        refine px_iconst dX11_place_32 ic_4 ?_
        refine px_iload_n dX11_place_33 rfl rfl ?_
        refine px_imul dX11_place_34 ?_
        refine px_iload_n dX11_place_35 rfl rfl ?_
        refine px_iadd dX11_place_36 ?_
        refine px_top (y := nI (4 * f + k)) (ixA 4 f k) ?_
        refine px_iald dX11_place_37 (xal (n := 33) rfl) hM (vp_in_nI (by omega) (by decide)) ?_
        refine px_top (y := pL (p, x, y, t) (nI k)) (by rw [nI_clamp (by omega)]; exact lyM_p hl (by omega) e hk) ?_
        refine px_iconst dX11_place_38 ic_1 ?_
        refine px_fV2i dX11_place_39 kX11_place_91 (xol rfl) hM (Nat.le_of_ble_eq_true rfl) (c_X11_tells hM) ?_
        refine px_goto 47 dX11_place_42 rfl ?_
        exact px_iret dX11_place_47 rfl (by (refine ⟨?_, ?_⟩ <;> simp only [aPlc, h5, h14, hnf, e, plA, not_true_eq_false, not_false_eq_true, if_true, if_false, and_self, or_true, true_or, or_false, false_or, true_and, and_true, false_and, and_false, or_self, ite_true, ite_false, reduceIte, oC, oR]; done)) (rfl)
    · refine px_iconst dX11_place_17 ic_m1 ?_
      exact px_iret dX11_place_18 rfl (by first | (refine ⟨?_, ?_⟩ <;> simp only [aPlc, h5, h14, not_true_eq_false, not_false_eq_true, if_true, if_false, and_self, or_true, true_or, or_false, false_or, true_and, and_true, false_and, and_false, or_self, ite_true, ite_false, reduceIte, oC, oR]; done) | (refine ⟨?_, ?_⟩ <;> simp only [aPlc, h5, not_true_eq_false, not_false_eq_true, if_true, if_false, and_self, or_true, true_or, or_false, false_or, true_and, and_true, false_and, and_false, or_self, ite_true, ite_false, reduceIte, oC, oR]; done)) (rfl)

theorem mk_c {M : xMem} {s n W H B : Nat} {g : Nat → Nat → Nat} (h : cSh M s n W H B g) {f : Nat} (hf : f < n) {k : Int32} (hk : ¬ k = 0) : zb (k = 0 ∨ M.1 (fA s f) 0 = k ∨ (M.1 (fA s f) 0 = 3 ∧ k = 1)) = zb (nI (g f 0) = k ∨ (nI (g f 0) = 3 ∧ k = 1)) := by
  rw [show M.1 (fA s f) 0 = nI (g f 0) from h.2.2.2.2 f hf 0 (by decide)]
  exact zb_c ⟨fun z => z.resolve_left hk, Or.inr⟩
theorem aMrk_o {n B : Nat} {g : Nat → Nat → Nat} {v k : Int32} {f : Nat} (hf : v.toNatClampNeg = f) (h : 0 ≤ v ∧ v < nI n) (h1 : 1 ≤ k ∧ k < 4) (h2 : nI (g f 0) = k ∨ (nI (g f 0) = 3 ∧ k = 1)) : aMrk n B g v k = (mkV B g f k, none, none) := by
  subst hf
  unfold aMrk; rw [if_neg (fun z => z h), if_neg (fun z => z h1), if_neg (fun z => z h2)]
theorem aMrk_x {n B : Nat} {g : Nat → Nat → Nat} {v k : Int32} {f : Nat} (hf : v.toNatClampNeg = f) (h : 0 ≤ v ∧ v < nI n) (h1 : 1 ≤ k ∧ k < 4) (h2 : ¬ (nI (g f 0) = k ∨ (nI (g f 0) = 3 ∧ k = 1))) : aMrk n B g v k = (-3, none, some 3) := by
  subst hf
  unfold aMrk; rw [if_neg (fun z => z h), if_neg (fun z => z h1), if_pos h2]
theorem aMrk_b {n B : Nat} {g : Nat → Nat → Nat} {v k : Int32} (h1 : ¬ (1 ≤ k ∧ k < 4)) : aMrk n B g v k = aBad := by
  unfold aMrk
  by_cases h : ¬ (0 ≤ v ∧ v < nI n)
  · rw [if_pos h]
  · rw [if_neg h, if_pos h1]
theorem mk_1 {B : Nat} {g : Nat → Nat → Nat} {f : Nat} {k : Int32} (h : k = 1) : mkV B g f k = (if 0 ≤ nI (fd B g f 8) - nI (fd B g f 9) then nI (fd B g f 8) - nI (fd B g f 9) else 0 - (nI (fd B g f 8) - nI (fd B g f 9))) := if_pos h
theorem mk_2 {B : Nat} {g : Nat → Nat → Nat} {f : Nat} {k : Int32} (h : ¬ k = 1) (h2 : k = 2) : mkV B g f k = nI (aA B g f) * nI (aD B g f) - nI (fd B g f 8) * nI (fd B g f 9) := by unfold mkV; rw [if_neg h, if_pos h2]
theorem mk_3 {B : Nat} {g : Nat → Nat → Nat} {f : Nat} {k : Int32} (h : ¬ k = 1) (h2 : ¬ k = 2) : mkV B g f k = nI (g f 1) * nI (g f 2) - (nI (g f 1) - nI (g f 3) - nI (g f 5)) * (nI (g f 2) - nI (g f 4) - nI (g f 6)) := by unfold mkV; rw [if_neg h, if_neg h2]
theorem lt1 {k : Int32} : ¬ k < 1 ↔ 1 ≤ k := by simp only [Int32.le_iff_toInt_le, Int32.lt_iff_toInt_lt]; omega
theorem ge1_0 {k : Int32} (h : 1 ≤ k) : ¬ k = 0 := by intro z; rw [z] at h; exact absurd h (by decide)

set_option maxRecDepth 100000 in
theorem c_X10_mark {E : xE} {M : xMem} {s n W H B dd : Nat} {g : Nat → Nat → Nat} {S : gLay × Nat} {P : Nat → gLay × Nat} (hc : cHy M s n W H B g dd S P) {v k : Int32} : Cf E mX10_mark [.ref 1, .int v, .int k] M (some (.int (aMrk n B g v k).1)) (oC M (aMrk n B g v k).2.1 (aMrk n B g v k).2.2) := by
  refine Ct.of (lo := [some (.ref 1), some (.int v), some (.int k), none]) pln_X10 (Nat.le_of_ble_eq_true rfl) rfl (Nat.le_refl _) ?_
  obtain ⟨hM, hW, hs, hcu, hsh, hok, hst, hly, hru⟩ := hc
  have hp0 : 0 < s := hs.1
  have h8 : n ≤ 8 := hok.1
  have hb : lyB S.1 := (hsh.s hok).b hly
  have hl : lyC (M.1 8) S.1 := hst.2.2.1
  refine px_iload_n dX10_mark_0 rfl rfl ?_
  refine px_aload_n dX10_mark_1 rfl rfl ?_
  refine px_getR dX10_mark_2 fX10_71 (xol rfl) hM rfl (by assumption) (by assumption) ?_
  refine px_getI dX10_mark_5 fX10_140 hs hM rfl ?_
  refine px_top (y := nI n) hsh.1 ?_
  refine px_fS2i dX10_mark_8 kX10_mark_84 (Nat.le_of_ble_eq_true rfl) (c_X10_isBelow) ?_
  refine px_zif_eq 24 dX10_mark_11 rfl (fun h11 => ?_) (fun h11 => ?_)
  · refine px_iconst dX10_mark_24 ic_m1 ?_
    exact px_iret dX10_mark_25 rfl (by first | (refine ⟨?_, ?_⟩ <;> simp only [aMrk, h11, not_true_eq_false, not_false_eq_true, if_true, if_false, and_self, or_true, true_or, or_false, false_or, true_and, and_true, false_and, and_false, or_self, ite_true, ite_false, reduceIte, oC, oR]; done) | (rw [aMrk_b (fun z => lt1.mpr z.1 h16)]; exact ⟨rfl, rfl⟩) | (rw [aMrk_b (fun z => h21 z.2)]; exact ⟨rfl, rfl⟩)) (rfl)
  · refine px_iload_n dX10_mark_14 rfl rfl ?_
    refine px_iconst dX10_mark_15 ic_1 ?_
    refine px_icmp_lt 24 dX10_mark_16 rfl (fun h16 => ?_) (fun h16 => ?_)
    · refine px_iconst dX10_mark_24 ic_m1 ?_
      exact px_iret dX10_mark_25 rfl (by first | (refine ⟨?_, ?_⟩ <;> simp only [aMrk, h11, not_true_eq_false, not_false_eq_true, if_true, if_false, and_self, or_true, true_or, or_false, false_or, true_and, and_true, false_and, and_false, or_self, ite_true, ite_false, reduceIte, oC, oR]; done) | (rw [aMrk_b (fun z => lt1.mpr z.1 h16)]; exact ⟨rfl, rfl⟩) | (rw [aMrk_b (fun z => h21 z.2)]; exact ⟨rfl, rfl⟩)) (rfl)
    · refine px_iload_n dX10_mark_19 rfl rfl ?_
      refine px_iconst dX10_mark_20 ic_4 ?_
      refine px_icmp_lt 26 dX10_mark_21 rfl (fun h21 => ?_) (fun h21 => ?_)
      · obtain ⟨f, hf, rfl⟩ := in_nat (by omega) h11
        have hnf : (nI f).toNatClampNeg = f := nI_clamp (by omega)
        have hfi : vp_in (nI f) 8 := vp_in_nI (by omega) (by decide)
        have k1 : 1 ≤ k := lt1.mp h16
        refine px_aload_n dX10_mark_26 rfl rfl ?_
        refine px_getR dX10_mark_27 fX10_71 (xol rfl) hM rfl (by assumption) (by assumption) ?_
        refine px_getR dX10_mark_30 fX10_154 hs hM rfl (wr_7_0 hW hs) (Nat.succ_pos _) ?_
        refine px_iload_n dX10_mark_33 rfl rfl ?_
        refine px_aald (t0 := 6) dX10_mark_34 (ar_7 hs) (by decide) (fun _ => rfl) hM hfi (show M.2.1 (s + 1) (nI f).toNatClampNeg = s + 1 + 1 + f by rw [hnf]; exact wa_26 hW (ar_7 hs) (by omega)) (by omega) ?_
        refine px_sa_3 dX10_mark_35 rfl ?_
        refine px_aload_n dX10_mark_36 rfl rfl ?_
        refine px_iload_n dX10_mark_37 rfl rfl ?_
        refine px_fV1i dX10_mark_38 kX10_mark_173 (ob_frame hs (by omega)) hM (Nat.le_of_ble_eq_true rfl) (c_X0_isOf (ob_frame hs (by omega)) hM) ?_
        refine px_top (y := zb (nI (g f 0) = k ∨ (nI (g f 0) = 3 ∧ k = 1))) (mk_c hsh hf (ge1_0 k1)) ?_
        refine px_zif_ne 50 dX10_mark_41 rfl (fun h41 => ?_) (fun h41 => ?_)
        · refine px_iload_n dX10_mark_50 rfl rfl ?_
          refine px_iconst dX10_mark_51 ic_1 ?_
          refine px_icmp_ne 68 dX10_mark_52 rfl (fun h52 => ?_) (fun h52 => ?_)
          · refine px_iload_n dX10_mark_68 rfl rfl ?_
            refine px_iconst dX10_mark_69 ic_2 ?_
            refine px_icmp_ne 78 dX10_mark_70 rfl (fun h70 => ?_) (fun h70 => ?_)
            · refine px_aload_n dX10_mark_78 rfl rfl ?_
              refine px_fV0i dX10_mark_79 kX10_mark_191 (ob_frame hs (by omega)) hM (Nat.le_of_ble_eq_true rfl) (c_X0_emptyPoints (ob_frame hs (by omega)) hM) ?_
              refine px_top (y := nI (g f 1) * nI (g f 2) - (nI (g f 1) - nI (g f 3) - nI (g f 5)) * (nI (g f 2) - nI (g f 4) - nI (g f 6))) (by rw [hsh.2.2.2.2 f hf 1 (by decide), hsh.2.2.2.2 f hf 2 (by decide), hsh.2.2.2.2 f hf 3 (by decide), hsh.2.2.2.2 f hf 4 (by decide), hsh.2.2.2.2 f hf 5 (by decide), hsh.2.2.2.2 f hf 6 (by decide)]; rfl) ?_
              exact px_iret dX10_mark_82 rfl (by rw [aMrk_o hnf h11 ⟨k1, h21⟩ h41, mk_3 h52 h70]; exact ⟨rfl, rfl⟩) (rfl)
            · refine px_aload_n dX10_mark_73 rfl rfl ?_
              refine px_fV0i dX10_mark_74 kX10_mark_187 (ob_frame hs (by omega)) hM (Nat.le_of_ble_eq_true rfl) (c_X0_edgePlaces (ob_frame hs (by omega)) hM) ?_
              refine px_top (y := nI (aA B g f) * nI (aD B g f) - nI (fd B g f 8) * nI (fd B g f 9)) (by rw [(cSh_A hsh hf).1, (cSh_A hsh hf).2, hsh.2.2.2.2 f hf 8 (by decide), hsh.2.2.2.2 f hf 9 (by decide)]) ?_
              exact px_iret dX10_mark_77 rfl (by rw [aMrk_o hnf h11 ⟨k1, h21⟩ h41, mk_2 h52 h70]; exact ⟨rfl, rfl⟩) (rfl)
          · refine px_aload_n dX10_mark_55 rfl rfl ?_
            refine px_getI dX10_mark_56 fX10_176 (ob_frame hs (by omega)) hM rfl ?_
            refine px_top (y := nI (fd B g f 8)) (hsh.2.2.2.2 f hf 8 (by decide)) ?_
            refine px_aload_n dX10_mark_59 rfl rfl ?_
            refine px_getI dX10_mark_60 fX10_179 (ob_frame hs (by omega)) hM rfl ?_
            refine px_top (y := nI (fd B g f 9)) (hsh.2.2.2.2 f hf 9 (by decide)) ?_
            refine px_isub dX10_mark_63 ?_
            refine px_abs dX10_mark_64 kX10_mark_182 (Nat.le_of_ble_eq_true rfl) ?_
            exact px_iret dX10_mark_67 rfl (by rw [aMrk_o hnf h11 ⟨k1, h21⟩ h41, mk_1 h52]; exact ⟨rfl, rfl⟩) (rfl)
        · refine px_aload_n dX10_mark_44 rfl rfl ?_
          refine px_iconst dX10_mark_45 ic_3 ?_
          refine px_fV1i dX10_mark_46 kX10_mark_88 (xol rfl) hM (Nat.le_of_ble_eq_true rfl) (c_X10_refuse hM hW (vp_in_nI (n := 3) (by decide) (by decide))) ?_
          exact px_iret dX10_mark_49 rfl (by rw [aMrk_x hnf h11 ⟨k1, h21⟩ h41]; exact ⟨rfl, rfl⟩) (rfl)
      · refine px_iconst dX10_mark_24 ic_m1 ?_
        exact px_iret dX10_mark_25 rfl (by first | (refine ⟨?_, ?_⟩ <;> simp only [aMrk, h11, not_true_eq_false, not_false_eq_true, if_true, if_false, and_self, or_true, true_or, or_false, false_or, true_and, and_true, false_and, and_false, or_self, ite_true, ite_false, reduceIte, oC, oR]; done) | (rw [aMrk_b (fun z => lt1.mpr z.1 h16)]; exact ⟨rfl, rfl⟩) | (rw [aMrk_b (fun z => h21 z.2)]; exact ⟨rfl, rfl⟩)) (rfl)

theorem in_m13 {k : Int32} : zb (1 ≤ k ∧ k ≤ 3) = zb (1 ≤ k ∧ k < 4) := zb_c (by simp only [Int32.le_iff_toInt_le, Int32.lt_iff_toInt_lt, Int32.reduceToInt]; omega)

set_option maxRecDepth 100000 in
theorem c_X11_mark {E : xE} {M : xMem} {n W H B dd : Nat} {g : Nat → Nat → Nat} {S : gLay × Nat} {P : Nat → gLay × Nat} (hc : rHy M n W H B g dd S P) {v k : Int32} : Cf E mX11_mark [.ref 74, .int v, .int k] M (some (.int (aMrk n B g v k).1)) (oR M (aMrk n B g v k).2.1 (aMrk n B g v k).2.2) := by
  refine Ct.of (lo := [some (.ref 74), some (.int v), some (.int k), none, none]) pln_X11 (Nat.le_of_ble_eq_true rfl) rfl (Nat.le_refl _) ?_
  obtain ⟨hM, hW, hsh, hok, hst, hly, hru⟩ := hc
  have h8 : n ≤ 8 := hok.1
  have hb : lyB S.1 := (hsh.s hok).b hly
  have hl : lyM (M.1 83) S.1 := lyM_c hst.2.2.1.1 (fun k _ => by rw [Nat.zero_add])
  refine px_aload_n dX11_mark_0 rfl rfl ?_
  refine px_iload_n dX11_mark_1 rfl rfl ?_
  refine px_fV1i dX11_mark_2 kX11_mark_223 (xol rfl) hM (Nat.le_of_ble_eq_true rfl) (c_X11_isFrame hM) ?_
  refine px_top (y := zb (0 ≤ v ∧ v < nI n)) (by rw [hsh.1]; exact in_m (by omega)) ?_
  refine px_zif_eq 17 dX11_mark_5 rfl (fun h5 => ?_) (fun h5 => ?_)
  · refine px_iconst dX11_mark_17 ic_m1 ?_
    exact px_iret dX11_mark_18 rfl (by first | (rw [aMrk_b h14]; exact ⟨rfl, rfl⟩) | (refine ⟨?_, ?_⟩ <;> simp only [aMrk, h5, not_true_eq_false, not_false_eq_true, if_true, if_false, and_self, or_true, true_or, or_false, false_or, true_and, and_true, false_and, and_false, or_self, ite_true, ite_false, reduceIte, oC, oR]; done)) (rfl)
  · refine px_iload_n dX11_mark_8 rfl rfl ?_
    refine px_iconst dX11_mark_9 ic_1 ?_
    refine px_iconst dX11_mark_10 ic_3 ?_
    refine px_fS3i dX11_mark_11 kX11_mark_75 (Nat.le_of_ble_eq_true rfl) (c_X11_in) ?_
    refine px_top (y := zb (1 ≤ k ∧ k < 4)) in_m13 ?_
    refine px_zif_ne 19 dX11_mark_14 rfl (fun h14 => ?_) (fun h14 => ?_)
    · obtain ⟨f, hf, rfl⟩ := in_nat (by omega) h5
      have hnf : (nI f).toNatClampNeg = f := nI_clamp (by omega)
      have hfi : vp_in (nI f) 8 := vp_in_nI (by omega) (by decide)
      refine px_aload_n dX11_mark_19 rfl rfl ?_
      refine px_iload_n dX11_mark_20 rfl rfl ?_
      refine px_fV1i dX11_mark_21 kX11_mark_201 (xol rfl) hM (Nat.le_of_ble_eq_true rfl) (c_X11_kindOf (by omega) hM hW) ?_
      refine px_top (y := nI (g f 0)) (show mg M f 0 = _ from hsh.2.2.2.2 f hf 0 (by decide)) ?_
      refine px_si_3 dX11_mark_24 rfl ?_
      refine px_iload_n dX11_mark_25 rfl rfl ?_
      refine px_iload_n dX11_mark_26 rfl rfl ?_
      refine px_icmp_eq 46 dX11_mark_27 rfl (fun h27 => ?_) (fun h27 => ?_)
      · refine px_iload_n dX11_mark_46 rfl rfl ?_
        refine px_iconst dX11_mark_47 ic_1 ?_
        refine px_icmp_ne 78 dX11_mark_48 rfl (fun h48 => ?_) (fun h48 => ?_)
        · refine px_iload_n dX11_mark_78 rfl rfl ?_
          refine px_iconst dX11_mark_79 ic_2 ?_
          refine px_icmp_ne 111 dX11_mark_80 rfl (fun h80 => ?_) (fun h80 => ?_)
          · refine px_aload_n dX11_mark_111 rfl rfl ?_
            refine px_iload_n dX11_mark_112 rfl rfl ?_
            refine px_iconst dX11_mark_113 ic_1 ?_
            refine px_fV2i dX11_mark_114 kX11_mark_208 (xol rfl) hM (Nat.le_of_ble_eq_true rfl) (c_X11_of (k := 1) (by omega) (by decide) hM hW) ?_
            refine px_top (y := nI (g f 1)) (show mg M f 1 = _ from hsh.2.2.2.2 f hf 1 (by decide)) ?_
            refine px_aload_n dX11_mark_117 rfl rfl ?_
            refine px_iload_n dX11_mark_118 rfl rfl ?_
            refine px_iconst dX11_mark_119 ic_2 ?_
            refine px_fV2i dX11_mark_120 kX11_mark_208 (xol rfl) hM (Nat.le_of_ble_eq_true rfl) (c_X11_of (k := 2) (by omega) (by decide) hM hW) ?_
            refine px_top (y := nI (g f 2)) (show mg M f 2 = _ from hsh.2.2.2.2 f hf 2 (by decide)) ?_
            refine px_imul dX11_mark_123 ?_
            refine px_aload_n dX11_mark_124 rfl rfl ?_
            refine px_iload_n dX11_mark_125 rfl rfl ?_
            refine px_iconst dX11_mark_126 ic_1 ?_
            refine px_fV2i dX11_mark_127 kX11_mark_208 (xol rfl) hM (Nat.le_of_ble_eq_true rfl) (c_X11_of (k := 1) (by omega) (by decide) hM hW) ?_
            refine px_top (y := nI (g f 1)) (show mg M f 1 = _ from hsh.2.2.2.2 f hf 1 (by decide)) ?_
            refine px_aload_n dX11_mark_130 rfl rfl ?_
            refine px_iload_n dX11_mark_131 rfl rfl ?_
            refine px_iconst dX11_mark_132 ic_3 ?_
            refine px_fV2i dX11_mark_133 kX11_mark_208 (xol rfl) hM (Nat.le_of_ble_eq_true rfl) (c_X11_of (k := 3) (by omega) (by decide) hM hW) ?_
            refine px_top (y := nI (g f 3)) (show mg M f 3 = _ from hsh.2.2.2.2 f hf 3 (by decide)) ?_
            refine px_isub dX11_mark_136 ?_
            refine px_aload_n dX11_mark_137 rfl rfl ?_
            refine px_iload_n dX11_mark_138 rfl rfl ?_
            refine px_iconst dX11_mark_139 ic_5 ?_
            refine px_fV2i dX11_mark_140 kX11_mark_208 (xol rfl) hM (Nat.le_of_ble_eq_true rfl) (c_X11_of (k := 5) (by omega) (by decide) hM hW) ?_
            refine px_top (y := nI (g f 5)) (show mg M f 5 = _ from hsh.2.2.2.2 f hf 5 (by decide)) ?_
            refine px_isub dX11_mark_143 ?_
            refine px_aload_n dX11_mark_144 rfl rfl ?_
            refine px_iload_n dX11_mark_145 rfl rfl ?_
            refine px_iconst dX11_mark_146 ic_2 ?_
            refine px_fV2i dX11_mark_147 kX11_mark_208 (xol rfl) hM (Nat.le_of_ble_eq_true rfl) (c_X11_of (k := 2) (by omega) (by decide) hM hW) ?_
            refine px_top (y := nI (g f 2)) (show mg M f 2 = _ from hsh.2.2.2.2 f hf 2 (by decide)) ?_
            refine px_aload_n dX11_mark_150 rfl rfl ?_
            refine px_iload_n dX11_mark_151 rfl rfl ?_
            refine px_iconst dX11_mark_152 ic_4 ?_
            refine px_fV2i dX11_mark_153 kX11_mark_208 (xol rfl) hM (Nat.le_of_ble_eq_true rfl) (c_X11_of (k := 4) (by omega) (by decide) hM hW) ?_
            refine px_top (y := nI (g f 4)) (show mg M f 4 = _ from hsh.2.2.2.2 f hf 4 (by decide)) ?_
            refine px_isub dX11_mark_156 ?_
            refine px_aload_n dX11_mark_157 rfl rfl ?_
            refine px_iload_n dX11_mark_158 rfl rfl ?_
            refine px_bipush dX11_mark_159 bp_6 ?_
            refine px_fV2i dX11_mark_161 kX11_mark_208 (xol rfl) hM (Nat.le_of_ble_eq_true rfl) (c_X11_of (k := 6) (by omega) (by decide) hM hW) ?_
            refine px_top (y := nI (g f 6)) (show mg M f 6 = _ from hsh.2.2.2.2 f hf 6 (by decide)) ?_
            refine px_isub dX11_mark_164 ?_
            refine px_imul dX11_mark_165 ?_
            refine px_isub dX11_mark_166 ?_
            exact px_iret dX11_mark_167 rfl (by first | exact absurd h37 h48 | (rw [aMrk_o hnf h5 h14 (by first | exact Or.inl h27 | exact Or.inr ⟨h32, h37⟩), mk_2 h48 h80]; exact ⟨rfl, rfl⟩) | (rw [aMrk_o hnf h5 h14 (by first | exact Or.inl h27 | exact Or.inr ⟨h32, h37⟩), mk_3 h48 h80]; exact ⟨rfl, rfl⟩)) (rfl)
          · refine px_aload_n dX11_mark_83 rfl rfl ?_
            refine px_iload_n dX11_mark_84 rfl rfl ?_
            refine px_iconst dX11_mark_85 ic_0 ?_
            refine px_fV2i dX11_mark_86 kX11_mark_220 (xol rfl) hM (Nat.le_of_ble_eq_true rfl) (c_X11_needX (by omega) hM hW) ?_
            refine px_top (y := nI (aA B g f)) (mSh_A hsh hok hf).1 ?_
            refine px_aload_n dX11_mark_89 rfl rfl ?_
            refine px_iload_n dX11_mark_90 rfl rfl ?_
            refine px_iconst dX11_mark_91 ic_0 ?_
            refine px_fV2i dX11_mark_92 kX11_mark_229 (xol rfl) hM (Nat.le_of_ble_eq_true rfl) (c_X11_needY (by omega) hM hW) ?_
            refine px_top (y := nI (aD B g f)) (mSh_A hsh hok hf).2.2 ?_
            refine px_imul dX11_mark_95 ?_
            refine px_aload_n dX11_mark_96 rfl rfl ?_
            refine px_iload_n dX11_mark_97 rfl rfl ?_
            refine px_fV1i dX11_mark_98 kX11_mark_214 (xol rfl) hM (Nat.le_of_ble_eq_true rfl) (c_X11_across (by omega) hM hW) ?_
            refine px_top (y := nI (fd B g f 8)) (mSh_f hsh hok hf).2.1 ?_
            refine px_aload_n dX11_mark_101 rfl rfl ?_
            refine px_iload_n dX11_mark_102 rfl rfl ?_
            refine px_fV1i dX11_mark_103 kX11_mark_217 (xol rfl) hM (Nat.le_of_ble_eq_true rfl) (c_X11_down (by omega) hM hW) ?_
            refine px_top (y := nI (fd B g f 9)) (mSh_f hsh hok hf).2.2.1 ?_
            refine px_imul dX11_mark_106 ?_
            refine px_isub dX11_mark_107 ?_
            refine px_goto 167 dX11_mark_108 rfl ?_
            exact px_iret dX11_mark_167 rfl (by first | exact absurd h37 h48 | (rw [aMrk_o hnf h5 h14 (by first | exact Or.inl h27 | exact Or.inr ⟨h32, h37⟩), mk_2 h48 h80]; exact ⟨rfl, rfl⟩) | (rw [aMrk_o hnf h5 h14 (by first | exact Or.inl h27 | exact Or.inr ⟨h32, h37⟩), mk_3 h48 h80]; exact ⟨rfl, rfl⟩)) (rfl)
        · refine px_aload_n dX11_mark_51 rfl rfl ?_
          refine px_iload_n dX11_mark_52 rfl rfl ?_
          refine px_fV1i dX11_mark_53 kX11_mark_214 (xol rfl) hM (Nat.le_of_ble_eq_true rfl) (c_X11_across (by omega) hM hW) ?_
          refine px_top (y := nI (fd B g f 8)) (mSh_f hsh hok hf).2.1 ?_
          refine px_aload_n dX11_mark_56 rfl rfl ?_
          refine px_iload_n dX11_mark_57 rfl rfl ?_
          refine px_fV1i dX11_mark_58 kX11_mark_217 (xol rfl) hM (Nat.le_of_ble_eq_true rfl) (c_X11_down (by omega) hM hW) ?_
          refine px_top (y := nI (fd B g f 9)) (mSh_f hsh hok hf).2.2.1 ?_
          refine px_isub dX11_mark_61 ?_
          refine px_si_4 dX11_mark_62 rfl ?_
          refine px_iload dX11_mark_64 rfl ?_
          refine px_if_ge 75 dX11_mark_66 rfl (fun h66 => ?_) (fun h66 => ?_)
          · refine px_iload dX11_mark_75 rfl ?_
            exact px_iret dX11_mark_77 rfl (by rw [aMrk_o hnf h5 h14 (by first | exact Or.inl h27 | exact Or.inr ⟨h32, h37⟩), mk_1 h48]; first | (rw [if_pos h66]; exact ⟨rfl, rfl⟩) | (rw [if_neg h66]; exact ⟨rfl, rfl⟩)) (rfl)
          · refine px_iload dX11_mark_69 rfl ?_
            refine px_ineg dX11_mark_71 ?_
            refine px_goto 77 dX11_mark_72 rfl ?_
            exact px_iret dX11_mark_77 rfl (by rw [aMrk_o hnf h5 h14 (by first | exact Or.inl h27 | exact Or.inr ⟨h32, h37⟩), mk_1 h48]; first | (rw [if_pos h66]; exact ⟨rfl, rfl⟩) | (rw [if_neg h66]; exact ⟨rfl, rfl⟩)) (rfl)
      · refine px_iload_n dX11_mark_30 rfl rfl ?_
        refine px_iconst dX11_mark_31 ic_3 ?_
        refine px_icmp_ne 40 dX11_mark_32 rfl (fun h32 => ?_) (fun h32 => ?_)
        · refine px_aload_n dX11_mark_40 rfl rfl ?_
          refine px_iconst dX11_mark_41 ic_3 ?_
          refine px_fV1i dX11_mark_42 kX11_mark_83 (xol rfl) hM (Nat.le_of_ble_eq_true rfl) (c_X11_found hM hW (vp_in_nI (n := 3) (by decide) (by decide))) ?_
          exact px_iret dX11_mark_45 rfl (by rw [aMrk_x hnf h5 h14 (by rintro (z | z); exact h27 z; first | exact h32 z.1 | exact h37 z.2)]; exact ⟨rfl, rfl⟩) (rfl)
        · refine px_iload_n dX11_mark_35 rfl rfl ?_
          refine px_iconst dX11_mark_36 ic_1 ?_
          refine px_icmp_eq 46 dX11_mark_37 rfl (fun h37 => ?_) (fun h37 => ?_)
          · refine px_iload_n dX11_mark_46 rfl rfl ?_
            refine px_iconst dX11_mark_47 ic_1 ?_
            refine px_icmp_ne 78 dX11_mark_48 rfl (fun h48 => ?_) (fun h48 => ?_)
            · refine px_iload_n dX11_mark_78 rfl rfl ?_
              refine px_iconst dX11_mark_79 ic_2 ?_
              refine px_icmp_ne 111 dX11_mark_80 rfl (fun h80 => ?_) (fun h80 => ?_)
              · refine px_aload_n dX11_mark_111 rfl rfl ?_
                refine px_iload_n dX11_mark_112 rfl rfl ?_
                refine px_iconst dX11_mark_113 ic_1 ?_
                refine px_fV2i dX11_mark_114 kX11_mark_208 (xol rfl) hM (Nat.le_of_ble_eq_true rfl) (c_X11_of (k := 1) (by omega) (by decide) hM hW) ?_
                refine px_top (y := nI (g f 1)) (show mg M f 1 = _ from hsh.2.2.2.2 f hf 1 (by decide)) ?_
                refine px_aload_n dX11_mark_117 rfl rfl ?_
                refine px_iload_n dX11_mark_118 rfl rfl ?_
                refine px_iconst dX11_mark_119 ic_2 ?_
                refine px_fV2i dX11_mark_120 kX11_mark_208 (xol rfl) hM (Nat.le_of_ble_eq_true rfl) (c_X11_of (k := 2) (by omega) (by decide) hM hW) ?_
                refine px_top (y := nI (g f 2)) (show mg M f 2 = _ from hsh.2.2.2.2 f hf 2 (by decide)) ?_
                refine px_imul dX11_mark_123 ?_
                refine px_aload_n dX11_mark_124 rfl rfl ?_
                refine px_iload_n dX11_mark_125 rfl rfl ?_
                refine px_iconst dX11_mark_126 ic_1 ?_
                refine px_fV2i dX11_mark_127 kX11_mark_208 (xol rfl) hM (Nat.le_of_ble_eq_true rfl) (c_X11_of (k := 1) (by omega) (by decide) hM hW) ?_
                refine px_top (y := nI (g f 1)) (show mg M f 1 = _ from hsh.2.2.2.2 f hf 1 (by decide)) ?_
                refine px_aload_n dX11_mark_130 rfl rfl ?_
                refine px_iload_n dX11_mark_131 rfl rfl ?_
                refine px_iconst dX11_mark_132 ic_3 ?_
                refine px_fV2i dX11_mark_133 kX11_mark_208 (xol rfl) hM (Nat.le_of_ble_eq_true rfl) (c_X11_of (k := 3) (by omega) (by decide) hM hW) ?_
                refine px_top (y := nI (g f 3)) (show mg M f 3 = _ from hsh.2.2.2.2 f hf 3 (by decide)) ?_
                refine px_isub dX11_mark_136 ?_
                refine px_aload_n dX11_mark_137 rfl rfl ?_
                refine px_iload_n dX11_mark_138 rfl rfl ?_
                refine px_iconst dX11_mark_139 ic_5 ?_
                refine px_fV2i dX11_mark_140 kX11_mark_208 (xol rfl) hM (Nat.le_of_ble_eq_true rfl) (c_X11_of (k := 5) (by omega) (by decide) hM hW) ?_
                refine px_top (y := nI (g f 5)) (show mg M f 5 = _ from hsh.2.2.2.2 f hf 5 (by decide)) ?_
                refine px_isub dX11_mark_143 ?_
                refine px_aload_n dX11_mark_144 rfl rfl ?_
                refine px_iload_n dX11_mark_145 rfl rfl ?_
                refine px_iconst dX11_mark_146 ic_2 ?_
                refine px_fV2i dX11_mark_147 kX11_mark_208 (xol rfl) hM (Nat.le_of_ble_eq_true rfl) (c_X11_of (k := 2) (by omega) (by decide) hM hW) ?_
                refine px_top (y := nI (g f 2)) (show mg M f 2 = _ from hsh.2.2.2.2 f hf 2 (by decide)) ?_
                refine px_aload_n dX11_mark_150 rfl rfl ?_
                refine px_iload_n dX11_mark_151 rfl rfl ?_
                refine px_iconst dX11_mark_152 ic_4 ?_
                refine px_fV2i dX11_mark_153 kX11_mark_208 (xol rfl) hM (Nat.le_of_ble_eq_true rfl) (c_X11_of (k := 4) (by omega) (by decide) hM hW) ?_
                refine px_top (y := nI (g f 4)) (show mg M f 4 = _ from hsh.2.2.2.2 f hf 4 (by decide)) ?_
                refine px_isub dX11_mark_156 ?_
                refine px_aload_n dX11_mark_157 rfl rfl ?_
                refine px_iload_n dX11_mark_158 rfl rfl ?_
                refine px_bipush dX11_mark_159 bp_6 ?_
                refine px_fV2i dX11_mark_161 kX11_mark_208 (xol rfl) hM (Nat.le_of_ble_eq_true rfl) (c_X11_of (k := 6) (by omega) (by decide) hM hW) ?_
                refine px_top (y := nI (g f 6)) (show mg M f 6 = _ from hsh.2.2.2.2 f hf 6 (by decide)) ?_
                refine px_isub dX11_mark_164 ?_
                refine px_imul dX11_mark_165 ?_
                refine px_isub dX11_mark_166 ?_
                exact px_iret dX11_mark_167 rfl (by first | exact absurd h37 h48 | (rw [aMrk_o hnf h5 h14 (by first | exact Or.inl h27 | exact Or.inr ⟨h32, h37⟩), mk_2 h48 h80]; exact ⟨rfl, rfl⟩) | (rw [aMrk_o hnf h5 h14 (by first | exact Or.inl h27 | exact Or.inr ⟨h32, h37⟩), mk_3 h48 h80]; exact ⟨rfl, rfl⟩)) (rfl)
              · refine px_aload_n dX11_mark_83 rfl rfl ?_
                refine px_iload_n dX11_mark_84 rfl rfl ?_
                refine px_iconst dX11_mark_85 ic_0 ?_
                refine px_fV2i dX11_mark_86 kX11_mark_220 (xol rfl) hM (Nat.le_of_ble_eq_true rfl) (c_X11_needX (by omega) hM hW) ?_
                refine px_top (y := nI (aA B g f)) (mSh_A hsh hok hf).1 ?_
                refine px_aload_n dX11_mark_89 rfl rfl ?_
                refine px_iload_n dX11_mark_90 rfl rfl ?_
                refine px_iconst dX11_mark_91 ic_0 ?_
                refine px_fV2i dX11_mark_92 kX11_mark_229 (xol rfl) hM (Nat.le_of_ble_eq_true rfl) (c_X11_needY (by omega) hM hW) ?_
                refine px_top (y := nI (aD B g f)) (mSh_A hsh hok hf).2.2 ?_
                refine px_imul dX11_mark_95 ?_
                refine px_aload_n dX11_mark_96 rfl rfl ?_
                refine px_iload_n dX11_mark_97 rfl rfl ?_
                refine px_fV1i dX11_mark_98 kX11_mark_214 (xol rfl) hM (Nat.le_of_ble_eq_true rfl) (c_X11_across (by omega) hM hW) ?_
                refine px_top (y := nI (fd B g f 8)) (mSh_f hsh hok hf).2.1 ?_
                refine px_aload_n dX11_mark_101 rfl rfl ?_
                refine px_iload_n dX11_mark_102 rfl rfl ?_
                refine px_fV1i dX11_mark_103 kX11_mark_217 (xol rfl) hM (Nat.le_of_ble_eq_true rfl) (c_X11_down (by omega) hM hW) ?_
                refine px_top (y := nI (fd B g f 9)) (mSh_f hsh hok hf).2.2.1 ?_
                refine px_imul dX11_mark_106 ?_
                refine px_isub dX11_mark_107 ?_
                refine px_goto 167 dX11_mark_108 rfl ?_
                exact px_iret dX11_mark_167 rfl (by first | exact absurd h37 h48 | (rw [aMrk_o hnf h5 h14 (by first | exact Or.inl h27 | exact Or.inr ⟨h32, h37⟩), mk_2 h48 h80]; exact ⟨rfl, rfl⟩) | (rw [aMrk_o hnf h5 h14 (by first | exact Or.inl h27 | exact Or.inr ⟨h32, h37⟩), mk_3 h48 h80]; exact ⟨rfl, rfl⟩)) (rfl)
            · refine px_aload_n dX11_mark_51 rfl rfl ?_
              refine px_iload_n dX11_mark_52 rfl rfl ?_
              refine px_fV1i dX11_mark_53 kX11_mark_214 (xol rfl) hM (Nat.le_of_ble_eq_true rfl) (c_X11_across (by omega) hM hW) ?_
              refine px_top (y := nI (fd B g f 8)) (mSh_f hsh hok hf).2.1 ?_
              refine px_aload_n dX11_mark_56 rfl rfl ?_
              refine px_iload_n dX11_mark_57 rfl rfl ?_
              refine px_fV1i dX11_mark_58 kX11_mark_217 (xol rfl) hM (Nat.le_of_ble_eq_true rfl) (c_X11_down (by omega) hM hW) ?_
              refine px_top (y := nI (fd B g f 9)) (mSh_f hsh hok hf).2.2.1 ?_
              refine px_isub dX11_mark_61 ?_
              refine px_si_4 dX11_mark_62 rfl ?_
              refine px_iload dX11_mark_64 rfl ?_
              refine px_if_ge 75 dX11_mark_66 rfl (fun h66 => ?_) (fun h66 => ?_)
              · refine px_iload dX11_mark_75 rfl ?_
                exact px_iret dX11_mark_77 rfl (by rw [aMrk_o hnf h5 h14 (by first | exact Or.inl h27 | exact Or.inr ⟨h32, h37⟩), mk_1 h48]; first | (rw [if_pos h66]; exact ⟨rfl, rfl⟩) | (rw [if_neg h66]; exact ⟨rfl, rfl⟩)) (rfl)
              · refine px_iload dX11_mark_69 rfl ?_
                refine px_ineg dX11_mark_71 ?_
                refine px_goto 77 dX11_mark_72 rfl ?_
                exact px_iret dX11_mark_77 rfl (by rw [aMrk_o hnf h5 h14 (by first | exact Or.inl h27 | exact Or.inr ⟨h32, h37⟩), mk_1 h48]; first | (rw [if_pos h66]; exact ⟨rfl, rfl⟩) | (rw [if_neg h66]; exact ⟨rfl, rfl⟩)) (rfl)
          · refine px_aload_n dX11_mark_40 rfl rfl ?_
            refine px_iconst dX11_mark_41 ic_3 ?_
            refine px_fV1i dX11_mark_42 kX11_mark_83 (xol rfl) hM (Nat.le_of_ble_eq_true rfl) (c_X11_found hM hW (vp_in_nI (n := 3) (by decide) (by decide))) ?_
            exact px_iret dX11_mark_45 rfl (by rw [aMrk_x hnf h5 h14 (by rintro (z | z); exact h27 z; first | exact h32 z.1 | exact h37 z.2)]; exact ⟨rfl, rfl⟩) (rfl)
    · refine px_iconst dX11_mark_17 ic_m1 ?_
      exact px_iret dX11_mark_18 rfl (by first | (rw [aMrk_b h14]; exact ⟨rfl, rfl⟩) | (refine ⟨?_, ?_⟩ <;> simp only [aMrk, h5, not_true_eq_false, not_false_eq_true, if_true, if_false, and_self, or_true, true_or, or_false, false_or, true_and, and_true, false_and, and_false, or_self, ite_true, ite_false, reduceIte, oC, oR]; done)) (rfl)
