/-! ===== writesWord, reference ===== -/
def ppW (w k : Nat) : Int32 := if k < xslen.getD w 0 then nI (27 ^ (xslen.getD w 0 - 1 - k)) else 0
theorem wwF : ∀ w, w < 6 → ∀ k, k < xslen.getD w 0 → ¬ ppW w k ≤ 0 ∧ ¬ ppW w k = 0 ∧ ppW w k / 27 = ppW w (k + 1) ∧ 96 + (nI (wC w) / ppW w k - nI (wC w) / ppW w k / 27 * 27) = sch w k := by decide +kernel
theorem wwG : ∀ w, w < 6 → ∀ k, k < xslen.getD w 0 → ¬ nI (27 ^ k) = 0 ∧ (k + 1 < xslen.getD w 0 → ¬ nI (wC w) / nI (27 ^ k) < 27 ∧ nI (27 ^ k) * 27 = nI (27 ^ (k + 1))) ∧ (k + 1 = xslen.getD w 0 → nI (wC w) / nI (27 ^ k) < 27 ∧ nI (27 ^ k) = ppW w 0) := by decide +kernel
theorem wwE : ∀ w, w < 6 → ppW w (xslen.getD w 0) ≤ 0 ∧ 0 < xslen.getD w 0 := by decide +kernel

set_option maxRecDepth 100000 in
theorem l_ww18 {E : xE} {M : xMem} {s : aW} {w : Nat} (hM : xNT ≤ xN M) (hW : xWire M.2.1) (hw : w < 6) (hs : scG M 74 24 84 s) (hb : s.1 < 980) : ∀ m, wrG 74 24 84 M m → scG m 74 24 84 (adWn s w 0) → PR E mX11_writesWord (xN M) 18 [some (.ref 74), some (.int (nI (wC w))), some (.int (ppW w 0))] [] (m) (fun r m => r = none ∧ wrG 74 24 84 M m ∧ scG m 74 24 84 (adW s w)) := by
  have hL := sln_lt w hw
  refine px_for (P := fun i => ∀ m, wrG 74 24 84 M m → scG m 74 24 84 (adWn s w i) → PR E mX11_writesWord (xN M) 18 [some (.ref 74), some (.int (nI (wC w))), some (.int (ppW w i))] [] (m) (fun r m => r = none ∧ wrG 74 24 84 M m ∧ scG m 74 24 84 (adW s w))) (xslen.getD w 0) (fun i hi nx => ?_) (0) (Nat.zero_le _)
  intro m g1 g2
  have hnm : xN m = xN M := by show m.2.2.2 = M.2.2.2; rw [g1.1]
  have hM : xNT ≤ xN m := by rw [hnm]; exact hM
  have hW : xWire m.2.1 := by rw [g1.1]; exact hW
  refine px_iload_n dX11_writesWord_18 rfl rfl ?_
  refine px_if_le 43 dX11_writesWord_19 rfl (fun h19 => ?_) (fun h19 => ?_)
  · have hi2 : i = xslen.getD w 0 := by
      rcases Nat.lt_or_ge i (xslen.getD w 0) with z | z
      · exact absurd h19 (wwF w hw i z).1
      · omega
    exact px_ret dX11_writesWord_43 rfl (by rw [hi2] at g2; exact ⟨rfl, g1, g2⟩) (by first | exact hnm | exact hn32.trans hnm)
  · have hlt : i < xslen.getD w 0 := by
      rcases Nat.lt_or_ge i (xslen.getD w 0) with z | z
      · exact z
      · have e : i = xslen.getD w 0 := by omega
        rw [e] at h19
        exact absurd (wwE w hw).1 h19
    obtain ⟨f1, f2, f3, f4⟩ := wwF w hw i hlt
    refine px_aload_n dX11_writesWord_22 rfl rfl ?_
    refine px_bipush dX11_writesWord_23 bp_96 ?_
    refine px_iload_n dX11_writesWord_25 rfl rfl ?_
    refine px_iload_n dX11_writesWord_26 rfl rfl ?_
    refine px_idiv dX11_writesWord_27 f2 ?_
    refine px_bipush dX11_writesWord_28 bp_27 ?_
    refine px_irem dX11_writesWord_30 (by decide) ?_
    refine px_iadd dX11_writesWord_31 ?_
    refine px_top (y := sch w i) f4 ?_
    refine px_gV1 dX11_writesWord_32 kX11_writesWord_191 (xol rfl) hM (Nat.le_of_ble_eq_true rfl) (c_X11_writes hM hW g2 (by rw [adWn_b]; omega)) (fun r32 M32 hq32 hn32 => ?_)
    obtain ⟨rfl, q32, s32⟩ := hq32
    refine px_iload_n dX11_writesWord_35 rfl rfl ?_
    refine px_bipush dX11_writesWord_36 bp_27 ?_
    refine px_idiv dX11_writesWord_38 (by decide) ?_
    refine px_si_2 dX11_writesWord_39 rfl ?_
    refine px_goto 18 dX11_writesWord_40 rfl ?_
    exact px_eq (by rw [f3]) rfl (nx hlt _ (wrGtr g1 q32) s32)

set_option maxRecDepth 100000 in
theorem l_ww2 {E : xE} {M : xMem} {s : aW} {w : Nat} (hM : xNT ≤ xN M) (hW : xWire M.2.1) (hw : w < 6) (hs : scG M 74 24 84 s) (hb : s.1 < 980) : PR E mX11_writesWord (xN M) 2 [some (.ref 74), some (.int (nI (wC w))), some (.int (nI (27 ^ 0)))] [] (M) (fun r m => r = none ∧ wrG 74 24 84 M m ∧ scG m 74 24 84 (adW s w)) := by
  have hL := sln_lt w hw
  have hL0 := (wwE w hw).2
  refine px_for (P := fun i => PR E mX11_writesWord (xN M) 2 [some (.ref 74), some (.int (nI (wC w))), some (.int (nI (27 ^ i)))] [] (M) (fun r m => r = none ∧ wrG 74 24 84 M m ∧ scG m 74 24 84 (adW s w))) (xslen.getD w 0 - 1) (fun i hi nx => ?_) (0) (Nat.zero_le _)
  obtain ⟨f1, f2, f3⟩ := wwG w hw i (by omega)
  refine px_iload_n dX11_writesWord_2 rfl rfl ?_
  refine px_iload_n dX11_writesWord_3 rfl rfl ?_
  refine px_idiv dX11_writesWord_4 f1 ?_
  refine px_bipush dX11_writesWord_5 bp_27 ?_
  refine px_icmp_lt 18 dX11_writesWord_7 rfl (fun h7 => ?_) (fun h7 => ?_)
  · have hi2 : i + 1 = xslen.getD w 0 := by
      rcases Nat.lt_or_ge (i + 1) (xslen.getD w 0) with z | z
      · exact absurd h7 (f2 z).1
      · omega
    exact px_eq (by rw [(f3 hi2).2]) rfl (l_ww18 hM hW hw hs hb M (wrGrf _ _ _ M) hs)
  · have hlt : i < xslen.getD w 0 - 1 := by
      rcases Nat.lt_or_ge i (xslen.getD w 0 - 1) with z | z
      · exact z
      · exact absurd (f3 (by omega)).1 h7
    refine px_iload_n dX11_writesWord_10 rfl rfl ?_
    refine px_bipush dX11_writesWord_11 bp_27 ?_
    refine px_imul dX11_writesWord_13 ?_
    refine px_si_2 dX11_writesWord_14 rfl ?_
    refine px_goto 2 dX11_writesWord_15 rfl ?_
    exact px_eq (by rw [(f2 (by omega)).2]) rfl (nx hlt)

set_option maxRecDepth 100000 in
theorem c_X11_writesWord {E : xE} {M : xMem} {s : aW} {w : Nat} (hM : xNT ≤ xN M) (hW : xWire M.2.1) (hw : w < 6) (hs : scG M 74 24 84 s) (hb : s.1 < 980) : Ct E mX11_writesWord [.ref 74, .int (nI (wC w))] M (xN M) (fun r m => r = none ∧ wrG 74 24 84 M m ∧ scG m 74 24 84 (adW s w)) := by
  refine Ct.of (lo := [some (.ref 74), some (.int (nI (wC w))), none]) pln_X11 (Nat.le_of_ble_eq_true rfl) rfl (Nat.le_refl _) ?_
  refine px_iconst dX11_writesWord_0 ic_1 ?_
  refine px_si_2 dX11_writesWord_1 rfl ?_
  exact l_ww2 hM hW hw hs hb
