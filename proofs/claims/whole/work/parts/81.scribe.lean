/-! ===== the scribe: words, frames, sheets ===== -/
theorem cShw {M m : xMem} {s n W H B : Nat} {g : Nat → Nat → Nat} (h : wrG 22 1 23 M m) (hs : xob s 7) (h8 : n ≤ 8) (hc : cSh M s n W H B g) : cSh m s n W H B g := by
  have h7 := xob_7 hs
  have e : ∀ a, a ≠ 22 → a ≠ 23 → m.1 a = M.1 a := h.2.1
  refine ⟨by rw [e s (by omega) (by omega)]; exact hc.1, by rw [e s (by omega) (by omega)]; exact hc.2.1, by rw [e s (by omega) (by omega)]; exact hc.2.2.1, by rw [e s (by omega) (by omega)]; exact hc.2.2.2.1, fun f hf j hj => ?_⟩
  rw [e (fA s f) (show s + 1 + 1 + f ≠ 22 by omega) (show s + 1 + 1 + f ≠ 23 by omega)]
  exact hc.2.2.2.2 f hf j hj

set_option maxRecDepth 100000 in
theorem l_aw2 {E : xE} {M : xMem} {s : aW} {w : Nat} (hM : xNT ≤ xN M) (hW : xWire M.2.1) (hw : w < 6) (hs : scG M 22 1 23 s) (hb : s.1 < 980) : ∀ m, wrG 22 1 23 M m → scG m 22 1 23 (adWn s w 0) → PR E mX6_addWord (xN M) 2 [some (.ref 22), some (.ref (1000 + w)), some (.int (nI 0))] [] (m) (fun r m => r = none ∧ wrG 22 1 23 M m ∧ scG m 22 1 23 (adW s w)) := by
  have hL := sln_lt w hw
  refine px_for (P := fun i => ∀ m, wrG 22 1 23 M m → scG m 22 1 23 (adWn s w i) → PR E mX6_addWord (xN M) 2 [some (.ref 22), some (.ref (1000 + w)), some (.int (nI i))] [] (m) (fun r m => r = none ∧ wrG 22 1 23 M m ∧ scG m 22 1 23 (adW s w))) (xslen.getD w 0) (fun i hi nx => ?_) (0) (Nat.zero_le _)
  intro m g1 g2
  have hnm : xN m = xN M := by show m.2.2.2 = M.2.2.2; rw [g1.1]
  have hM : xNT ≤ xN m := by rw [hnm]; exact hM
  have hW : xWire m.2.1 := by rw [g1.1]; exact hW
  refine px_iload_n dX6_addWord_2 rfl rfl ?_
  refine px_aload_n dX6_addWord_3 rfl rfl ?_
  refine px_len hw dX6_addWord_4 xw657 (Nat.le_of_ble_eq_true rfl) (Nat.le_of_ble_eq_true rfl) (Nat.le_of_ble_eq_true rfl) ?_
  refine px_icmp_ge 25 dX6_addWord_7 rfl (fun h7 => ?_) (fun h7 => ?_)
  · have hi2 : i = xslen.getD w 0 := by rw [nI_leI (by omega) (by omega)] at h7; omega
    exact px_ret dX6_addWord_25 rfl (by rw [hi2] at g2; exact ⟨rfl, g1, g2⟩) (by first | exact hnm | exact hn16.trans hnm)
  · have hlt : i < xslen.getD w 0 := by rw [nI_leI (by omega) (by omega)] at h7; omega
    refine px_aload_n dX6_addWord_10 rfl rfl ?_
    refine px_aload_n dX6_addWord_11 rfl rfl ?_
    refine px_iload_n dX6_addWord_12 rfl rfl ?_
    refine px_chr hw hlt dX6_addWord_13 xw658 (Nat.le_of_ble_eq_true rfl) (Nat.le_of_ble_eq_true rfl) (Nat.le_of_ble_eq_true rfl) ?_
    refine px_gV1 dX6_addWord_16 kX6_addWord_37 (xol rfl) hM (Nat.le_of_ble_eq_true rfl) (c_X6_addSign hM hW g2 (by rw [adWn_b]; omega)) (fun r16 M16 hq16 hn16 => ?_)
    obtain ⟨rfl, q16, s16⟩ := hq16
    refine px_inc_2 dX6_addWord_19 rfl ic_1 ?_
    refine px_goto 2 dX6_addWord_22 rfl ?_
    exact px_eq (by rw [nI_1]) rfl (nx hlt _ (wrGtr g1 q16) s16)

set_option maxRecDepth 100000 in
theorem c_X6_addWord {E : xE} {M : xMem} {s : aW} {w : Nat} (hM : xNT ≤ xN M) (hW : xWire M.2.1) (hw : w < 6) (hs : scG M 22 1 23 s) (hb : s.1 < 980) : Ct E mX6_addWord [.ref 22, .ref (1000 + w)] M (xN M) (fun r m => r = none ∧ wrG 22 1 23 M m ∧ scG m 22 1 23 (adW s w)) := by
  refine Ct.of (lo := [some (.ref 22), some (.ref (1000 + w)), none]) pln_X6 (Nat.le_of_ble_eq_true rfl) rfl (Nat.le_refl _) ?_
  refine px_iconst dX6_addWord_0 ic_0 ?_
  refine px_si_2 dX6_addWord_1 rfl ?_
  exact l_aw2 hM hW hw hs hb M (wrGrf _ _ _ M) hs

set_option maxRecDepth 100000 in
theorem c_X6_writeFrame {E : xE} {M : xMem} {s : aW} {g : Nat → Nat} {fr : Nat} (hM : xNT ≤ xN M) (hW : xWire M.2.1) (hs : scG M 22 1 23 s) (hb : s.1 < 900) (hfr : xob fr 0) (n22 : fr ≠ 22) (n23 : fr ≠ 23) (hg : ∀ k, k < 7 → M.1 fr k = nI (g k)) (h03 : g 0 ≤ 3) : Ct E mX6_writeFrame [.ref 22, .ref fr] M (xN M) (fun r m => r = none ∧ wrG 22 1 23 M m ∧ scG m 22 1 23 (adF s g)) := by
  refine Ct.of (lo := [some (.ref 22), some (.ref fr)]) pln_X6 (Nat.le_of_ble_eq_true rfl) rfl (Nat.le_refl _) ?_
  refine px_aload_n dX6_writeFrame_0 rfl rfl ?_
  refine px_aload_n dX6_writeFrame_1 rfl rfl ?_
  refine px_getI dX6_writeFrame_2 fX6_53 hfr hM rfl ?_
  refine px_top (y := nI (g 0)) (hg 0 (by decide)) ?_
  refine px_fSN1i dX6_writeFrame_5 kX6_writeFrame_58 (Nat.le_of_ble_eq_true rfl) (c_wordOf (k := g 0) (by omega)) ?_
  refine px_gV1 dX6_writeFrame_8 kX6_writeFrame_21 (xol rfl) hM (Nat.le_of_ble_eq_true rfl) (c_X6_addWord (w := g 0 + 2) hM hW (by omega) hs (by omega)) (fun r8 M8 hq8 hn8 => ?_)
  obtain ⟨rfl, q8, s8⟩ := hq8
  have hM : xNT ≤ xN M8 := by rw [hn8]; exact hM
  have hW : xWire M8.2.1 := by rw [q8.1]; exact hW
  have hg : ∀ k, k < 7 → M8.1 fr k = nI (g k) := fun k hk => by rw [q8.2.1 fr n22 n23]; exact hg k hk
  have b0 := adW_b s (i := g 0 + 2) (by omega)
  have b1 := adNs_b (adW s (g 0 + 2)) g 1
  have b2 := adNs_b (adW s (g 0 + 2)) g 2
  have b3 := adNs_b (adW s (g 0 + 2)) g 3
  have b4 := adNs_b (adW s (g 0 + 2)) g 4
  have b5 := adNs_b (adW s (g 0 + 2)) g 5
  have b6 := adNs_b (adW s (g 0 + 2)) g 6
  refine px_aload_n dX6_writeFrame_11 rfl rfl ?_
  refine px_aload_n dX6_writeFrame_12 rfl rfl ?_
  refine px_getI dX6_writeFrame_13 fX6_62 hfr hM rfl ?_
  refine px_top (y := nI (g 1)) (hg 1 (by decide)) ?_
  refine px_gV1 dX6_writeFrame_16 kX6_writeFrame_30 (xol rfl) hM (Nat.le_of_ble_eq_true rfl) (c_X6_addNumber (s := adNs (adW s (g 0 + 2)) g 0) (x := nI (g 1)) hM hW s8 (by show (adW s (g 0 + 2)).1 < 990; omega)) (fun r16 M16 hq16 hn16 => ?_)
  obtain ⟨rfl, q16, s16⟩ := hq16
  have hM : xNT ≤ xN M16 := by rw [hn16]; exact hM
  have hW : xWire M16.2.1 := by rw [q16.1]; exact hW
  have hg : ∀ k, k < 7 → M16.1 fr k = nI (g k) := fun k hk => by rw [q16.2.1 fr n22 n23]; exact hg k hk
  refine px_aload_n dX6_writeFrame_19 rfl rfl ?_
  refine px_aload_n dX6_writeFrame_20 rfl rfl ?_
  refine px_getI dX6_writeFrame_21 fX6_65 hfr hM rfl ?_
  refine px_top (y := nI (g 2)) (hg 2 (by decide)) ?_
  refine px_gV1 dX6_writeFrame_24 kX6_writeFrame_30 (xol rfl) hM (Nat.le_of_ble_eq_true rfl) (c_X6_addNumber (s := adNs (adW s (g 0 + 2)) g 1) (x := nI (g 2)) hM hW s16 (by omega)) (fun r24 M24 hq24 hn24 => ?_)
  obtain ⟨rfl, q24, s24⟩ := hq24
  have hM : xNT ≤ xN M24 := by rw [hn24]; exact hM
  have hW : xWire M24.2.1 := by rw [q24.1]; exact hW
  have hg : ∀ k, k < 7 → M24.1 fr k = nI (g k) := fun k hk => by rw [q24.2.1 fr n22 n23]; exact hg k hk
  refine px_aload_n dX6_writeFrame_27 rfl rfl ?_
  refine px_aload_n dX6_writeFrame_28 rfl rfl ?_
  refine px_getI dX6_writeFrame_29 fX6_68 hfr hM rfl ?_
  refine px_top (y := nI (g 3)) (hg 3 (by decide)) ?_
  refine px_gV1 dX6_writeFrame_32 kX6_writeFrame_30 (xol rfl) hM (Nat.le_of_ble_eq_true rfl) (c_X6_addNumber (s := adNs (adW s (g 0 + 2)) g 2) (x := nI (g 3)) hM hW s24 (by omega)) (fun r32 M32 hq32 hn32 => ?_)
  obtain ⟨rfl, q32, s32⟩ := hq32
  have hM : xNT ≤ xN M32 := by rw [hn32]; exact hM
  have hW : xWire M32.2.1 := by rw [q32.1]; exact hW
  have hg : ∀ k, k < 7 → M32.1 fr k = nI (g k) := fun k hk => by rw [q32.2.1 fr n22 n23]; exact hg k hk
  refine px_aload_n dX6_writeFrame_35 rfl rfl ?_
  refine px_aload_n dX6_writeFrame_36 rfl rfl ?_
  refine px_getI dX6_writeFrame_37 fX6_71 hfr hM rfl ?_
  refine px_top (y := nI (g 4)) (hg 4 (by decide)) ?_
  refine px_gV1 dX6_writeFrame_40 kX6_writeFrame_30 (xol rfl) hM (Nat.le_of_ble_eq_true rfl) (c_X6_addNumber (s := adNs (adW s (g 0 + 2)) g 3) (x := nI (g 4)) hM hW s32 (by omega)) (fun r40 M40 hq40 hn40 => ?_)
  obtain ⟨rfl, q40, s40⟩ := hq40
  have hM : xNT ≤ xN M40 := by rw [hn40]; exact hM
  have hW : xWire M40.2.1 := by rw [q40.1]; exact hW
  have hg : ∀ k, k < 7 → M40.1 fr k = nI (g k) := fun k hk => by rw [q40.2.1 fr n22 n23]; exact hg k hk
  refine px_aload_n dX6_writeFrame_43 rfl rfl ?_
  refine px_aload_n dX6_writeFrame_44 rfl rfl ?_
  refine px_getI dX6_writeFrame_45 fX6_74 hfr hM rfl ?_
  refine px_top (y := nI (g 5)) (hg 5 (by decide)) ?_
  refine px_gV1 dX6_writeFrame_48 kX6_writeFrame_30 (xol rfl) hM (Nat.le_of_ble_eq_true rfl) (c_X6_addNumber (s := adNs (adW s (g 0 + 2)) g 4) (x := nI (g 5)) hM hW s40 (by omega)) (fun r48 M48 hq48 hn48 => ?_)
  obtain ⟨rfl, q48, s48⟩ := hq48
  have hM : xNT ≤ xN M48 := by rw [hn48]; exact hM
  have hW : xWire M48.2.1 := by rw [q48.1]; exact hW
  have hg : ∀ k, k < 7 → M48.1 fr k = nI (g k) := fun k hk => by rw [q48.2.1 fr n22 n23]; exact hg k hk
  refine px_aload_n dX6_writeFrame_51 rfl rfl ?_
  refine px_aload_n dX6_writeFrame_52 rfl rfl ?_
  refine px_getI dX6_writeFrame_53 fX6_77 hfr hM rfl ?_
  refine px_top (y := nI (g 6)) (hg 6 (by decide)) ?_
  refine px_gV1 dX6_writeFrame_56 kX6_writeFrame_30 (xol rfl) hM (Nat.le_of_ble_eq_true rfl) (c_X6_addNumber (s := adNs (adW s (g 0 + 2)) g 5) (x := nI (g 6)) hM hW s48 (by omega)) (fun r56 M56 hq56 hn56 => ?_)
  obtain ⟨rfl, q56, s56⟩ := hq56
  have hM : xNT ≤ xN M56 := by rw [hn56]; exact hM
  have hW : xWire M56.2.1 := by rw [q56.1]; exact hW
  have hg : ∀ k, k < 7 → M56.1 fr k = nI (g k) := fun k hk => by rw [q56.2.1 fr n22 n23]; exact hg k hk
  refine px_aload_n dX6_writeFrame_59 rfl rfl ?_
  refine px_bipush dX6_writeFrame_60 bp_59 ?_
  refine px_gV1 dX6_writeFrame_62 kX6_writeFrame_37 (xol rfl) hM (Nat.le_of_ble_eq_true rfl) (c_X6_addSign (s := adNs (adW s (g 0 + 2)) g 6) hM hW s56 (by omega)) (fun r62 M62 hq62 hn62 => ?_)
  obtain ⟨rfl, q62, s62⟩ := hq62
  exact px_ret dX6_writeFrame_65 rfl ⟨rfl, wrGtr q8 (wrGtr q16 (wrGtr q24 (wrGtr q32 (wrGtr q40 (wrGtr q48 (wrGtr q56 q62)))))), s62⟩ (hn62.trans (hn56.trans (hn48.trans (hn40.trans (hn32.trans (hn24.trans (hn16.trans hn8)))))))
