/-! ===== tokens of the reference ===== -/
theorem wI_id {M : xMem} {a j : Nat} {v : Int32} (h : M.1 a j = v) : wI M a j v = M := by
  refine Prod.ext ?_ rfl
  funext b k
  show (if b = a ∧ k = j then v else M.1 b k) = M.1 b k
  by_cases z : b = a ∧ k = j
  · rw [if_pos z, z.1, z.2, h]
  · rw [if_neg z]
theorem wI_sw {M : xMem} {a j k : Nat} {x y v w : Int32} (h : j ≠ k) : wI (wI (wI (wI M a j x) a k v) a k w) a j y = wI (wI M a j y) a k w := by
  refine Prod.ext ?_ rfl
  funext b i
  show (if b = a ∧ i = j then y else if b = a ∧ i = k then w else if b = a ∧ i = k then v else if b = a ∧ i = j then x else M.1 b i) = (if b = a ∧ i = k then w else if b = a ∧ i = j then y else M.1 b i)
  by_cases z : b = a ∧ i = j
  · rw [if_pos z, if_neg (fun q => h (z.2.symm.trans q.2)), if_pos z]
  · by_cases z2 : b = a ∧ i = k
    · rw [if_neg z, if_pos z2, if_pos z2]
    · rw [if_neg z, if_neg z2, if_neg z2, if_neg z, if_neg z2, if_neg z]
def mrd (M : xMem) (t N : Nat) (b : Nat → Int32) : Prop := xNT ≤ xN M ∧ xWire M.2.1 ∧ t < 4 ∧ M.1 79 t = nI N ∧ N ≤ 120 ∧ ∀ i, i < N → M.1 80 (120 * t + i) = b i
def mnS (M m : xMem) : Prop := m.2 = M.2 ∧ (∀ a, a ≠ 74 → m.1 a = M.1 a) ∧ ∀ k, (k < 13 ∨ 17 < k) → m.1 74 k = M.1 74 k
theorem mnS.rf (M : xMem) : mnS M M := ⟨rfl, fun _ _ => rfl, fun _ _ => rfl⟩
theorem mnS.tr {M M1 M2 : xMem} (h : mnS M M1) (h' : mnS M1 M2) : mnS M M2 := ⟨h'.1.trans h.1, fun a a1 => (h'.2.1 a a1).trans (h.2.1 a a1), fun k k1 => (h'.2.2 k k1).trans (h.2.2 k k1)⟩
theorem mnS.p {M m : xMem} (h : mnS M m) {k : Nat} {v : Int32} (hk : 13 ≤ k ∧ k ≤ 17) : mnS M (wI m 74 k v) := ⟨h.1, fun a a1 => by funext i; rw [xI_wI, if_neg (fun z => a1 z.1), h.2.1 a a1], fun i i1 => by rw [xI_wI, if_neg (fun z => by omega), h.2.2 i i1]⟩
theorem mnS.r {M m : xMem} {t N : Nat} {b : Nat → Int32} (h : mnS M m) (hr : mrd M t N b) : mrd m t N b := by
  obtain ⟨h1, h2, h3, h4, h5, h6⟩ := hr
  exact ⟨by show xNT ≤ m.2.2.2; rw [h.1]; exact h1, by rw [h.1]; exact h2, h3, by rw [h.2.1 79 (by decide)]; exact h4, h5, fun i hi => by rw [h.2.1 80 (by decide)]; exact h6 i hi⟩
def mtok (M : xMem) (b : Nat → Int32) (N j : Nat) : Prop := M.1 74 13 = nI (tT b N j) ∧ M.1 74 14 = nI (tF b N j) ∧ M.1 74 15 = nI (tK b N j) ∧ (tK b N j = 2 → M.1 74 16 = nI (tV b N j))

set_option maxRecDepth 100000 in
theorem c_X11_byteAt {E : xE} {M : xMem} {t N : Nat} {b : Nat → Int32} (hr : mrd M t N b) {i : Nat} (hi : i < 2 ^ 20) : Cf E mX11_byteAt [.ref 74, .int (nI t), .int (nI i)] M (some (.int (if i < N then b i else -1))) M := by
  refine Ct.of (lo := [some (.ref 74), some (.int (nI t)), some (.int (nI i))]) pln_X11 (Nat.le_of_ble_eq_true rfl) rfl (Nat.le_refl _) ?_
  obtain ⟨hM, hW, ht4, hsz, hN, hbb⟩ := hr
  have hnt : (nI t).toNatClampNeg = t := nI_clamp (by omega)
  refine px_iload_n dX11_byteAt_0 rfl rfl ?_
  refine px_aload_n dX11_byteAt_1 rfl rfl ?_
  refine px_getR dX11_byteAt_2 fX11_22 (xol rfl) hM rfl (wr_11_6 hW (xol rfl)) (Nat.succ_pos _) ?_
  refine px_iload_n dX11_byteAt_5 rfl rfl ?_
  refine px_iald dX11_byteAt_6 (xal (n := 4) rfl) hM (vp_in_nI (by omega) (by decide)) ?_
  refine px_top (y := nI N) (by rw [hnt]; exact hsz) ?_
  refine px_icmp_ge 24 dX11_byteAt_7 rfl (fun h7 => ?_) (fun h7 => ?_)
  · have hge : ¬ i < N := by rw [nI_leI (by omega) (by omega)] at h7; omega
    refine px_iconst dX11_byteAt_24 ic_m1 ?_
    exact px_iret dX11_byteAt_25 rfl (by first | exact ⟨by rw [if_pos hlt], rfl⟩ | exact ⟨by rw [if_neg hge], rfl⟩) (rfl)
  · have hlt : i < N := by rw [nI_leI (by omega) (by omega)] at h7; omega
    refine px_aload_n dX11_byteAt_10 rfl rfl ?_
    refine px_getR dX11_byteAt_11 fX11_25 (xol rfl) hM rfl (wr_11_7 hW (xol rfl)) (Nat.succ_pos _) ?_
    refine px_bipush dX11_byteAt_14 bp_120 ?_
    refine px_iload_n dX11_byteAt_16 rfl rfl ?_
    refine px_imul dX11_byteAt_17 ?_
    refine px_iload_n dX11_byteAt_18 rfl rfl ?_
    refine px_iadd dX11_byteAt_19 ?_
    refine px_top (y := nI (120 * t + i)) (by rw [show (120 : Int32) = nI 120 from rfl, pk_mul, nI_add]) ?_
    refine px_bald dX11_byteAt_20 (xal (n := 480) rfl) hM (vp_in_nI (by omega) (by decide)) ?_
    refine px_top (y := b i) (by rw [nI_clamp (by omega)]; exact hbb i hlt) ?_
    refine px_goto 25 dX11_byteAt_21 rfl ?_
    exact px_iret dX11_byteAt_25 rfl (by first | exact ⟨by rw [if_pos hlt], rfl⟩ | exact ⟨by rw [if_neg hge], rfl⟩) (rfl)

set_option maxRecDepth 100000 in
theorem l_X11_blanks {E : xE} {M : xMem} {t N F : Nat} {b : Nat → Int32} (hr : mrd M t N b) {j : Nat} (hj : j ≤ N) : sc (bl b) N (j) = F → PR E mX11_blanks (xN M) 0 [some (.ref 74), some (.int (nI t))] [] (wI M 74 13 (nI (j))) (fun r m => r = none ∧ m = wI M 74 13 (nI F)) := by
  have hr0 := hr
  obtain ⟨hM, hW, ht4, hsz, hN, hbb⟩ := hr
  have hnt : (nI t).toNatClampNeg = t := nI_clamp (by omega)
  refine px_for (P := fun i => sc (bl b) N i = F → PR E mX11_blanks (xN M) 0 [some (.ref 74), some (.int (nI t))] [] (wI M 74 13 (nI i)) (fun r m => r = none ∧ m = wI M 74 13 (nI F))) (N) (fun i hi nx => ?_) (j) hj
  intro hF
  have hri : mrd (wI M 74 13 (nI i)) t N b := ((mnS.rf M).p (by omega)).r hr0
  refine px_aload_n dX11_blanks_0 rfl rfl ?_
  refine px_iload_n dX11_blanks_1 rfl rfl ?_
  refine px_aload_n dX11_blanks_2 rfl rfl ?_
  refine px_getI dX11_blanks_3 fX11_97 (xol rfl) hM rfl ?_
  refine px_top (y := nI i) (wI_self _ _ _ _) ?_
  refine px_fV2i dX11_blanks_6 kX11_blanks_100 (xol rfl) hM (Nat.le_of_ble_eq_true rfl) (c_X11_byteAt hri (by omega)) ?_
  refine px_bipush dX11_blanks_9 bp_32 ?_
  refine px_icmp_ne 27 dX11_blanks_11 rfl (fun h11 => ?_) (fun h11 => ?_)
  · have hF2 : i = F := by
      by_cases z : i < N
      · rw [if_pos z] at h11; rw [sc_f (fun y => h11 (of_decide_eq_true y))] at hF; exact hF
      · rw [sc_N (by omega)] at hF; exact hF
    rw [hF2]
    exact px_ret dX11_blanks_27 rfl ⟨rfl, rfl⟩ (rfl)
  · have hlt : i < N := Classical.byContradiction (fun z => by rw [if_neg z] at h11; exact absurd h11 (by decide))
    rw [if_pos hlt] at h11
    refine px_aload_n dX11_blanks_14 rfl rfl ?_
    first | refine px_dupi dX11_blanks_15 ?_ | refine px_dupa dX11_blanks_15 ?_
    refine px_getI dX11_blanks_16 fX11_97 (xol rfl) hM rfl ?_
    refine px_top (y := nI i) (wI_self _ _ _ _) ?_
    refine px_iconst dX11_blanks_19 ic_1 ?_
    refine px_iadd dX11_blanks_20 ?_
    refine px_putI dX11_blanks_21 fX11_97 p11_13 (xol rfl) hM rfl ?_
    refine px_goto 0 dX11_blanks_24 rfl ?_
    refine px_mem (wI_2 _ _ _ _ _) ?_
    exact px_mem (by rw [nI_1]) (nx hlt (by rw [← sc_t hlt (decide_eq_true h11)]; exact hF))

set_option maxRecDepth 100000 in
theorem c_X11_blanks {E : xE} {M : xMem} {t N j : Nat} {b : Nat → Int32} (hr : mrd M t N b) (hj : j ≤ N) (hra : M.1 74 13 = nI j) : Cf E mX11_blanks [.ref 74, .int (nI t)] M none (wI M 74 13 (nI (tF b N j))) := by
  refine Ct.of (lo := [some (.ref 74), some (.int (nI t))]) pln_X11 (Nat.le_of_ble_eq_true rfl) rfl (Nat.le_refl _) ?_
  refine px_mem (M' := wI M 74 13 (nI j)) (wI_id hra).symm ?_
  exact l_X11_blanks hr hj rfl

set_option maxRecDepth 100000 in
theorem c_X11_isLetter {E : xE} {M : xMem} {t N : Nat} {b : Nat → Int32} (hr : mrd M t N b) {i : Nat} (hi : i ≤ N) (hra : M.1 74 13 = nI i) : Cf E mX11_isLetter [.ref 74, .int (nI t)] M (some (.int (zb (i < N ∧ ltr b i = true)))) M := by
  refine Ct.of (lo := [some (.ref 74), some (.int (nI t))]) pln_X11 (Nat.le_of_ble_eq_true rfl) rfl (Nat.le_refl _) ?_
  have hr0 := hr
  obtain ⟨hM, hW, ht4, hsz, hN, hbb⟩ := hr
  have hnt : (nI t).toNatClampNeg = t := nI_clamp (by omega)
  refine px_aload_n dX11_isLetter_0 rfl rfl ?_
  refine px_getI dX11_isLetter_1 fX11_97 (xol rfl) hM rfl ?_
  refine px_top (y := nI i) hra ?_
  refine px_aload_n dX11_isLetter_4 rfl rfl ?_
  refine px_getR dX11_isLetter_5 fX11_22 (xol rfl) hM rfl (wr_11_6 hW (xol rfl)) (Nat.succ_pos _) ?_
  refine px_iload_n dX11_isLetter_8 rfl rfl ?_
  refine px_iald dX11_isLetter_9 (xal (n := 4) rfl) hM (vp_in_nI (by omega) (by decide)) ?_
  refine px_top (y := nI N) (by rw [hnt]; exact hsz) ?_
  refine px_icmp_ge 36 dX11_isLetter_10 rfl (fun h10 => ?_) (fun h10 => ?_)
  · have hz : (0 : Int32) = zb (i < N ∧ ltr b i = true) := by
      refine (zb_f (fun z => ?_)).symm
      first
        | exact h29 (of_decide_eq_true z.2)
        | (have z1 := z.1; rw [nI_leI (by omega) (by omega)] at h10; omega)
    refine px_iconst dX11_isLetter_36 ic_0 ?_
    exact px_zret dX11_isLetter_37 rfl (by first | rfl | exact zb_nar | exact zc_nar) ⟨congrArg (fun x => some (Value.int x)) hz, rfl⟩ (rfl)
  · have hlt : i < N := by rw [nI_leI (by omega) (by omega)] at h10; omega
    refine px_aload_n dX11_isLetter_13 rfl rfl ?_
    refine px_iload_n dX11_isLetter_14 rfl rfl ?_
    refine px_aload_n dX11_isLetter_15 rfl rfl ?_
    refine px_getI dX11_isLetter_16 fX11_97 (xol rfl) hM rfl ?_
    refine px_top (y := nI i) hra ?_
    refine px_fV2i dX11_isLetter_19 kX11_isLetter_100 (xol rfl) hM (Nat.le_of_ble_eq_true rfl) (c_X11_byteAt hr0 (by omega)) ?_
    refine px_top (y := b i) (if_pos hlt) ?_
    refine px_bipush dX11_isLetter_22 bp_97 ?_
    refine px_bipush dX11_isLetter_24 bp_122 ?_
    refine px_fS3i dX11_isLetter_26 kX11_isLetter_75 (Nat.le_of_ble_eq_true rfl) (c_X11_in) ?_
    refine px_zif_eq 36 dX11_isLetter_29 rfl (fun h29 => ?_) (fun h29 => ?_)
    · have hz : (0 : Int32) = zb (i < N ∧ ltr b i = true) := by
        refine (zb_f (fun z => ?_)).symm
        first
          | exact h29 (of_decide_eq_true z.2)
          | (have z1 := z.1; rw [nI_leI (by omega) (by omega)] at h10; omega)
      refine px_iconst dX11_isLetter_36 ic_0 ?_
      exact px_zret dX11_isLetter_37 rfl (by first | rfl | exact zb_nar | exact zc_nar) ⟨congrArg (fun x => some (Value.int x)) hz, rfl⟩ (rfl)
    · have hz : (1 : Int32) = zb (i < N ∧ ltr b i = true) := (zb_t (And.intro hlt (decide_eq_true h29))).symm
      refine px_iconst dX11_isLetter_32 ic_1 ?_
      refine px_goto 37 dX11_isLetter_33 rfl ?_
      exact px_zret dX11_isLetter_37 rfl (by first | rfl | exact zb_nar | exact zc_nar) ⟨congrArg (fun x => some (Value.int x)) hz, rfl⟩ (rfl)

set_option maxRecDepth 100000 in
theorem c_X11_isFigure {E : xE} {M : xMem} {t N : Nat} {b : Nat → Int32} (hr : mrd M t N b) {i : Nat} (hi : i ≤ N) (hra : M.1 74 13 = nI i) : Cf E mX11_isFigure [.ref 74, .int (nI t)] M (some (.int (zb (i < N ∧ fg b i = true)))) M := by
  refine Ct.of (lo := [some (.ref 74), some (.int (nI t))]) pln_X11 (Nat.le_of_ble_eq_true rfl) rfl (Nat.le_refl _) ?_
  have hr0 := hr
  obtain ⟨hM, hW, ht4, hsz, hN, hbb⟩ := hr
  have hnt : (nI t).toNatClampNeg = t := nI_clamp (by omega)
  refine px_aload_n dX11_isFigure_0 rfl rfl ?_
  refine px_getI dX11_isFigure_1 fX11_97 (xol rfl) hM rfl ?_
  refine px_top (y := nI i) hra ?_
  refine px_aload_n dX11_isFigure_4 rfl rfl ?_
  refine px_getR dX11_isFigure_5 fX11_22 (xol rfl) hM rfl (wr_11_6 hW (xol rfl)) (Nat.succ_pos _) ?_
  refine px_iload_n dX11_isFigure_8 rfl rfl ?_
  refine px_iald dX11_isFigure_9 (xal (n := 4) rfl) hM (vp_in_nI (by omega) (by decide)) ?_
  refine px_top (y := nI N) (by rw [hnt]; exact hsz) ?_
  refine px_icmp_ge 36 dX11_isFigure_10 rfl (fun h10 => ?_) (fun h10 => ?_)
  · have hz : (0 : Int32) = zb (i < N ∧ fg b i = true) := by
      refine (zb_f (fun z => ?_)).symm
      first
        | exact h29 (of_decide_eq_true z.2)
        | (have z1 := z.1; rw [nI_leI (by omega) (by omega)] at h10; omega)
    refine px_iconst dX11_isFigure_36 ic_0 ?_
    exact px_zret dX11_isFigure_37 rfl (by first | rfl | exact zb_nar | exact zc_nar) ⟨congrArg (fun x => some (Value.int x)) hz, rfl⟩ (rfl)
  · have hlt : i < N := by rw [nI_leI (by omega) (by omega)] at h10; omega
    refine px_aload_n dX11_isFigure_13 rfl rfl ?_
    refine px_iload_n dX11_isFigure_14 rfl rfl ?_
    refine px_aload_n dX11_isFigure_15 rfl rfl ?_
    refine px_getI dX11_isFigure_16 fX11_97 (xol rfl) hM rfl ?_
    refine px_top (y := nI i) hra ?_
    refine px_fV2i dX11_isFigure_19 kX11_isFigure_100 (xol rfl) hM (Nat.le_of_ble_eq_true rfl) (c_X11_byteAt hr0 (by omega)) ?_
    refine px_top (y := b i) (if_pos hlt) ?_
    refine px_bipush dX11_isFigure_22 bp_48 ?_
    refine px_bipush dX11_isFigure_24 bp_57 ?_
    refine px_fS3i dX11_isFigure_26 kX11_isFigure_75 (Nat.le_of_ble_eq_true rfl) (c_X11_in) ?_
    refine px_zif_eq 36 dX11_isFigure_29 rfl (fun h29 => ?_) (fun h29 => ?_)
    · have hz : (0 : Int32) = zb (i < N ∧ fg b i = true) := by
        refine (zb_f (fun z => ?_)).symm
        first
          | exact h29 (of_decide_eq_true z.2)
          | (have z1 := z.1; rw [nI_leI (by omega) (by omega)] at h10; omega)
      refine px_iconst dX11_isFigure_36 ic_0 ?_
      exact px_zret dX11_isFigure_37 rfl (by first | rfl | exact zb_nar | exact zc_nar) ⟨congrArg (fun x => some (Value.int x)) hz, rfl⟩ (rfl)
    · have hz : (1 : Int32) = zb (i < N ∧ fg b i = true) := (zb_t (And.intro hlt (decide_eq_true h29))).symm
      refine px_iconst dX11_isFigure_32 ic_1 ?_
      refine px_goto 37 dX11_isFigure_33 rfl ?_
      exact px_zret dX11_isFigure_37 rfl (by first | rfl | exact zb_nar | exact zc_nar) ⟨congrArg (fun x => some (Value.int x)) hz, rfl⟩ (rfl)

set_option maxRecDepth 100000 in
theorem l_nx47 {E : xE} {M : xMem} {t N F : Nat} {b : Nat → Int32} (hr : mrd M t N b){Q : Option Value → xMem → Prop}  {j : Nat} (hj : j ≤ N) (kk : PR E mX11_next (xN M) 179 [some (.ref 74), some (.int (nI t))] [] (wI M 74 13 (nI F)) Q) : sc (ltr b) N (j) = F → PR E mX11_next (xN M) 47 [some (.ref 74), some (.int (nI t))] [] (wI M 74 13 (nI (j))) (Q) := by
  have hr0 := hr
  obtain ⟨hM, hW, ht4, hsz, hN, hbb⟩ := hr
  have hnt : (nI t).toNatClampNeg = t := nI_clamp (by omega)
  refine px_for (P := fun i => sc (ltr b) N i = F → PR E mX11_next (xN M) 47 [some (.ref 74), some (.int (nI t))] [] (wI M 74 13 (nI i)) (Q)) (N) (fun i hi nx => ?_) (j) hj
  intro hF
  have hri : mrd (wI M 74 13 (nI i)) t N b := ((mnS.rf M).p (by omega)).r hr0
  refine px_aload_n dX11_next_47 rfl rfl ?_
  refine px_iload_n dX11_next_48 rfl rfl ?_
  refine px_fV1i dX11_next_49 kX11_next_113 (xol rfl) hM (Nat.le_of_ble_eq_true rfl) (c_X11_isLetter hri hi (wI_self _ _ _ _)) ?_
  refine px_zif_eq 179 dX11_next_52 rfl (fun h52 => ?_) (fun h52 => ?_)
  · have hF2 : i = F := by
      by_cases z : i < N
      · rw [sc_f (fun y => h52 ⟨z, y⟩)] at hF; exact hF
      · rw [sc_N (by omega)] at hF; exact hF
    rw [hF2]
    exact kk
  · refine px_aload_n dX11_next_55 rfl rfl ?_
    first | refine px_dupi dX11_next_56 ?_ | refine px_dupa dX11_next_56 ?_
    refine px_getI dX11_next_57 fX11_97 (xol rfl) hM rfl ?_
    refine px_top (y := nI i) (wI_self _ _ _ _) ?_
    refine px_iconst dX11_next_60 ic_1 ?_
    refine px_iadd dX11_next_61 ?_
    refine px_putI dX11_next_62 fX11_97 p11_13 (xol rfl) hM rfl ?_
    refine px_goto 47 dX11_next_65 rfl ?_
    refine px_mem (wI_2 _ _ _ _ _) ?_
    exact px_mem (by rw [nI_1]) (nx h52.1 (by rw [← sc_t h52.1 h52.2]; exact hF))

theorem stp_m {b : Nat → Int32} {i v : Nat} (h : fg b i = true) (hv : v ≤ 1000) : (v ≤ 99 → 10 * nI v + b i - 48 = nI (stp v (b i))) ∧ (¬ v ≤ 99 → (1000 : Int32) = nI (stp v (b i))) := by
  obtain ⟨c, h1, h2, e⟩ := fg_n h
  have e1 : 10 * nI v + b i - 48 = nI (10 * v + (c - 48)) := by
    rw [e, show (10 : Int32) = nI 10 from rfl, pk_mul, nI_add, show (48 : Int32) = nI 48 from rfl, pk_sub (by omega)]
    congr 1; omega
  unfold stp
  rw [e1, e, nI_clamp (by omega)]
  refine ⟨fun z => by rw [if_neg (by omega)], fun z => by rw [if_pos (by omega)]; rfl⟩

set_option maxRecDepth 100000 in
theorem l_nx86 {E : xE} {M : xMem} {t N F : Nat} {b : Nat → Int32} (hr : mrd M t N b){Q : Option Value → xMem → Prop}  {X j : Nat} (hj : j ≤ N) (kk : PR E mX11_next (xN M) 179 [some (.ref 74), some (.int (nI t))] [] (wI (wI M 74 13 (nI F)) 74 16 (nI X)) Q) : ∀ v, v ≤ 1000 → sc (fg b) N (j) = F → nv b N (j) v = X → PR E mX11_next (xN M) 86 [some (.ref 74), some (.int (nI t))] [] (wI (wI M 74 13 (nI (j))) 74 16 (nI v)) (Q) := by
  have hr0 := hr
  obtain ⟨hM, hW, ht4, hsz, hN, hbb⟩ := hr
  have hnt : (nI t).toNatClampNeg = t := nI_clamp (by omega)
  refine px_for (P := fun i => ∀ v, v ≤ 1000 → sc (fg b) N i = F → nv b N i v = X → PR E mX11_next (xN M) 86 [some (.ref 74), some (.int (nI t))] [] (wI (wI M 74 13 (nI i)) 74 16 (nI v)) (Q)) (N) (fun i hi nx => ?_) (j) hj
  intro v hv hF hX
  have hri : mrd (wI (wI M 74 13 (nI i)) 74 16 (nI v)) t N b := (((mnS.rf M).p (by omega)).p (by omega)).r hr0
  refine px_aload_n dX11_next_86 rfl rfl ?_
  refine px_iload_n dX11_next_87 rfl rfl ?_
  refine px_fV1i dX11_next_88 kX11_next_116 (xol rfl) hM (Nat.le_of_ble_eq_true rfl) (c_X11_isFigure hri hi (by rw [xI_wI, if_neg (fun z => by omega)]; exact wI_self _ _ _ _)) ?_
  refine px_zif_eq 179 dX11_next_91 rfl (fun h91 => ?_) (fun h91 => ?_)
  · have hF2 : i = F ∧ v = X := by
      by_cases z : i < N
      · have hng : ¬ fg b i = true := fun y => h91 ⟨z, y⟩
        rw [sc_f hng] at hF; rw [nv_f hng] at hX; exact ⟨hF, hX⟩
      · rw [sc_N (by omega)] at hF; rw [nv_N (by omega)] at hX; exact ⟨hF, hX⟩
    rw [hF2.1, hF2.2]
    exact kk
  · refine px_aload_n dX11_next_94 rfl rfl ?_
    refine px_aload_n dX11_next_95 rfl rfl ?_
    refine px_getI dX11_next_96 fX11_119 (xol rfl) hM rfl ?_
    refine px_top (y := nI v) (wI_self _ _ _ _) ?_
    refine px_bipush dX11_next_99 bp_99 ?_
    refine px_icmp_le 110 dX11_next_101 rfl (fun h101 => ?_) (fun h101 => ?_)
    · have hv9 : v ≤ 99 := by rw [show (99 : Int32) = nI 99 from rfl, nI_leI (by omega) (by omega)] at h101; exact h101
      refine px_bipush dX11_next_110 bp_10 ?_
      refine px_aload_n dX11_next_112 rfl rfl ?_
      refine px_getI dX11_next_113 fX11_119 (xol rfl) hM rfl ?_
      refine px_top (y := nI v) (wI_self _ _ _ _) ?_
      refine px_imul dX11_next_116 ?_
      refine px_aload_n dX11_next_117 rfl rfl ?_
      refine px_iload_n dX11_next_118 rfl rfl ?_
      refine px_aload_n dX11_next_119 rfl rfl ?_
      refine px_getI dX11_next_120 fX11_97 (xol rfl) hM rfl ?_
      refine px_top (y := nI i) (by rw [xI_wI, if_neg (fun z => by omega)]; exact wI_self _ _ _ _) ?_
      refine px_fV2i dX11_next_123 kX11_next_100 (xol rfl) hM (Nat.le_of_ble_eq_true rfl) (c_X11_byteAt hri (by omega)) ?_
      refine px_top (y := b i) (if_pos h91.1) ?_
      refine px_iadd dX11_next_126 ?_
      refine px_bipush dX11_next_127 bp_48 ?_
      refine px_isub dX11_next_129 ?_
      refine px_top (y := nI (stp v (b i))) (by first | exact (stp_m h91.2 hv).1 hv9 | exact (stp_m h91.2 hv).2 hv9) ?_
      refine px_putI dX11_next_130 fX11_119 p11_16 (xol rfl) hM rfl ?_
      refine px_aload_n dX11_next_133 rfl rfl ?_
      first | refine px_dupi dX11_next_134 ?_ | refine px_dupa dX11_next_134 ?_
      refine px_getI dX11_next_135 fX11_97 (xol rfl) hM rfl ?_
      refine px_top (y := nI i) (by rw [xI_wI, if_neg (fun z => by omega), xI_wI, if_neg (fun z => by omega)]; exact wI_self _ _ _ _) ?_
      refine px_iconst dX11_next_138 ic_1 ?_
      refine px_iadd dX11_next_139 ?_
      refine px_putI dX11_next_140 fX11_97 p11_13 (xol rfl) hM rfl ?_
      refine px_goto 86 dX11_next_143 rfl ?_
      refine px_mem (wI_sw (by decide)) ?_
      exact px_mem (by rw [nI_1]) (nx h91.1 _ (stp_le _ _) (by rw [← sc_t h91.1 h91.2]; exact hF) (by rw [← nv_t h91.1 h91.2]; exact hX))
    · have hv9 : ¬ v ≤ 99 := by rw [show (99 : Int32) = nI 99 from rfl, nI_leI (by omega) (by omega)] at h101; exact h101
      refine px_sipush dX11_next_104 sp_1000 ?_
      refine px_goto 130 dX11_next_107 rfl ?_
      refine px_top (y := nI (stp v (b i))) (by first | exact (stp_m h91.2 hv).1 hv9 | exact (stp_m h91.2 hv).2 hv9) ?_
      refine px_putI dX11_next_130 fX11_119 p11_16 (xol rfl) hM rfl ?_
      refine px_aload_n dX11_next_133 rfl rfl ?_
      first | refine px_dupi dX11_next_134 ?_ | refine px_dupa dX11_next_134 ?_
      refine px_getI dX11_next_135 fX11_97 (xol rfl) hM rfl ?_
      refine px_top (y := nI i) (by rw [xI_wI, if_neg (fun z => by omega), xI_wI, if_neg (fun z => by omega)]; exact wI_self _ _ _ _) ?_
      refine px_iconst dX11_next_138 ic_1 ?_
      refine px_iadd dX11_next_139 ?_
      refine px_putI dX11_next_140 fX11_97 p11_13 (xol rfl) hM rfl ?_
      refine px_goto 86 dX11_next_143 rfl ?_
      refine px_mem (wI_sw (by decide)) ?_
      exact px_mem (by rw [nI_1]) (nx h91.1 _ (stp_le _ _) (by rw [← sc_t h91.1 h91.2]; exact hF) (by rw [← nv_t h91.1 h91.2]; exact hX))

set_option maxRecDepth 100000 in
theorem c_X11_next {E : xE} {M : xMem} {t N j : Nat} {b : Nat → Int32} (hr : mrd M t N b) (hj : j ≤ N) (hra : M.1 74 13 = nI j) : Ct E mX11_next [.ref 74, .int (nI t)] M (xN M) (fun r m => r = none ∧ mnS M m ∧ mtok m b N j) := by
  have hr0 := hr
  obtain ⟨hM, hW, ht4, hsz, hN, hbb⟩ := hr
  have hnt : (nI t).toNatClampNeg = t := nI_clamp (by omega)
  have hFb := tF_b (b := b) hj
  refine Ct.of (lo := [some (.ref 74), some (.int (nI t))]) pln_X11 (Nat.le_of_ble_eq_true rfl) rfl (Nat.le_refl _) ?_
  refine px_aload_n dX11_next_0 rfl rfl ?_
  refine px_iload_n dX11_next_1 rfl rfl ?_
  refine px_fV1v dX11_next_2 kX11_next_103 (xol rfl) hM (Nat.le_of_ble_eq_true rfl) (c_X11_blanks hr0 hj hra) ?_
  refine px_aload_n dX11_next_5 rfl rfl ?_
  refine px_aload_n dX11_next_6 rfl rfl ?_
  refine px_getI dX11_next_7 fX11_97 (xol rfl) hM rfl ?_
  refine px_top (y := nI (tF b N j)) (wI_self _ _ _ _) ?_
  refine px_putI dX11_next_10 fX11_107 p11_14 (xol rfl) hM rfl ?_
  refine px_aload_n dX11_next_13 rfl rfl ?_
  refine px_getI dX11_next_14 fX11_97 (xol rfl) hM rfl ?_
  refine px_top (y := nI (tF b N j)) rfl ?_
  refine px_aload_n dX11_next_17 rfl rfl ?_
  refine px_getR dX11_next_18 fX11_22 (xol rfl) hM rfl (wr_11_6 hW (xol rfl)) (Nat.succ_pos _) ?_
  refine px_iload_n dX11_next_21 rfl rfl ?_
  refine px_iald dX11_next_22 (xal (n := 4) rfl) hM (vp_in_nI (by omega) (by decide)) ?_
  refine px_top (y := nI N) (by rw [hnt]; exact hsz) ?_
  refine px_icmp_ne 34 dX11_next_23 rfl (fun h23 => ?_) (fun h23 => ?_)
  · have hlt : tF b N j < N := by rw [nI_eq (by omega) (by omega)] at h23; omega
    have hnl : ¬ N ≤ tF b N j := by omega
    have hr1 : mrd (wI (wI M 74 13 (nI (tF b N j))) 74 14 (nI (tF b N j))) t N b := (((mnS.rf M).p (by omega)).p (by omega)).r hr0
    refine px_aload_n dX11_next_34 rfl rfl ?_
    refine px_iload_n dX11_next_35 rfl rfl ?_
    refine px_fV1i dX11_next_36 kX11_next_113 (xol rfl) hM (Nat.le_of_ble_eq_true rfl) (c_X11_isLetter hr1 (by omega) rfl) ?_
    refine px_zif_eq 68 dX11_next_39 rfl (fun h39 => ?_) (fun h39 => ?_)
    · have hl1 : ¬ ltr b (tF b N j) = true := fun z => h39 ⟨hlt, z⟩
      refine px_aload_n dX11_next_68 rfl rfl ?_
      refine px_iload_n dX11_next_69 rfl rfl ?_
      refine px_fV1i dX11_next_70 kX11_next_116 (xol rfl) hM (Nat.le_of_ble_eq_true rfl) (c_X11_isFigure hr1 (by omega) rfl) ?_
      refine px_zif_eq 146 dX11_next_73 rfl (fun h73 => ?_) (fun h73 => ?_)
      · have hf1 : ¬ fg b (tF b N j) = true := fun z => h73 ⟨hlt, z⟩
        have eT : tT b N j = tF b N j + 1 := by unfold tT; rw [if_neg hnl, if_neg hl1, if_neg hf1]
        refine px_aload_n dX11_next_146 rfl rfl ?_
        refine px_aload_n dX11_next_147 rfl rfl ?_
        refine px_iload_n dX11_next_148 rfl rfl ?_
        refine px_aload_n dX11_next_149 rfl rfl ?_
        refine px_getI dX11_next_150 fX11_97 (xol rfl) hM rfl ?_
        refine px_top (y := nI (tF b N j)) rfl ?_
        refine px_fV2i dX11_next_153 kX11_next_100 (xol rfl) hM (Nat.le_of_ble_eq_true rfl) (c_X11_byteAt hr1 (by omega)) ?_
        refine px_top (y := b (tF b N j)) (if_pos hlt) ?_
        refine px_bipush dX11_next_156 bp_59 ?_
        refine px_icmp_ne 165 dX11_next_158 rfl (fun h158 => ?_) (fun h158 => ?_)
        · have eK : tK b N j = 4 := by unfold tK; rw [if_neg hnl, if_neg hl1, if_neg hf1, if_neg h158]
          refine px_iconst dX11_next_165 ic_4 ?_
          refine px_putI dX11_next_166 fX11_110 p11_15 (xol rfl) hM rfl ?_
          refine px_aload_n dX11_next_169 rfl rfl ?_
          first | refine px_dupi dX11_next_170 ?_ | refine px_dupa dX11_next_170 ?_
          refine px_getI dX11_next_171 fX11_97 (xol rfl) hM rfl ?_
          refine px_top (y := nI (tF b N j)) rfl ?_
          refine px_iconst dX11_next_174 ic_1 ?_
          refine px_iadd dX11_next_175 ?_
          refine px_top (y := nI (tF b N j + 1)) (nI_1 _) ?_
          refine px_putI dX11_next_176 fX11_97 p11_13 (xol rfl) hM rfl ?_
          first
            | exact px_ret dX11_next_179 rfl ⟨rfl, ((((mnS.rf M).p (by omega)).p (by omega)).p (by omega)).p (by omega), by rw [eT]; rfl, rfl, by rw [eK]; rfl, fun z => absurd (eK.symm.trans z) (by decide)⟩ rfl
            | exact px_ret dX11_next_179 rfl ⟨rfl, (((mnS.rf M).p (by omega)).p (by omega)).p (by omega), by rw [eT]; rfl, rfl, by rw [eK]; rfl, fun z => absurd (eK.symm.trans z) (by decide)⟩ rfl
        · have eK : tK b N j = 3 := by unfold tK; rw [if_neg hnl, if_neg hl1, if_neg hf1, if_pos h158]
          refine px_iconst dX11_next_161 ic_3 ?_
          refine px_goto 166 dX11_next_162 rfl ?_
          refine px_putI dX11_next_166 fX11_110 p11_15 (xol rfl) hM rfl ?_
          refine px_aload_n dX11_next_169 rfl rfl ?_
          first | refine px_dupi dX11_next_170 ?_ | refine px_dupa dX11_next_170 ?_
          refine px_getI dX11_next_171 fX11_97 (xol rfl) hM rfl ?_
          refine px_top (y := nI (tF b N j)) rfl ?_
          refine px_iconst dX11_next_174 ic_1 ?_
          refine px_iadd dX11_next_175 ?_
          refine px_top (y := nI (tF b N j + 1)) (nI_1 _) ?_
          refine px_putI dX11_next_176 fX11_97 p11_13 (xol rfl) hM rfl ?_
          first
            | exact px_ret dX11_next_179 rfl ⟨rfl, ((((mnS.rf M).p (by omega)).p (by omega)).p (by omega)).p (by omega), by rw [eT]; rfl, rfl, by rw [eK]; rfl, fun z => absurd (eK.symm.trans z) (by decide)⟩ rfl
            | exact px_ret dX11_next_179 rfl ⟨rfl, (((mnS.rf M).p (by omega)).p (by omega)).p (by omega), by rw [eT]; rfl, rfl, by rw [eK]; rfl, fun z => absurd (eK.symm.trans z) (by decide)⟩ rfl
      · have eK : tK b N j = 2 := by unfold tK; rw [if_neg hnl, if_neg hl1, if_pos h73.2]
        have eT : tT b N j = sc (fg b) N (tF b N j) := by unfold tT; rw [if_neg hnl, if_neg hl1, if_pos h73.2]
        refine px_aload_n dX11_next_76 rfl rfl ?_
        refine px_iconst dX11_next_77 ic_2 ?_
        refine px_putI dX11_next_78 fX11_110 p11_15 (xol rfl) hM rfl ?_
        refine px_aload_n dX11_next_81 rfl rfl ?_
        refine px_iconst dX11_next_82 ic_0 ?_
        refine px_putI dX11_next_83 fX11_119 p11_16 (xol rfl) hM rfl ?_
        refine px_mem (M' := wI (wI (wI (wI (wI M 74 13 (nI (tF b N j))) 74 14 (nI (tF b N j))) 74 15 2) 74 13 (nI (tF b N j))) 74 16 (nI 0)) (congrArg (fun z => wI z 74 16 0) (wI_id (M := wI (wI (wI M 74 13 (nI (tF b N j))) 74 14 (nI (tF b N j))) 74 15 2) (v := nI (tF b N j)) rfl).symm) ?_
        refine l_nx86 (M := wI (wI (wI M 74 13 (nI (tF b N j))) 74 14 (nI (tF b N j))) 74 15 2) (F := tT b N j) (X := tV b N j) (((mnS.rf _).p (by omega)).r hr1) (by omega) ?_ 0 (by omega) eT.symm rfl
        exact px_ret dX11_next_179 rfl ⟨rfl, (((((mnS.rf M).p (by omega)).p (by omega)).p (by omega)).p (by omega)).p (by omega), rfl, rfl, by rw [eK]; rfl, fun _ => rfl⟩ rfl
    · have eK : tK b N j = 1 := by unfold tK; rw [if_neg hnl, if_pos h39.2]
      have eT : tT b N j = sc (ltr b) N (tF b N j) := by unfold tT; rw [if_neg hnl, if_pos h39.2]
      refine px_aload_n dX11_next_42 rfl rfl ?_
      refine px_iconst dX11_next_43 ic_1 ?_
      refine px_putI dX11_next_44 fX11_110 p11_15 (xol rfl) hM rfl ?_
      refine px_mem (M' := wI (wI (wI (wI M 74 13 (nI (tF b N j))) 74 14 (nI (tF b N j))) 74 15 1) 74 13 (nI (tF b N j))) (wI_id rfl).symm ?_
      refine l_nx47 (M := wI (wI (wI M 74 13 (nI (tF b N j))) 74 14 (nI (tF b N j))) 74 15 1) (F := tT b N j) (((mnS.rf _).p (by omega)).r hr1) (by omega) ?_ eT.symm
      exact px_ret dX11_next_179 rfl ⟨rfl, ((((mnS.rf M).p (by omega)).p (by omega)).p (by omega)).p (by omega), rfl, rfl, by rw [eK]; rfl, fun z => absurd (eK.symm.trans z) (by decide)⟩ rfl
  · have hge : N ≤ tF b N j := by rw [nI_eq (by omega) (by omega)] at h23; omega
    have eK : tK b N j = 0 := if_pos hge
    have eT : tT b N j = tF b N j := if_pos hge
    refine px_aload_n dX11_next_26 rfl rfl ?_
    refine px_iconst dX11_next_27 ic_0 ?_
    refine px_putI dX11_next_28 fX11_110 p11_15 (xol rfl) hM rfl ?_
    refine px_goto 179 dX11_next_31 rfl ?_
    first
      | exact px_ret dX11_next_179 rfl ⟨rfl, ((((mnS.rf M).p (by omega)).p (by omega)).p (by omega)).p (by omega), by rw [eT]; rfl, rfl, by rw [eK]; rfl, fun z => absurd (eK.symm.trans z) (by decide)⟩ rfl
      | exact px_ret dX11_next_179 rfl ⟨rfl, (((mnS.rf M).p (by omega)).p (by omega)).p (by omega), by rw [eT]; rfl, rfl, by rw [eK]; rfl, fun z => absurd (eK.symm.trans z) (by decide)⟩ rfl
