/-! ===== the reader's small steps ===== -/
theorem px_fSN1i {E : xE} {d : xMD} {ne pc : Nat} {lo : List (Option Value)} {st : List Value} {M M' : xMem} {Q : Option Value → xMem → Prop} {d' : xMD} {idx : Nat} {host : String} {v1 w : Value} (hd : decode d.co pc = .ok (.invokestatic idx, 3)) (hw : xCSN d idx d' 1 host) (hW : (st.map fun v => v.category).sum ≤ 8) (h : Cf E d' [v1] M (some w) M') (k : PR E d ne (pc + 3) lo (w :: st) M' Q) : PR E d ne pc lo (v1 :: st) M Q :=
  px_gSN (As := [v1]) hd hw hW h (fun _ _ hq _ => by obtain ⟨rfl, rfl⟩ := hq; exact k)
def nOK (b : Nat → Int32) (N j : Nat) (l h : Int32) : Prop := tK b N j = 2 ∧ l ≤ nI (tV b N j) ∧ nI (tV b N j) ≤ h
noncomputable def nmV (b : Nat → Int32) (N j : Nat) (l h : Int32) : Int32 := @ite _ (nOK b N j l h) (Classical.propDecidable _) (nI (tV b N j)) (-9)
noncomputable def nmJ (b : Nat → Int32) (N j : Nat) (l h : Int32) : Nat := @ite _ (nOK b N j l h) (Classical.propDecidable _) (tT b N j) j
theorem nm_y {b : Nat → Int32} {N j : Nat} {l h : Int32} (z : nOK b N j l h) : nmV b N j l h = nI (tV b N j) ∧ nmJ b N j l h = tT b N j := ⟨if_pos z, if_pos z⟩
theorem nm_n {b : Nat → Int32} {N j : Nat} {l h : Int32} (z : ¬ nOK b N j l h) : nmV b N j l h = -9 ∧ nmJ b N j l h = j := ⟨if_neg z, if_neg z⟩
theorem nm_9 {b : Nat → Int32} {N j : Nat} {l h : Int32} : nmV b N j l h = -9 ↔ ¬ nOK b N j l h := by
  constructor
  · intro e z
    rw [(nm_y z).1] at e
    exact absurd e (nI_ne9 (by have := tV_le b N j; omega))
  · intro z; exact (nm_n z).1
def isW (b : Nat → Int32) (N j i : Nat) : Prop := tK b N j = 1 ∧ tT b N j - tF b N j = xslen.getD i 0 ∧ ∀ k, k < xslen.getD i 0 → b (tF b N j + k) = sch i k
noncomputable def zW (b : Nat → Int32) (N j i : Nat) : Int32 := zc (isW b N j i)
noncomputable def kW (b : Nat → Int32) (N j : Nat) : Int32 := @ite _ (isW b N j 2) (Classical.propDecidable _) 0 (@ite _ (isW b N j 3) (Classical.propDecidable _) 1 (@ite _ (isW b N j 4) (Classical.propDecidable _) 2 (@ite _ (isW b N j 5) (Classical.propDecidable _) 3 (-9))))

set_option maxRecDepth 100000 in
theorem c_X3_takeNumber {E : xE} {M : xMem} {a N j : Nat} {b : Nat → Int32} (hr : rdr M a N b) (ht : tokS M b N j) {l h : Int32} : Ct E mX3_takeNumber [.ref 10, .int l, .int h] M (xN M) (fun r m => r = some (.int (nmV b N j l h)) ∧ rdS M m ∧ tokS m b N (nmJ b N j l h)) := by
  have hr0 := hr
  obtain ⟨hM, hW, hsz, hN, hby, ha9, hbb⟩ := hr
  have hbp : 0 < a + 1 := Nat.succ_pos _
  have har : xar (a + 1) 21 120 := ar_9 ha9
  obtain ⟨hj, eK, eF, eT, eV⟩ := id ht
  have hFb := tF_b (b := b) hj
  have hTb := tT_b (b := b) hj
  have hVl := tV_le b N j
  refine Ct.of (lo := [some (.ref 10), some (.int l), some (.int h), none]) pln_X3 (Nat.le_of_ble_eq_true rfl) rfl (Nat.le_refl _) ?_
  refine px_aload_n dX3_takeNumber_0 rfl rfl ?_
  refine px_getI dX3_takeNumber_1 fX3_26 (xol rfl) hM rfl ?_
  refine px_top (y := nI (tK b N j)) eK ?_
  refine px_iconst dX3_takeNumber_4 ic_2 ?_
  refine px_icmp_ne 24 dX3_takeNumber_5 rfl (fun h5 => ?_) (fun h5 => ?_)
  · have hno : ¬ nOK b N j l h := by
      rintro ⟨z1, z2, z3⟩
      first
        | exact absurd (show nI (tK b N j) = 2 by rw [z1]; rfl) h5
        | exact absurd h13 (n_le z2)
        | exact absurd z3 h21
    refine px_bipush dX3_takeNumber_24 bp_m9 ?_
    exact px_iret dX3_takeNumber_26 rfl (by rw [(nm_n hno).1, (nm_n hno).2]; exact ⟨rfl, rdS.rf M, ht⟩) (by first | rfl | exact hn33)
  · have h5n : tK b N j = 2 := nI_is (show (2 : Int32) = nI 2 from rfl) (by unfold tK; (repeat' split) <;> omega) (by decide) h5
    refine px_aload_n dX3_takeNumber_8 rfl rfl ?_
    refine px_getI dX3_takeNumber_9 fX3_35 (xol rfl) hM rfl ?_
    refine px_top (y := nI (tV b N j)) (eV h5n) ?_
    refine px_iload_n dX3_takeNumber_12 rfl rfl ?_
    refine px_icmp_lt 24 dX3_takeNumber_13 rfl (fun h13 => ?_) (fun h13 => ?_)
    · have hno : ¬ nOK b N j l h := by
        rintro ⟨z1, z2, z3⟩
        first
          | exact absurd (show nI (tK b N j) = 2 by rw [z1]; rfl) h5
          | exact absurd h13 (n_le z2)
          | exact absurd z3 h21
      refine px_bipush dX3_takeNumber_24 bp_m9 ?_
      exact px_iret dX3_takeNumber_26 rfl (by rw [(nm_n hno).1, (nm_n hno).2]; exact ⟨rfl, rdS.rf M, ht⟩) (by first | rfl | exact hn33)
    · refine px_aload_n dX3_takeNumber_16 rfl rfl ?_
      refine px_getI dX3_takeNumber_17 fX3_35 (xol rfl) hM rfl ?_
      refine px_top (y := nI (tV b N j)) (eV h5n) ?_
      refine px_iload_n dX3_takeNumber_20 rfl rfl ?_
      refine px_icmp_le 27 dX3_takeNumber_21 rfl (fun h21 => ?_) (fun h21 => ?_)
      · have hys : nOK b N j l h := ⟨h5n, Int32.not_lt.mp h13, h21⟩
        refine px_aload_n dX3_takeNumber_27 rfl rfl ?_
        refine px_getI dX3_takeNumber_28 fX3_35 (xol rfl) hM rfl ?_
        refine px_top (y := nI (tV b N j)) (eV h5n) ?_
        refine px_si_3 dX3_takeNumber_31 rfl ?_
        refine px_aload_n dX3_takeNumber_32 rfl rfl ?_
        refine px_gV0 dX3_takeNumber_33 kX3_takeNumber_56 (xol rfl) hM (Nat.le_of_ble_eq_true rfl) (c_X3_advance hr0 hTb.2.1 eT) (fun r33 M33 hq33 hn33 => ?_)
        obtain ⟨rfl, q1, q2⟩ := hq33
        refine px_iload_n dX3_takeNumber_36 rfl rfl ?_
        exact px_iret dX3_takeNumber_37 rfl (by rw [(nm_y hys).1, (nm_y hys).2]; exact ⟨rfl, q1, q2⟩) (by first | rfl | exact hn33)
      · have hno : ¬ nOK b N j l h := by
          rintro ⟨z1, z2, z3⟩
          first
            | exact absurd (show nI (tK b N j) = 2 by rw [z1]; rfl) h5
            | exact absurd h13 (n_le z2)
            | exact absurd z3 h21
        refine px_bipush dX3_takeNumber_24 bp_m9 ?_
        exact px_iret dX3_takeNumber_26 rfl (by rw [(nm_n hno).1, (nm_n hno).2]; exact ⟨rfl, rdS.rf M, ht⟩) (by first | rfl | exact hn33)

set_option maxRecDepth 100000 in
theorem c_X3_takeStop {E : xE} {M : xMem} {a N j : Nat} {b : Nat → Int32} (hr : rdr M a N b) (ht : tokS M b N j) : Ct E mX3_takeStop [.ref 10] M (xN M) (fun r m => r = some (.int (zb (tK b N j = 3))) ∧ rdS M m ∧ tokS m b N (if tK b N j = 3 then tT b N j else j)) := by
  have hr0 := hr
  obtain ⟨hM, hW, hsz, hN, hby, ha9, hbb⟩ := hr
  have hbp : 0 < a + 1 := Nat.succ_pos _
  have har : xar (a + 1) 21 120 := ar_9 ha9
  obtain ⟨hj, eK, eF, eT, eV⟩ := id ht
  have hFb := tF_b (b := b) hj
  have hTb := tT_b (b := b) hj
  have hVl := tV_le b N j
  refine Ct.of (lo := [some (.ref 10)]) pln_X3 (Nat.le_of_ble_eq_true rfl) rfl (Nat.le_refl _) ?_
  refine px_aload_n dX3_takeStop_0 rfl rfl ?_
  refine px_getI dX3_takeStop_1 fX3_26 (xol rfl) hM rfl ?_
  refine px_top (y := nI (tK b N j)) eK ?_
  refine px_iconst dX3_takeStop_4 ic_3 ?_
  refine px_icmp_eq 10 dX3_takeStop_5 rfl (fun h5 => ?_) (fun h5 => ?_)
  · have hys : tK b N j = 3 := nI_is (show (3 : Int32) = nI 3 from rfl) (by unfold tK; (repeat' split) <;> omega) (by decide) h5
    refine px_aload_n dX3_takeStop_10 rfl rfl ?_
    refine px_gV0 dX3_takeStop_11 kX3_takeStop_56 (xol rfl) hM (Nat.le_of_ble_eq_true rfl) (c_X3_advance hr0 hTb.2.1 eT) (fun r11 M11 hq11 hn11 => ?_)
    obtain ⟨rfl, q1, q2⟩ := hq11
    refine px_iconst dX3_takeStop_14 ic_1 ?_
    exact px_zret dX3_takeStop_15 rfl (by first | rfl | exact zb_nar) (by rw [zb_t hys, if_pos hys]; exact ⟨rfl, q1, q2⟩) (by first | rfl | exact hn11)
  · have hno : ¬ tK b N j = 3 := fun z => h5 (by rw [z]; rfl)
    refine px_iconst dX3_takeStop_8 ic_0 ?_
    exact px_zret dX3_takeStop_9 rfl (by first | rfl | exact zb_nar) (by rw [zb_f hno, if_neg hno]; exact ⟨rfl, rdS.rf M, ht⟩) (by first | rfl | exact hn11)

set_option maxRecDepth 100000 in
theorem l_iaw {E : xE} {M : xMem} {a N j : Nat} {b : Nat → Int32} (hr : rdr M a N b) (ht : tokS M b N j) {w : Nat} (hw : w < 6) (h1 : tK b N j = 1) (hL : tT b N j - tF b N j = xslen.getD w 0) : (∀ k, k < 0 → b (tF b N j + k) = sch w k) → PR E mX3_isAtWord (xN M) 31 [some (.ref 10), some (.ref (1000 + w)), some (.int (nI (tF b N j + 0)))] [] (M) (fun r m => r = some (.int (zW b N j w)) ∧ m = M) := by
  have hr0 := hr
  obtain ⟨hM, hW, hsz, hN, hby, ha9, hbb⟩ := hr
  have hbp : 0 < a + 1 := Nat.succ_pos _
  have har : xar (a + 1) 21 120 := ar_9 ha9
  obtain ⟨hj, eK, eF, eT, eV⟩ := id ht
  have hFb := tF_b (b := b) hj
  have hTb := tT_b (b := b) hj
  have hVl := tV_le b N j
  have hsl := sln_lt w hw
  refine px_for (P := fun i => (∀ k, k < i → b (tF b N j + k) = sch w k) → PR E mX3_isAtWord (xN M) 31 [some (.ref 10), some (.ref (1000 + w)), some (.int (nI (tF b N j + i)))] [] (M) (fun r m => r = some (.int (zW b N j w)) ∧ m = M)) (xslen.getD w 0) (fun i hi nx => ?_) (0) (Nat.zero_le _)
  intro hm
  refine px_iload_n dX3_isAtWord_31 rfl rfl ?_
  refine px_aload_n dX3_isAtWord_32 rfl rfl ?_
  refine px_getI dX3_isAtWord_33 fX3_32 (xol rfl) hM rfl ?_
  refine px_top (y := nI (tT b N j)) eT ?_
  refine px_icmp_ge 66 dX3_isAtWord_36 rfl (fun h36 => ?_) (fun h36 => ?_)
  · have hi2 : i = xslen.getD w 0 := by rw [nI_leI (by omega) (by omega)] at h36; omega
    subst hi2
    refine px_iconst dX3_isAtWord_66 ic_1 ?_
    exact px_zret dX3_isAtWord_67 rfl (by first | rfl | exact zb_nar) ⟨by rw [show zW b N j w = 1 from @zb_t _ (Classical.propDecidable _) ⟨h1, hL, hm⟩], rfl⟩ (rfl)
  · have hlt : i < xslen.getD w 0 := by rw [nI_leI (by omega) (by omega)] at h36; omega
    refine px_aload_n dX3_isAtWord_39 rfl rfl ?_
    refine px_getR dX3_isAtWord_40 fX3_18 (xol rfl) hM rfl (by assumption) (by assumption) ?_
    refine px_iload_n dX3_isAtWord_43 rfl rfl ?_
    refine px_bald dX3_isAtWord_44 (by assumption) hM (vp_in_nI (by omega) (by decide)) ?_
    refine px_top (y := b (tF b N j + i)) (by rw [nI_clamp (by omega)]; exact hbb _ (by omega)) ?_
    refine px_aload_n dX3_isAtWord_45 rfl rfl ?_
    refine px_iload_n dX3_isAtWord_46 rfl rfl ?_
    refine px_aload_n dX3_isAtWord_47 rfl rfl ?_
    refine px_getI dX3_isAtWord_48 fX3_29 (xol rfl) hM rfl ?_
    refine px_top (y := nI (tF b N j)) eF ?_
    refine px_isub dX3_isAtWord_51 ?_
    refine px_top (y := nI i) (by rw [pk_sub (by omega)]; congr 1; omega) ?_
    refine px_chr hw hlt dX3_isAtWord_52 xw542 (Nat.le_of_ble_eq_true rfl) (Nat.le_of_ble_eq_true rfl) (Nat.le_of_ble_eq_true rfl) ?_
    refine px_icmp_eq 60 dX3_isAtWord_55 rfl (fun h55 => ?_) (fun h55 => ?_)
    · refine px_inc_2 dX3_isAtWord_60 rfl ic_1 ?_
      refine px_goto 31 dX3_isAtWord_63 rfl ?_
      exact px_eq (by rw [nI_1]; rfl) rfl (nx hlt (fun k hk => by by_cases e : k = i; (rw [e]; exact h55); (exact hm k (by omega))))
    · refine px_iconst dX3_isAtWord_58 ic_0 ?_
      exact px_zret dX3_isAtWord_59 rfl (by first | rfl | exact zb_nar) ⟨by rw [show zW b N j w = 0 from @zb_f _ (Classical.propDecidable _) (fun z => h55 (z.2.2 i hlt))], rfl⟩ (rfl)

set_option maxRecDepth 100000 in
theorem c_X3_isAtWord {E : xE} {M : xMem} {a N j : Nat} {b : Nat → Int32} (hr : rdr M a N b) (ht : tokS M b N j) {w : Nat} (hw : w < 6) : Cf E mX3_isAtWord [.ref 10, .ref (1000 + w)] M (some (.int (zW b N j w))) M := by
  refine Ct.of (lo := [some (.ref 10), some (.ref (1000 + w)), none]) pln_X3 (Nat.le_of_ble_eq_true rfl) rfl (Nat.le_refl _) ?_
  have hr0 := hr
  obtain ⟨hM, hW, hsz, hN, hby, ha9, hbb⟩ := hr
  have hbp : 0 < a + 1 := Nat.succ_pos _
  have har : xar (a + 1) 21 120 := ar_9 ha9
  obtain ⟨hj, eK, eF, eT, eV⟩ := id ht
  have hFb := tF_b (b := b) hj
  have hTb := tT_b (b := b) hj
  have hVl := tV_le b N j
  have hsl := sln_lt w hw
  refine px_aload_n dX3_isAtWord_0 rfl rfl ?_
  refine px_getI dX3_isAtWord_1 fX3_26 (xol rfl) hM rfl ?_
  refine px_top (y := nI (tK b N j)) eK ?_
  refine px_iconst dX3_isAtWord_4 ic_1 ?_
  refine px_icmp_ne 24 dX3_isAtWord_5 rfl (fun h5 => ?_) (fun h5 => ?_)
  · refine px_iconst dX3_isAtWord_24 ic_0 ?_
    exact px_zret dX3_isAtWord_25 rfl (by first | rfl | exact zb_nar) ⟨by rw [show zW b N j w = 0 from @zb_f _ (Classical.propDecidable _) (fun z => by first | exact h5 (by rw [z.1]; rfl) | exact h21 (by rw [z.2.1]))], rfl⟩ (rfl)
  · refine px_aload_n dX3_isAtWord_8 rfl rfl ?_
    refine px_getI dX3_isAtWord_9 fX3_32 (xol rfl) hM rfl ?_
    refine px_top (y := nI (tT b N j)) eT ?_
    refine px_aload_n dX3_isAtWord_12 rfl rfl ?_
    refine px_getI dX3_isAtWord_13 fX3_29 (xol rfl) hM rfl ?_
    refine px_top (y := nI (tF b N j)) eF ?_
    refine px_isub dX3_isAtWord_16 ?_
    refine px_top (y := nI (tT b N j - tF b N j)) (pk_sub hTb.1) ?_
    refine px_aload_n dX3_isAtWord_17 rfl rfl ?_
    refine px_len hw dX3_isAtWord_18 xw532 (Nat.le_of_ble_eq_true rfl) (Nat.le_of_ble_eq_true rfl) (Nat.le_of_ble_eq_true rfl) ?_
    refine px_icmp_eq 26 dX3_isAtWord_21 rfl (fun h21 => ?_) (fun h21 => ?_)
    · have h1 : tK b N j = 1 := nI_is (show (1 : Int32) = nI 1 from rfl) (by unfold tK; (repeat' split) <;> omega) (by decide) h5
      have hL : tT b N j - tF b N j = xslen.getD w 0 := (nI_eq (by omega) (by omega)).mp h21
      refine px_aload_n dX3_isAtWord_26 rfl rfl ?_
      refine px_getI dX3_isAtWord_27 fX3_29 (xol rfl) hM rfl ?_
      refine px_top (y := nI (tF b N j)) eF ?_
      refine px_si_2 dX3_isAtWord_30 rfl ?_
      exact l_iaw hr0 ht hw h1 hL (fun k hk => absurd hk (by omega))
    · refine px_iconst dX3_isAtWord_24 ic_0 ?_
      exact px_zret dX3_isAtWord_25 rfl (by first | rfl | exact zb_nar) ⟨by rw [show zW b N j w = 0 from @zb_f _ (Classical.propDecidable _) (fun z => by first | exact h5 (by rw [z.1]; rfl) | exact h21 (by rw [z.2.1]))], rfl⟩ (rfl)

set_option maxRecDepth 100000 in
theorem c_wordOf {E : xE} {M : xMem} {k : Nat} (hk : k < 4) : Cf E mX10_wordOf [.int (nI k)] M (some (.ref (1000 + (k + 2)))) M := by
  refine Ct.of (lo := [some (.int (nI k))]) pln_X10 (Nat.le_of_ble_eq_true rfl) rfl (Nat.le_refl _) ?_
  rcases (show k = 0 ∨ k = 1 ∨ k = 2 ∨ k = 3 by omega) with rfl | rfl | rfl | rfl
  · refine px_iload_n dX10_wordOf_0 rfl rfl ?_
    refine px_tableOut 40 dX10_wordOf_1 (by decide) rfl ?_
    refine px_ldcSw dX10_wordOf_40 (List.mem_of_getElem? (i := 5) rfl) ?_
    exact px_aret dX10_wordOf_43 rfl ⟨rfl, rfl⟩ rfl
  · refine px_iload_n dX10_wordOf_0 rfl rfl ?_
    refine px_tableIn (off := 27) 28 dX10_wordOf_1 (by decide) (by decide) (by rfl) rfl ?_
    refine px_ldcSw dX10_wordOf_28 (List.mem_of_getElem? (i := 2) rfl) ?_
    exact px_aret dX10_wordOf_31 rfl ⟨rfl, rfl⟩ rfl
  · refine px_iload_n dX10_wordOf_0 rfl rfl ?_
    refine px_tableIn (off := 31) 32 dX10_wordOf_1 (by decide) (by decide) (by rfl) rfl ?_
    refine px_ldcSw dX10_wordOf_32 (List.mem_of_getElem? (i := 3) rfl) ?_
    exact px_aret dX10_wordOf_35 rfl ⟨rfl, rfl⟩ rfl
  · refine px_iload_n dX10_wordOf_0 rfl rfl ?_
    refine px_tableIn (off := 35) 36 dX10_wordOf_1 (by decide) (by decide) (by rfl) rfl ?_
    refine px_ldcSw dX10_wordOf_36 (List.mem_of_getElem? (i := 4) rfl) ?_
    exact px_aret dX10_wordOf_39 rfl ⟨rfl, rfl⟩ rfl

set_option maxRecDepth 100000 in
theorem l_kah {E : xE} {M : xMem} {a N j : Nat} {b : Nat → Int32} (hr : rdr M a N b) (ht : tokS M b N j) : (∀ k, k < 0 → ¬ isW b N j (k + 2)) → PR E mX3_kindAtHand (xN M) 2 [some (.ref 10), some (.int (nI 0))] [] (M) (fun r m => r = some (.int (kW b N j)) ∧ m = M) := by
  have hM := hr.1
  refine px_for (P := fun i => (∀ k, k < i → ¬ isW b N j (k + 2)) → PR E mX3_kindAtHand (xN M) 2 [some (.ref 10), some (.int (nI i))] [] (M) (fun r m => r = some (.int (kW b N j)) ∧ m = M)) (4) (fun i hi nx => ?_) (0) (Nat.zero_le _)
  intro hm
  refine px_iload_n dX3_kindAtHand_2 rfl rfl ?_
  refine px_iconst dX3_kindAtHand_3 ic_4 ?_
  refine px_icmp_ge 26 dX3_kindAtHand_4 rfl (fun h4 => ?_) (fun h4 => ?_)
  · have hi2 : i = 4 := by rw [show (4 : Int32) = nI 4 from rfl, nI_leI (by omega) (by omega)] at h4; omega
    subst hi2
    refine px_bipush dX3_kindAtHand_26 bp_m9 ?_
    exact px_iret dX3_kindAtHand_28 rfl (by rw [show kW b N j = -9 from by unfold kW; rw [if_neg (hm 0 (by omega)), if_neg (hm 1 (by omega)), if_neg (hm 2 (by omega)), if_neg (hm 3 (by omega))]]; exact ⟨rfl, rfl⟩) (rfl)
  · have hlt : i < 4 := by rw [show (4 : Int32) = nI 4 from rfl, nI_leI (by omega) (by omega)] at h4; omega
    refine px_aload_n dX3_kindAtHand_7 rfl rfl ?_
    refine px_iload_n dX3_kindAtHand_8 rfl rfl ?_
    refine px_fSN1i dX3_kindAtHand_9 kX3_kindAtHand_129 (Nat.le_of_ble_eq_true rfl) (c_wordOf (by omega)) ?_
    refine px_fV1i dX3_kindAtHand_12 kX3_kindAtHand_71 (xol rfl) hM (Nat.le_of_ble_eq_true rfl) (c_X3_isAtWord (w := i + 2) hr ht (by omega)) ?_
    refine px_cif_eq 20 dX3_kindAtHand_15 rfl (fun h15 => ?_) (fun h15 => ?_)
    · refine px_inc_1 dX3_kindAtHand_20 rfl ic_1 ?_
      refine px_goto 2 dX3_kindAtHand_23 rfl ?_
      exact px_eq (by rw [nI_1]) rfl (nx hlt (fun k hk => by by_cases e : k = i; (rw [e]; exact h15); (exact hm k (by omega))))
    · refine px_iload_n dX3_kindAtHand_18 rfl rfl ?_
      exact px_iret dX3_kindAtHand_19 rfl (by
            have e : kW b N j = nI i := by
              unfold kW
              rcases (show i = 0 ∨ i = 1 ∨ i = 2 ∨ i = 3 by omega) with rfl | rfl | rfl | rfl
              · rw [if_pos h15]; rfl
              · rw [if_neg (hm 0 (by omega)), if_pos h15]; rfl
              · rw [if_neg (hm 0 (by omega)), if_neg (hm 1 (by omega)), if_pos h15]; rfl
              · rw [if_neg (hm 0 (by omega)), if_neg (hm 1 (by omega)), if_neg (hm 2 (by omega)), if_pos h15]; rfl
            rw [e]; exact ⟨rfl, rfl⟩) (rfl)

set_option maxRecDepth 100000 in
theorem c_X3_kindAtHand {E : xE} {M : xMem} {a N j : Nat} {b : Nat → Int32} (hr : rdr M a N b) (ht : tokS M b N j) : Cf E mX3_kindAtHand [.ref 10] M (some (.int (kW b N j))) M := by
  refine Ct.of (lo := [some (.ref 10), none]) pln_X3 (Nat.le_of_ble_eq_true rfl) rfl (Nat.le_refl _) ?_
  refine px_iconst dX3_kindAtHand_0 ic_0 ?_
  refine px_si_1 dX3_kindAtHand_1 rfl ?_
  exact l_kah hr ht (fun k hk => absurd hk (by omega))
