/-! ===== words and statements of the reference ===== -/
theorem teq {b : Nat → Int32} {N p j : Nat} (h : tF b N p = tF b N j) : tK b N p = tK b N j ∧ tT b N p = tT b N j ∧ tV b N p = tV b N j := by
  unfold tK tT tV; rw [h]; exact ⟨rfl, rfl, rfl⟩
theorem teqW {b : Nat → Int32} {N p j : Nat} (h : tF b N p = tF b N j) : isW b N p = isW b N j ∧ kW b N p = kW b N j := by
  obtain ⟨h1, h2, h3⟩ := teq h
  have e : isW b N p = isW b N j := by funext i; unfold isW; rw [h, h1, h2]
  exact ⟨e, by unfold kW; rw [e]⟩
theorem teqP {b : Nat → Int32} {N p j : Nat} (h : tF b N p = tF b N j) : ∀ k, ps b N p (k + 1) = ps b N j (k + 1)
  | 0 => (teq h).2.1
  | k + 1 => by
    show tT b N (ps b N p (k + 1)) = tT b N (ps b N j (k + 1))
    rw [teqP h k]
theorem teqC {b : Nat → Int32} {N p j : Nat} (h : tF b N p = tF b N j) : (∀ k, 1 ≤ k → ps b N p k = ps b N j k) ∧ (∀ k, 1 ≤ k → vv b N p k = vv b N j k) ∧ blC b N p = blC b N j ∧ fmC b N p = fmC b N j ∧ pgC b N p = pgC b N j := by
  have e : ∀ k, 1 ≤ k → ps b N p k = ps b N j k := fun k hk => by rw [show k = (k - 1) + 1 by omega]; exact teqP h _
  have v : ∀ k, 1 ≤ k → vv b N p k = vv b N j k := fun k hk => by unfold vv; rw [e k hk]
  refine ⟨e, v, ?_, ?_, ?_⟩
  · funext q; unfold blC; rw [e 1 (by omega), e 2 (by omega)]
  · funext q; unfold fmC
    rw [v 1 (by omega), v 2 (by omega), v 3 (by omega), v 4 (by omega), v 5 (by omega), v 6 (by omega), e 5 (by omega), e 6 (by omega), e 7 (by omega)]
    by_cases c1 : q = 1 ∨ q = 2
    · rw [if_pos c1, if_pos c1, e q (by omega)]
    · rw [if_neg c1, if_neg c1]
      by_cases c2 : q = 3 ∨ q = 4
      · rw [if_pos c2, if_pos c2, e q (by omega)]
      · rw [if_neg c2, if_neg c2]
  · funext q; unfold pgC
    rw [e 3 (by omega)]
    by_cases c1 : q = 1 ∨ q = 2
    · rw [if_pos c1, if_pos c1, e q (by omega)]
    · rw [if_neg c1, if_neg c1]
/-- a word as a number -/
def wvD (d : Nat → Nat) : Nat → Nat
  | 0 => 0
  | k + 1 => 27 * wvD d k + d k
theorem wvD_lt {d : Nat → Nat} : ∀ k, (∀ i, i < k → d i ≤ 26) → wvD d k < 27 ^ k
  | 0, _ => by rw [wvD]; decide
  | k + 1, h => by
    have ih := wvD_lt k (fun i hi => h i (by omega))
    have := h k (by omega)
    rw [wvD, Nat.pow_succ]; omega
theorem wvD_inj {d d' : Nat → Nat} : ∀ k k', (∀ i, i < k → 1 ≤ d i ∧ d i ≤ 26) → (∀ i, i < k' → 1 ≤ d' i ∧ d' i ≤ 26) → wvD d k = wvD d' k' → k = k' ∧ ∀ i, i < k → d i = d' i
  | 0, 0, _, _, _ => ⟨rfl, fun i hi => absurd hi (Nat.not_lt_zero i)⟩
  | 0, k' + 1, _, h', e => by
    have := h' k' (by omega)
    rw [wvD, wvD] at e; omega
  | k + 1, 0, h, _, e => by
    have := h k (by omega)
    rw [wvD, wvD] at e; omega
  | k + 1, k' + 1, h, h', e => by
    have h1 := h k (by omega)
    have h2 := h' k' (by omega)
    rw [wvD, wvD] at e
    obtain ⟨e1, e2⟩ := wvD_inj k k' (fun i hi => h i (by omega)) (fun i hi => h' i (by omega)) (by omega)
    subst e1
    refine ⟨rfl, fun i hi => ?_⟩
    by_cases z : i = k
    · rw [z]; omega
    · exact e2 i (by omega)
def dgt (b : Nat → Int32) (f k : Nat) : Nat := (b (f + k)).toNatClampNeg - 96
def sdg (i k : Nat) : Nat := (sch i k).toNatClampNeg - 96
def wC (i : Nat) : Nat := wvD (sdg i) (xslen.getD i 0)
theorem wC_all : wC 0 = 315851 ∧ wC 1 = 1302862 ∧ wC 2 = 3544025 ∧ wC 3 = 179753 ∧ wC 4 = 37026792 ∧ wC 5 = 247335 := by decide +kernel
theorem wC_pos : ∀ i, i < 6 → 1 ≤ wC i := by decide +kernel
theorem sdg_ok : ∀ i, i < 6 → ∀ k, k < xslen.getD i 0 → 1 ≤ sdg i k ∧ sdg i k ≤ 26 ∧ sch i k = nI (sdg i k + 96) := by decide +kernel
theorem ltr_n {b : Nat → Int32} {i : Nat} (h : ltr b i = true) : ∃ c, 97 ≤ c ∧ c ≤ 122 ∧ b i = nI c := by
  have h := of_decide_eq_true h
  obtain ⟨c, hc, e⟩ := nI_of2 (x := b i) (M := 122) (n := 122) rfl (fun z => by simp only [Int32.le_iff_toInt_le, Int32.lt_iff_toInt_lt, Int32.reduceToInt] at *; omega) h.2
  have h1 := h.1
  rw [e, show (97 : Int32) = nI 97 from rfl, nI_leI (by decide) (by omega)] at h1
  exact ⟨c, h1, hc, e⟩
theorem tk1_l {b : Nat → Int32} {N j : Nat} (h : tK b N j = 1) : tT b N j = sc (ltr b) N (tF b N j) ∧ ∀ k, k < tT b N j - tF b N j → ltr b (tF b N j + k) = true := by
  have h0 : ¬ N ≤ tF b N j := fun z => by unfold tK at h; rw [if_pos z] at h; omega
  have h1 : ltr b (tF b N j) = true := by
    unfold tK at h
    rw [if_neg h0] at h
    by_cases z : ltr b (tF b N j) = true
    · exact z
    · rw [if_neg z] at h; exfalso; revert h; (repeat' split) <;> omega
  have e : tT b N j = sc (ltr b) N (tF b N j) := by unfold tT; rw [if_neg h0, if_pos h1]
  exact ⟨e, fun k hk => sc_in (ltr b) (N - tF b N j) _ _ (Nat.le_add_right _ _) (by unfold sc at e; omega)⟩
noncomputable def wdV (b : Nat → Int32) (N j : Nat) : Nat := if tK b N j = 1 then (if 6 < tT b N j - tF b N j then 0 else wvD (dgt b (tF b N j)) (tT b N j - tF b N j)) else 0
theorem dg_ok {b : Nat → Int32} {f k : Nat} (h : ltr b (f + k) = true) : 1 ≤ dgt b f k ∧ dgt b f k ≤ 26 ∧ b (f + k) = nI (dgt b f k + 96) := by
  obtain ⟨c, c1, c2, e⟩ := ltr_n h
  have e2 : dgt b f k = c - 96 := by unfold dgt; rw [e, nI_clamp (by omega)]
  rw [e2, e]
  exact ⟨by omega, by omega, congrArg nI (by omega)⟩
theorem wv_c {d d' : Nat → Nat} : ∀ n, (∀ k, k < n → d k = d' k) → wvD d n = wvD d' n
  | 0, _ => rfl
  | n + 1, h => by rw [wvD, wvD, wv_c n (fun k hk => h k (by omega)), h n (by omega)]
theorem wd_a {b : Nat → Int32} {f L i : Nat} (hi : i < 6) (hl : ∀ k, k < L → ltr b (f + k) = true) : wvD (dgt b f) L = wvD (sdg i) (xslen.getD i 0) ↔ (L = xslen.getD i 0 ∧ ∀ k, k < xslen.getD i 0 → b (f + k) = sch i k) := by
  constructor
  · intro z
    obtain ⟨e1, e2⟩ := wvD_inj L (xslen.getD i 0) (fun k hk => ⟨(dg_ok (hl k hk)).1, (dg_ok (hl k hk)).2.1⟩) (fun k hk => ⟨(sdg_ok i hi k hk).1, (sdg_ok i hi k hk).2.1⟩) z
    refine ⟨e1, fun k hk => ?_⟩
    have hk2 : k < L := by rw [e1]; exact hk
    exact (dg_ok (hl k hk2)).2.2.trans ((congrArg (fun x => nI (x + 96)) (e2 k hk2)).trans (sdg_ok i hi k hk).2.2.symm)
  · rintro ⟨e1, e2⟩
    rw [e1]
    refine wv_c _ (fun k hk => ?_)
    show (b (f + k)).toNatClampNeg - 96 = (sch i k).toNatClampNeg - 96
    rw [e2 k hk]
theorem wd_i {b : Nat → Int32} {N j i : Nat} (hj : j ≤ N) (hi : i < 6) : wdV b N j = wC i ↔ isW b N j i := by
  have hsl := sln_lt i hi
  have hpos := wC_pos i hi
  have hl := fun h1 : tK b N j = 1 => (tk1_l h1).2
  have ha := fun h1 : tK b N j = 1 => wd_a (b := b) (f := tF b N j) (L := tT b N j - tF b N j) hi (hl h1)
  have hw : wC i = wvD (sdg i) (xslen.getD i 0) := rfl
  rw [← hw] at ha
  revert hpos ha
  generalize wC i = wc
  intro hpos ha
  unfold wdV isW
  generalize xslen.getD i 0 = sl at *
  by_cases h1 : tK b N j = 1
  · rw [if_pos h1]
    by_cases h6 : 6 < tT b N j - tF b N j
    · rw [if_pos h6]
      exact ⟨fun z => by omega, fun z => by have := z.2.1; omega⟩
    · rw [if_neg h6]
      exact ⟨fun z => ⟨h1, (ha h1).mp z⟩, fun z => (ha h1).mpr z.2⟩
  · rw [if_neg h1]
    exact ⟨fun z => by omega, fun z => absurd z.1 h1⟩
theorem wd_lt {b : Nat → Int32} {N j : Nat} (hj : j ≤ N) : wdV b N j < 2 ^ 30 := by
  unfold wdV
  by_cases h1 : tK b N j = 1
  · rw [if_pos h1]
    by_cases h6 : 6 < tT b N j - tF b N j
    · rw [if_pos h6]; decide
    · rw [if_neg h6]
      have hl := (tk1_l h1).2
      have := wvD_lt (d := dgt b (tF b N j)) (tT b N j - tF b N j) (fun k hk => by
        obtain ⟨c, c1, c2, e⟩ := ltr_n (hl k hk)
        unfold dgt; rw [e, nI_clamp (by omega)]; omega)
      have h2 : 27 ^ (tT b N j - tF b N j) ≤ 27 ^ 6 := Nat.pow_le_pow_right (by decide) (by omega)
      have h3 : (27 : Nat) ^ 6 < 2 ^ 30 := by decide
      omega
  · rw [if_neg h1]; decide

set_option maxRecDepth 100000 in
theorem l_word {E : xE} {M : xMem} {t N j : Nat} {b : Nat → Int32} (hr : mrd M t N b) (hj : j ≤ N) (ht : mtok M b N j) (h1 : tK b N j = 1) : PR E mX11_word (xN M) 7 [some (.ref 74), some (.int (nI t)), some (.int (nI (wvD (dgt b (tF b N j)) 0))), some (.int (nI (tF b N j + 0)))] [] (M) (fun r m => r = some (.int (nI (wdV b N j))) ∧ m = M) := by
  have hr0 := hr
  obtain ⟨hM, hW, ht4, hsz, hN, hbb⟩ := hr
  have hFb := tF_b (b := b) hj
  have hTb := tT_b (b := b) hj
  have hl := (tk1_l h1).2
  have hdg : ∀ k, k < tT b N j - tF b N j → dgt b (tF b N j) k ≤ 26 ∧ b (tF b N j + k) = nI (dgt b (tF b N j) k + 96) := fun k hk => by
    obtain ⟨c, c1, c2, e⟩ := ltr_n (hl k hk)
    unfold dgt
    rw [e, nI_clamp (by omega)]
    exact ⟨by omega, by congr 1; omega⟩
  have hmn : (if 6 < tT b N j - tF b N j then 6 else tT b N j - tF b N j) ≤ 6 ∧ (if 6 < tT b N j - tF b N j then 6 else tT b N j - tF b N j) ≤ tT b N j - tF b N j := by split <;> omega
  refine px_for (P := fun i => PR E mX11_word (xN M) 7 [some (.ref 74), some (.int (nI t)), some (.int (nI (wvD (dgt b (tF b N j)) i))), some (.int (nI (tF b N j + i)))] [] (M) (fun r m => r = some (.int (nI (wdV b N j))) ∧ m = M)) ((if 6 < tT b N j - tF b N j then 6 else tT b N j - tF b N j)) (fun i hi nx => ?_) (0) (Nat.zero_le _)
  refine px_iload_n dX11_word_7 rfl rfl ?_
  refine px_aload_n dX11_word_8 rfl rfl ?_
  refine px_getI dX11_word_9 fX11_97 (xol rfl) hM rfl ?_
  refine px_top (y := nI (tT b N j)) ht.1 ?_
  refine px_icmp_ge 47 dX11_word_12 rfl (fun h12 => ?_) (fun h12 => ?_)
  · have hge : i = (if 6 < tT b N j - tF b N j then 6 else tT b N j - tF b N j) := by
      first
        | (rw [nI_leI (by omega) (by omega)] at h12; split <;> split at hi <;> omega)
        | (rw [nI_leI (by omega) (by omega)] at h12 h23; split <;> split at hi <;> omega)
    refine px_aload_n dX11_word_47 rfl rfl ?_
    refine px_getI dX11_word_48 fX11_97 (xol rfl) hM rfl ?_
    refine px_top (y := nI (tT b N j)) ht.1 ?_
    refine px_aload_n dX11_word_51 rfl rfl ?_
    refine px_getI dX11_word_52 fX11_107 (xol rfl) hM rfl ?_
    refine px_top (y := nI (tF b N j)) ht.2.1 ?_
    refine px_isub dX11_word_55 ?_
    refine px_top (y := nI (tT b N j - tF b N j)) (pk_sub hTb.1) ?_
    refine px_bipush dX11_word_56 bp_6 ?_
    refine px_icmp_le 65 dX11_word_58 rfl (fun h58 => ?_) (fun h58 => ?_)
    · have h58n : ¬ 6 < tT b N j - tF b N j := by rw [show (6 : Int32) = nI 6 from rfl, nI_leI (by omega) (by omega)] at h58; omega
      refine px_iload_n dX11_word_65 rfl rfl ?_
      exact px_iret dX11_word_66 rfl (by unfold wdV; first | (rw [if_pos h1, if_pos h58n]; exact ⟨rfl, rfl⟩) | (rw [if_pos h1, if_neg h58n]; rw [if_neg h58n] at hge; rw [hge]; exact ⟨rfl, rfl⟩)) (rfl)
    · have h58n : 6 < tT b N j - tF b N j := by rw [show (6 : Int32) = nI 6 from rfl, nI_leI (by omega) (by omega)] at h58; omega
      refine px_iconst dX11_word_61 ic_0 ?_
      refine px_goto 66 dX11_word_62 rfl ?_
      exact px_iret dX11_word_66 rfl (by unfold wdV; first | (rw [if_pos h1, if_pos h58n]; exact ⟨rfl, rfl⟩) | (rw [if_pos h1, if_neg h58n]; rw [if_neg h58n] at hge; rw [hge]; exact ⟨rfl, rfl⟩)) (rfl)
  · refine px_iload_n dX11_word_15 rfl rfl ?_
    refine px_aload_n dX11_word_16 rfl rfl ?_
    refine px_getI dX11_word_17 fX11_107 (xol rfl) hM rfl ?_
    refine px_top (y := nI (tF b N j)) ht.2.1 ?_
    refine px_bipush dX11_word_20 bp_6 ?_
    refine px_iadd dX11_word_22 ?_
    refine px_top (y := nI (tF b N j + 6)) (by rw [show (6 : Int32) = nI 6 from rfl, nI_add]) ?_
    refine px_icmp_ge 47 dX11_word_23 rfl (fun h23 => ?_) (fun h23 => ?_)
    · have hge : i = (if 6 < tT b N j - tF b N j then 6 else tT b N j - tF b N j) := by
        first
          | (rw [nI_leI (by omega) (by omega)] at h12; split <;> split at hi <;> omega)
          | (rw [nI_leI (by omega) (by omega)] at h12 h23; split <;> split at hi <;> omega)
      refine px_aload_n dX11_word_47 rfl rfl ?_
      refine px_getI dX11_word_48 fX11_97 (xol rfl) hM rfl ?_
      refine px_top (y := nI (tT b N j)) ht.1 ?_
      refine px_aload_n dX11_word_51 rfl rfl ?_
      refine px_getI dX11_word_52 fX11_107 (xol rfl) hM rfl ?_
      refine px_top (y := nI (tF b N j)) ht.2.1 ?_
      refine px_isub dX11_word_55 ?_
      refine px_top (y := nI (tT b N j - tF b N j)) (pk_sub hTb.1) ?_
      refine px_bipush dX11_word_56 bp_6 ?_
      refine px_icmp_le 65 dX11_word_58 rfl (fun h58 => ?_) (fun h58 => ?_)
      · have h58n : ¬ 6 < tT b N j - tF b N j := by rw [show (6 : Int32) = nI 6 from rfl, nI_leI (by omega) (by omega)] at h58; omega
        refine px_iload_n dX11_word_65 rfl rfl ?_
        exact px_iret dX11_word_66 rfl (by unfold wdV; first | (rw [if_pos h1, if_pos h58n]; exact ⟨rfl, rfl⟩) | (rw [if_pos h1, if_neg h58n]; rw [if_neg h58n] at hge; rw [hge]; exact ⟨rfl, rfl⟩)) (rfl)
      · have h58n : 6 < tT b N j - tF b N j := by rw [show (6 : Int32) = nI 6 from rfl, nI_leI (by omega) (by omega)] at h58; omega
        refine px_iconst dX11_word_61 ic_0 ?_
        refine px_goto 66 dX11_word_62 rfl ?_
        exact px_iret dX11_word_66 rfl (by unfold wdV; first | (rw [if_pos h1, if_pos h58n]; exact ⟨rfl, rfl⟩) | (rw [if_pos h1, if_neg h58n]; rw [if_neg h58n] at hge; rw [hge]; exact ⟨rfl, rfl⟩)) (rfl)
    · have hlt : i < (if 6 < tT b N j - tF b N j then 6 else tT b N j - tF b N j) := by
        rw [nI_leI (by omega) (by omega)] at h12 h23
        split <;> omega
      have hd1 := hdg i (by omega)
      have hwl := wvD_lt (d := dgt b (tF b N j)) i (fun k hk => (hdg k (by omega)).1)
      have hp6 : 27 ^ i ≤ 27 ^ 6 := Nat.pow_le_pow_right (by decide) (by omega)
      have hp7 : (27 : Nat) ^ 6 = 387420489 := by decide
      refine px_bipush dX11_word_26 bp_27 ?_
      refine px_iload_n dX11_word_28 rfl rfl ?_
      refine px_imul dX11_word_29 ?_
      refine px_aload_n dX11_word_30 rfl rfl ?_
      refine px_iload_n dX11_word_31 rfl rfl ?_
      refine px_iload_n dX11_word_32 rfl rfl ?_
      refine px_fV2i dX11_word_33 kX11_word_100 (xol rfl) hM (Nat.le_of_ble_eq_true rfl) (c_X11_byteAt hr0 (by omega)) ?_
      refine px_top (y := b (tF b N j + i)) (if_pos (by omega)) ?_
      refine px_iadd dX11_word_36 ?_
      refine px_bipush dX11_word_37 bp_96 ?_
      refine px_isub dX11_word_39 ?_
      refine px_top (y := nI (wvD (dgt b (tF b N j)) (i + 1))) (by rw [hd1.2, show (27 : Int32) = nI 27 from rfl, pk_mul, nI_add, show (96 : Int32) = nI 96 from rfl, pk_sub (by omega)]; congr 1; try (rw [wvD]; omega)) ?_
      refine px_si_2 dX11_word_40 rfl ?_
      refine px_inc_3 dX11_word_41 rfl ic_1 ?_
      refine px_goto 7 dX11_word_44 rfl ?_
      exact px_eq (by rw [nI_1]; rfl) rfl (nx hlt)

set_option maxRecDepth 100000 in
theorem c_X11_word {E : xE} {M : xMem} {t N j : Nat} {b : Nat → Int32} (hr : mrd M t N b) (hj : j ≤ N) (ht : mtok M b N j) (h1 : tK b N j = 1) : Cf E mX11_word [.ref 74, .int (nI t)] M (some (.int (nI (wdV b N j)))) M := by
  refine Ct.of (lo := [some (.ref 74), some (.int (nI t)), none, none]) pln_X11 (Nat.le_of_ble_eq_true rfl) rfl (Nat.le_refl _) ?_
  refine px_iconst dX11_word_0 ic_0 ?_
  refine px_si_2 dX11_word_1 rfl ?_
  refine px_aload_n dX11_word_2 rfl rfl ?_
  refine px_getI dX11_word_3 fX11_107 (xol rfl) hr.1 rfl ?_
  refine px_top (y := nI (tF b N j)) ht.2.1 ?_
  refine px_si_3 dX11_word_6 rfl ?_
  exact l_word hr hj ht h1
