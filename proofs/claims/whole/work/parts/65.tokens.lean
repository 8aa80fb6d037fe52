/-! ===== tokens; advance ===== -/
theorem px_ldcSw {E : xE} {d : xMD} {ne pc : Nat} {lo : List (Option Value)} {st : List Value} {M : xMem} {Q : Option Value → xMem → Prop} {index i : Nat} {tx : String} (hd : decode d.co pc = .ok (.ldc_w index, 3)) (hq : (d.nm.cls, index, tx, i) ∈ xstr) (k : PR E d ne (pc + 3) lo (.ref (1000 + i) :: st) M Q) : PR E d ne pc lo st M Q := by
  intro p e R s m args below meth c H ls locs cells slots Z S
  have kk := k p e R s m args below meth c H ls locs cells slots Z S
  rw [List.map_cons, cv_s] at kk
  have hZ := S.1.2.2.2.2.2.1.2.2.2 _ hq
  have hb := S.1.2.1
  intro T hT X
  obtain ⟨t, a1, b1⟩ := kk T hT X
  exact ⟨t, X.ldcStringW S.1.1 S.1.2.2.2.1 (text := tx) (a := E.sk i) hZ.1 hZ.2 (g := F0 m pc ls (st.map (cv E))) rfl (by rw [hb]; exact hd) t a1, b1⟩
def scn (p : Nat → Bool) : Nat → Nat → Nat
  | 0, i => i
  | k + 1, i => if p i = true then scn p k (i + 1) else i
def sc (p : Nat → Bool) (N i : Nat) : Nat := scn p (N - i) i
theorem sc_t {p : Nat → Bool} {N i : Nat} (hi : i < N) (h : p i = true) : sc p N i = sc p N (i + 1) := by
  unfold sc; rw [show N - i = (N - (i + 1)) + 1 by omega, scn, if_pos h]
theorem sc_f {p : Nat → Bool} {N i : Nat} (h : ¬ p i = true) : sc p N i = i := by
  unfold sc
  cases hk : N - i with
  | zero => rfl
  | succ k => rw [scn, if_neg h]
theorem sc_N {p : Nat → Bool} {N i : Nat} (h : N ≤ i) : sc p N i = i := by unfold sc; rw [show N - i = 0 by omega]; rfl
theorem scn_b (p : Nat → Bool) : ∀ k i, i ≤ scn p k i ∧ scn p k i ≤ i + k ∧ (scn p k i = i + k ∨ ¬ p (scn p k i) = true)
  | 0, i => ⟨Nat.le_refl _, Nat.le_refl _, Or.inl rfl⟩
  | k + 1, i => by
    rw [scn]
    split
    · have := scn_b p k (i + 1)
      refine ⟨by omega, by omega, ?_⟩
      rcases this.2.2 with z | z
      · exact Or.inl (by omega)
      · exact Or.inr z
    · rename_i h
      exact ⟨Nat.le_refl _, by omega, Or.inr h⟩
theorem sc_b (p : Nat → Bool) {N i : Nat} (h : i ≤ N) : i ≤ sc p N i ∧ sc p N i ≤ N ∧ (sc p N i = N ∨ ¬ p (sc p N i) = true) := by
  have := scn_b p (N - i) i
  unfold sc
  refine ⟨this.1, by omega, ?_⟩
  rcases this.2.2 with z | z
  · exact Or.inl (by omega)
  · exact Or.inr z
theorem sc_in (p : Nat → Bool) : ∀ k i j, i ≤ j → j < scn p k i → p j = true
  | 0, i, j, h1, h2 => by rw [scn] at h2; omega
  | k + 1, i, j, h1, h2 => by
    rw [scn] at h2
    split at h2
    · rename_i h
      by_cases e : i = j
      · rw [← e]; exact h
      · exact sc_in p k (i + 1) j (by omega) h2
    · omega
def bl (b : Nat → Int32) (i : Nat) : Bool := decide (b i = 32)
def ltr (b : Nat → Int32) (i : Nat) : Bool := decide (97 ≤ b i ∧ b i ≤ 122)
def fg (b : Nat → Int32) (i : Nat) : Bool := decide (48 ≤ b i ∧ b i ≤ 57)
def tF (b : Nat → Int32) (N i : Nat) : Nat := sc (bl b) N i
def tK (b : Nat → Int32) (N i : Nat) : Nat := if N ≤ tF b N i then 0 else if ltr b (tF b N i) = true then 1 else if fg b (tF b N i) = true then 2 else if b (tF b N i) = 59 then 3 else 4
def tT (b : Nat → Int32) (N i : Nat) : Nat := if N ≤ tF b N i then tF b N i else if ltr b (tF b N i) = true then sc (ltr b) N (tF b N i) else if fg b (tF b N i) = true then sc (fg b) N (tF b N i) else tF b N i + 1
def stp (v : Nat) (c : Int32) : Nat := if 1000 ≤ 10 * v + (c.toNatClampNeg - 48) then 1000 else 10 * v + (c.toNatClampNeg - 48)
def nvn (b : Nat → Int32) : Nat → Nat → Nat → Nat
  | 0, _, v => v
  | k + 1, i, v => if fg b i = true then nvn b k (i + 1) (stp v (b i)) else v
def nv (b : Nat → Int32) (N i v : Nat) : Nat := nvn b (N - i) i v
theorem nv_t {b : Nat → Int32} {N i v : Nat} (hi : i < N) (h : fg b i = true) : nv b N i v = nv b N (i + 1) (stp v (b i)) := by
  unfold nv; rw [show N - i = (N - (i + 1)) + 1 by omega, nvn, if_pos h]
theorem nv_f {b : Nat → Int32} {N i v : Nat} (h : ¬ fg b i = true) : nv b N i v = v := by
  unfold nv
  cases hk : N - i with
  | zero => rfl
  | succ k => rw [nvn, if_neg h]
theorem nv_N {b : Nat → Int32} {N i v : Nat} (h : N ≤ i) : nv b N i v = v := by unfold nv; rw [show N - i = 0 by omega]; rfl
def tV (b : Nat → Int32) (N i : Nat) : Nat := nv b N (tF b N i) 0
theorem stp_le (v : Nat) (c : Int32) : stp v c ≤ 1000 := by unfold stp; split <;> omega
theorem nvn_le (b : Nat → Int32) : ∀ k i v, v ≤ 1000 → nvn b k i v ≤ 1000
  | 0, _, v, h => h
  | k + 1, i, v, h => by
    rw [nvn]; split
    · exact nvn_le b k (i + 1) _ (stp_le _ _)
    · exact h
theorem tV_le (b : Nat → Int32) (N i : Nat) : tV b N i ≤ 1000 := nvn_le b _ _ 0 (by omega)
theorem tF_b {b : Nat → Int32} {N i : Nat} (h : i ≤ N) : i ≤ tF b N i ∧ tF b N i ≤ N := ⟨(sc_b _ h).1, (sc_b _ h).2.1⟩
theorem tT_b {b : Nat → Int32} {N i : Nat} (h : i ≤ N) : tF b N i ≤ tT b N i ∧ tT b N i ≤ N ∧ (¬ tK b N i = 0 → i < tT b N i) := by
  have hF := tF_b (b := b) h
  unfold tT tK
  by_cases h1 : N ≤ tF b N i
  · rw [if_pos h1, if_pos h1]; exact ⟨Nat.le_refl _, hF.2, fun z => absurd rfl z⟩
  · rw [if_neg h1, if_neg h1]
    have hlt : tF b N i < N := by omega
    by_cases h2 : ltr b (tF b N i) = true
    · rw [if_pos h2, sc_t hlt h2]
      have := sc_b (ltr b) (N := N) (i := tF b N i + 1) (by omega)
      exact ⟨by omega, by omega, fun _ => by omega⟩
    · rw [if_neg h2]
      by_cases h3 : fg b (tF b N i) = true
      · rw [if_pos h3, sc_t hlt h3]
        have := sc_b (fg b) (N := N) (i := tF b N i + 1) (by omega)
        exact ⟨by omega, by omega, fun _ => by omega⟩
      · rw [if_neg h3]; exact ⟨by omega, by omega, fun _ => by omega⟩
theorem tF_id {b : Nat → Int32} {N i : Nat} (h : i ≤ N) : tF b N (tF b N i) = tF b N i := by
  rcases (sc_b (bl b) h).2.2 with z | z
  · exact sc_N (by show N ≤ tF b N i; unfold tF; omega)
  · exact sc_f z
theorem tk_id {b : Nat → Int32} {N i : Nat} (h : i ≤ N) : tK b N (tF b N i) = tK b N i ∧ tT b N (tF b N i) = tT b N i ∧ tV b N (tF b N i) = tV b N i := by
  unfold tK tT tV; rw [tF_id h]; exact ⟨rfl, rfl, rfl⟩
theorem tk_end {b : Nat → Int32} {N i : Nat} (h : i ≤ N) : tK b N i = 0 ↔ tF b N i = N := by
  have := (tF_b (b := b) h).2
  unfold tK
  constructor
  · intro z
    by_cases h1 : N ≤ tF b N i
    · omega
    · rw [if_neg h1] at z; exfalso; revert z; (repeat' split) <;> omega
  · intro z; rw [if_pos (by omega)]
theorem fg_n {b : Nat → Int32} {i : Nat} (h : fg b i = true) : ∃ c, 48 ≤ c ∧ c ≤ 57 ∧ b i = nI c := by
  have h := of_decide_eq_true h
  obtain ⟨c, hc, e⟩ := nI_of2 (x := b i) (M := 57) (n := 57) rfl (fun z => by simp only [Int32.le_iff_toInt_le, Int32.lt_iff_toInt_lt, Int32.reduceToInt] at *; omega) h.2
  have h1 := h.1
  rw [e, show (48 : Int32) = nI 48 from rfl, nI_leI (by decide) (by omega)] at h1
  exact ⟨c, h1, hc, e⟩
theorem stp_c {b : Nat → Int32} {i v : Nat} (h : fg b i = true) (hv : v ≤ 1000) : (if 10 * nI v + b i - 48 < 1000 then 10 * nI v + b i - 48 else 1000) = nI (stp v (b i)) := by
  obtain ⟨c, h1, h2, e⟩ := fg_n h
  have e1 : 10 * nI v + b i - 48 = nI (10 * v + (c - 48)) := by
    rw [e, show (10 : Int32) = nI 10 from rfl, pk_mul, nI_add, show (48 : Int32) = nI 48 from rfl, pk_sub (by omega)]
    congr 1; omega
  rw [e1, show (1000 : Int32) = nI 1000 from rfl]
  unfold stp
  rw [e, nI_clamp (by omega)]
  by_cases z : 1000 ≤ 10 * v + (c - 48)
  · rw [if_pos z, if_neg (nI_nlt z (by omega))]
  · rw [if_neg z, if_pos (nI_lt (by omega) (by decide))]
/-- the reader over a text of N bytes -/
def rdr (M : xMem) (a N : Nat) (b : Nat → Int32) : Prop := xNT ≤ xN M ∧ xWire M.2.1 ∧ M.1 10 2 = nI N ∧ N ≤ 120 ∧ M.2.1 10 1 = a + 1 ∧ xob a 9 ∧ ∀ i, i < N → M.1 (a + 1) i = b i
def tokS (M : xMem) (b : Nat → Int32) (N j : Nat) : Prop := j ≤ N ∧ M.1 10 3 = nI (tK b N j) ∧ M.1 10 4 = nI (tF b N j) ∧ M.1 10 5 = nI (tT b N j) ∧ (tK b N j = 2 → M.1 10 6 = nI (tV b N j))
def rdS (M m : xMem) : Prop := m.2 = M.2 ∧ (∀ a, a ≠ 10 → m.1 a = M.1 a) ∧ ∀ k, (k < 3 ∨ 6 < k) → m.1 10 k = M.1 10 k
theorem rdS.rf (M : xMem) : rdS M M := ⟨rfl, fun _ _ => rfl, fun _ _ => rfl⟩
theorem rdS.tr {M M1 M2 : xMem} (h : rdS M M1) (h' : rdS M1 M2) : rdS M M2 := ⟨h'.1.trans h.1, fun a a1 => (h'.2.1 a a1).trans (h.2.1 a a1), fun k k1 => (h'.2.2 k k1).trans (h.2.2 k k1)⟩
theorem rdS.p {M m : xMem} (h : rdS M m) {k : Nat} {v : Int32} (hk : 3 ≤ k ∧ k ≤ 6) : rdS M (wI m 10 k v) := ⟨h.1, fun a a1 => by funext i; rw [xI_wI, if_neg (fun z => a1 z.1), h.2.1 a a1], fun i i1 => by rw [xI_wI, if_neg (fun z => by omega), h.2.2 i i1]⟩
theorem rdS.r {M m : xMem} {a N : Nat} {b : Nat → Int32} (h : rdS M m) (hr : rdr M a N b) : rdr m a N b := by
  obtain ⟨h1, h2, h3, h4, h5, h6, h7⟩ := hr
  have := xob_9 h6
  exact ⟨by show xNT ≤ m.2.2.2; rw [h.1]; exact h1, by rw [h.1]; exact h2, by rw [h.2.2 2 (by omega)]; exact h3, h4, by rw [h.1]; exact h5, h6, fun i hi => by rw [h.2.1 (a + 1) (by omega)]; exact h7 i hi⟩

set_option maxRecDepth 100000 in
theorem l_adv5 {E : xE} {M : xMem} {a N F : Nat} {b : Nat → Int32} {Q : Option Value → xMem → Prop} (hr : rdr M a N b) {j : Nat} (hj : j ≤ N) (kk : PR E mX3_advance (xN M) 30 [some (.ref 10), some (.int (nI F))] [] M Q) : sc (bl b) N (j) = F → PR E mX3_advance (xN M) 5 [some (.ref 10), some (.int (nI (j)))] [] (M) (Q) := by
  obtain ⟨hM, hW, hsz, hN, hby, ha9, hbb⟩ := hr
  have hbp : 0 < a + 1 := Nat.succ_pos _
  have har : xar (a + 1) 21 120 := ar_9 ha9
  have h9 := xob_9 ha9
  refine px_for (P := fun i => sc (bl b) N i = F → PR E mX3_advance (xN M) 5 [some (.ref 10), some (.int (nI i))] [] (M) (Q)) (N) (fun i hi nx => ?_) (j) hj
  intro hF
  refine px_iload_n dX3_advance_5 rfl rfl ?_
  refine px_aload_n dX3_advance_6 rfl rfl ?_
  refine px_getI dX3_advance_7 fX3_22 (xol rfl) hM rfl ?_
  refine px_top (y := nI N) hsz ?_
  refine px_icmp_ge 30 dX3_advance_10 rfl (fun h10 => ?_) (fun h10 => ?_)
  · first
      | (have hge : N ≤ i := (by rw [nI_leI (by omega) (by omega)] at h10; omega); rw [sc_N hge] at hF; rw [hF]; exact kk)
      | (rw [sc_f (fun z => h21 (of_decide_eq_true z))] at hF; rw [hF]; exact kk)
  · have hlt : i < N := by rw [nI_leI (by omega) (by omega)] at h10; omega
    refine px_aload_n dX3_advance_13 rfl rfl ?_
    refine px_getR dX3_advance_14 fX3_18 (xol rfl) hM rfl (by assumption) (by assumption) ?_
    refine px_iload_n dX3_advance_17 rfl rfl ?_
    refine px_bald dX3_advance_18 (by assumption) hM (vp_in_nI (by omega) (by decide)) ?_
    refine px_top (y := b i) (by rw [nI_clamp (by omega)]; first | exact hbb i hlt | (rw [xI_wI, if_neg (fun z => by omega)]; exact hbb i hlt)) ?_
    refine px_bipush dX3_advance_19 bp_32 ?_
    refine px_icmp_ne 30 dX3_advance_21 rfl (fun h21 => ?_) (fun h21 => ?_)
    · first
        | (have hge : N ≤ i := (by rw [nI_leI (by omega) (by omega)] at h10; omega); rw [sc_N hge] at hF; rw [hF]; exact kk)
        | (rw [sc_f (fun z => h21 (of_decide_eq_true z))] at hF; rw [hF]; exact kk)
    · refine px_inc_1 dX3_advance_24 rfl ic_1 ?_
      refine px_goto 5 dX3_advance_27 rfl ?_
      exact px_eq (by rw [nI_1]) rfl (nx hlt (by rw [← sc_t hlt (decide_eq_true h21)]; exact hF))

set_option maxRecDepth 100000 in
theorem l_adv68 {E : xE} {M : xMem} {a N F : Nat} {b : Nat → Int32} {Q : Option Value → xMem → Prop} (hr : rdr M a N b) {j : Nat} (hj : j ≤ N) (kk : PR E mX3_advance (xN M) 192 [some (.ref 10), some (.int (nI F))] [] M Q) : sc (ltr b) N (j) = F → PR E mX3_advance (xN M) 68 [some (.ref 10), some (.int (nI (j)))] [] (M) (Q) := by
  obtain ⟨hM, hW, hsz, hN, hby, ha9, hbb⟩ := hr
  have hbp : 0 < a + 1 := Nat.succ_pos _
  have har : xar (a + 1) 21 120 := ar_9 ha9
  have h9 := xob_9 ha9
  refine px_for (P := fun i => sc (ltr b) N i = F → PR E mX3_advance (xN M) 68 [some (.ref 10), some (.int (nI i))] [] (M) (Q)) (N) (fun i hi nx => ?_) (j) hj
  intro hF
  refine px_iload_n dX3_advance_68 rfl rfl ?_
  refine px_aload_n dX3_advance_69 rfl rfl ?_
  refine px_getI dX3_advance_70 fX3_22 (xol rfl) hM rfl ?_
  refine px_top (y := nI N) hsz ?_
  refine px_icmp_ge 192 dX3_advance_73 rfl (fun h73 => ?_) (fun h73 => ?_)
  · first
      | (have hge : N ≤ i := (by rw [nI_leI (by omega) (by omega)] at h73; omega); rw [sc_N hge] at hF; rw [hF]; exact kk)
      | (rw [sc_f (fun z => h85 (of_decide_eq_true z))] at hF; rw [hF]; exact kk)
  · have hlt : i < N := by rw [nI_leI (by omega) (by omega)] at h73; omega
    refine px_aload_n dX3_advance_76 rfl rfl ?_
    refine px_getR dX3_advance_77 fX3_18 (xol rfl) hM rfl (by assumption) (by assumption) ?_
    refine px_iload_n dX3_advance_80 rfl rfl ?_
    refine px_bald dX3_advance_81 (by assumption) hM (vp_in_nI (by omega) (by decide)) ?_
    refine px_top (y := b i) (by rw [nI_clamp (by omega)]; first | exact hbb i hlt | (rw [xI_wI, if_neg (fun z => by omega)]; exact hbb i hlt)) ?_
    refine px_fS1i dX3_advance_82 kX3_advance_142 (Nat.le_of_ble_eq_true rfl) (c_X3_isLetter) ?_
    refine px_zif_eq 192 dX3_advance_85 rfl (fun h85 => ?_) (fun h85 => ?_)
    · first
        | (have hge : N ≤ i := (by rw [nI_leI (by omega) (by omega)] at h73; omega); rw [sc_N hge] at hF; rw [hF]; exact kk)
        | (rw [sc_f (fun z => h85 (of_decide_eq_true z))] at hF; rw [hF]; exact kk)
    · refine px_inc_1 dX3_advance_88 rfl ic_1 ?_
      refine px_goto 68 dX3_advance_91 rfl ?_
      exact px_eq (by rw [nI_1]) rfl (nx hlt (by rw [← sc_t hlt (decide_eq_true h85)]; exact hF))

set_option maxRecDepth 100000 in
theorem l_adv116 {E : xE} {M : xMem} {a N F : Nat} {b : Nat → Int32} {Q : Option Value → xMem → Prop} (hr : rdr M a N b) {X j : Nat} (hj : j ≤ N) (kk : PR E mX3_advance (xN M) 192 [some (.ref 10), some (.int (nI F))] [] (wI M 10 6 (nI X)) Q) : ∀ v, v ≤ 1000 → sc (fg b) N (j) = F → nv b N (j) v = X → PR E mX3_advance (xN M) 116 [some (.ref 10), some (.int (nI (j)))] [] (wI M 10 6 (nI v)) (Q) := by
  obtain ⟨hM, hW, hsz, hN, hby, ha9, hbb⟩ := hr
  have hbp : 0 < a + 1 := Nat.succ_pos _
  have har : xar (a + 1) 21 120 := ar_9 ha9
  have h9 := xob_9 ha9
  refine px_for (P := fun i => ∀ v, v ≤ 1000 → sc (fg b) N i = F → nv b N i v = X → PR E mX3_advance (xN M) 116 [some (.ref 10), some (.int (nI i))] [] (wI M 10 6 (nI v)) (Q)) (N) (fun i hi nx => ?_) (j) hj
  intro v hv hF hX
  refine px_iload_n dX3_advance_116 rfl rfl ?_
  refine px_aload_n dX3_advance_117 rfl rfl ?_
  refine px_getI dX3_advance_118 fX3_22 (xol rfl) hM rfl ?_
  refine px_top (y := nI N) hsz ?_
  refine px_icmp_ge 192 dX3_advance_121 rfl (fun h121 => ?_) (fun h121 => ?_)
  · first
      | (have hge : N ≤ i := (by rw [nI_leI (by omega) (by omega)] at h121; omega); rw [sc_N hge] at hF; rw [nv_N hge] at hX; rw [hF, hX]; exact kk)
      | (have hng : ¬ fg b i = true := (fun z => h133 (of_decide_eq_true z)); rw [sc_f hng] at hF; rw [nv_f hng] at hX; rw [hF, hX]; exact kk)
  · have hlt : i < N := by rw [nI_leI (by omega) (by omega)] at h121; omega
    refine px_aload_n dX3_advance_124 rfl rfl ?_
    refine px_getR dX3_advance_125 fX3_18 (xol rfl) hM rfl (by assumption) (by assumption) ?_
    refine px_iload_n dX3_advance_128 rfl rfl ?_
    refine px_bald dX3_advance_129 (by assumption) hM (vp_in_nI (by omega) (by decide)) ?_
    refine px_top (y := b i) (by rw [nI_clamp (by omega)]; first | exact hbb i hlt | (rw [xI_wI, if_neg (fun z => by omega)]; exact hbb i hlt)) ?_
    refine px_fS1i dX3_advance_130 kX3_advance_146 (Nat.le_of_ble_eq_true rfl) (c_X3_isFigure) ?_
    refine px_zif_eq 192 dX3_advance_133 rfl (fun h133 => ?_) (fun h133 => ?_)
    · first
        | (have hge : N ≤ i := (by rw [nI_leI (by omega) (by omega)] at h121; omega); rw [sc_N hge] at hF; rw [nv_N hge] at hX; rw [hF, hX]; exact kk)
        | (have hng : ¬ fg b i = true := (fun z => h133 (of_decide_eq_true z)); rw [sc_f hng] at hF; rw [nv_f hng] at hX; rw [hF, hX]; exact kk)
    · have hfg : fg b i = true := decide_eq_true h133
      refine px_aload_n dX3_advance_136 rfl rfl ?_
      refine px_sipush dX3_advance_137 sp_1000 ?_
      refine px_bipush dX3_advance_140 bp_10 ?_
      refine px_aload_n dX3_advance_142 rfl rfl ?_
      refine px_getI dX3_advance_143 fX3_35 (xol rfl) hM rfl ?_
      refine px_top (y := nI v) (wI_self _ _ _ _) ?_
      refine px_imul dX3_advance_146 ?_
      refine px_aload_n dX3_advance_147 rfl rfl ?_
      refine px_getR dX3_advance_148 fX3_18 (xol rfl) hM rfl (by assumption) (by assumption) ?_
      refine px_iload_n dX3_advance_151 rfl rfl ?_
      refine px_bald dX3_advance_152 (by assumption) hM (vp_in_nI (by omega) (by decide)) ?_
      refine px_top (y := b i) (by rw [nI_clamp (by omega)]; first | exact hbb i hlt | (rw [xI_wI, if_neg (fun z => by omega)]; exact hbb i hlt)) ?_
      refine px_iadd dX3_advance_153 ?_
      refine px_bipush dX3_advance_154 bp_48 ?_
      refine px_isub dX3_advance_156 ?_
      refine px_min dX3_advance_157 kX3_advance_46 (Nat.le_of_ble_eq_true rfl) ?_
      refine px_top (y := nI (stp v (b i))) (stp_c hfg hv) ?_
      refine px_putI dX3_advance_160 fX3_35 p3_6 (xol rfl) hM rfl ?_
      refine px_inc_1 dX3_advance_163 rfl ic_1 ?_
      refine px_goto 116 dX3_advance_166 rfl ?_
      exact px_eq (by rw [nI_1]) (wI_2 _ _ _ _ _) (nx hlt _ (stp_le _ _) (by rw [← sc_t hlt hfg]; exact hF) (by rw [← nv_t hlt hfg]; exact hX))

set_option maxRecDepth 100000 in
theorem c_X3_advance {E : xE} {M : xMem} {a N j : Nat} {b : Nat → Int32} (hr : rdr M a N b) (hj : j ≤ N) (hto : M.1 10 5 = nI j) : Ct E mX3_advance [.ref 10] M (xN M) (fun r m => r = none ∧ rdS M m ∧ tokS m b N j) := by
  have hr0 := hr
  obtain ⟨hM, hW, hsz, hN, hby, ha9, hbb⟩ := hr
  have hbp : 0 < a + 1 := Nat.succ_pos _
  have har : xar (a + 1) 21 120 := ar_9 ha9
  have h9 := xob_9 ha9
  have hFb := tF_b (b := b) hj
  refine Ct.of (lo := [some (.ref 10), none]) pln_X3 (Nat.le_of_ble_eq_true rfl) rfl (Nat.le_refl _) ?_
  refine px_aload_n dX3_advance_0 rfl rfl ?_
  refine px_getI dX3_advance_1 fX3_32 (xol rfl) hM rfl ?_
  refine px_top (y := nI j) hto ?_
  refine px_si_1 dX3_advance_4 rfl ?_
  refine l_adv5 hr0 hj (F := tF b N j) ?_ rfl
  refine px_aload_n dX3_advance_30 rfl rfl ?_
  refine px_iload_n dX3_advance_31 rfl rfl ?_
  refine px_putI dX3_advance_32 fX3_29 p3_4 (xol rfl) hM rfl ?_
  refine px_iload_n dX3_advance_35 rfl rfl ?_
  refine px_aload_n dX3_advance_36 rfl rfl ?_
  refine px_getI dX3_advance_37 fX3_22 (xol rfl) hM rfl ?_
  refine px_top (y := nI N) hsz ?_
  refine px_icmp_lt 51 dX3_advance_40 rfl (fun h40 => ?_) (fun h40 => ?_)
  · have hlt : tF b N j < N := by rw [nI_ltI (by omega) (by omega)] at h40; exact h40
    have hnl : ¬ N ≤ tF b N j := by omega
    refine px_aload_n dX3_advance_51 rfl rfl ?_
    refine px_getR dX3_advance_52 fX3_18 (xol rfl) hM rfl (by assumption) (by assumption) ?_
    refine px_iload_n dX3_advance_55 rfl rfl ?_
    refine px_bald dX3_advance_56 (by assumption) hM (vp_in_nI (by omega) (by decide)) ?_
    refine px_top (y := b (tF b N j)) (by rw [nI_clamp (by omega), xI_wI, if_neg (fun z => by omega)]; exact hbb _ hlt) ?_
    refine px_fS1i dX3_advance_57 kX3_advance_142 (Nat.le_of_ble_eq_true rfl) (c_X3_isLetter) ?_
    refine px_zif_eq 94 dX3_advance_60 rfl (fun h60 => ?_) (fun h60 => ?_)
    · have hl1 : ¬ ltr b (tF b N j) = true := fun z => h60 (of_decide_eq_true z)
      refine px_aload_n dX3_advance_94 rfl rfl ?_
      refine px_getR dX3_advance_95 fX3_18 (xol rfl) hM rfl (by assumption) (by assumption) ?_
      refine px_iload_n dX3_advance_98 rfl rfl ?_
      refine px_bald dX3_advance_99 (by assumption) hM (vp_in_nI (by omega) (by decide)) ?_
      refine px_top (y := b (tF b N j)) (by rw [nI_clamp (by omega), xI_wI, if_neg (fun z => by omega)]; exact hbb _ hlt) ?_
      refine px_fS1i dX3_advance_100 kX3_advance_146 (Nat.le_of_ble_eq_true rfl) (c_X3_isFigure) ?_
      refine px_zif_eq 169 dX3_advance_103 rfl (fun h103 => ?_) (fun h103 => ?_)
      · have hf1 : ¬ fg b (tF b N j) = true := fun z => h103 (of_decide_eq_true z)
        have eT : tT b N j = tF b N j + 1 := by unfold tT; rw [if_neg hnl, if_neg hl1, if_neg hf1]
        refine px_aload_n dX3_advance_169 rfl rfl ?_
        refine px_aload_n dX3_advance_170 rfl rfl ?_
        refine px_getR dX3_advance_171 fX3_18 (xol rfl) hM rfl (by assumption) (by assumption) ?_
        refine px_iload_n dX3_advance_174 rfl rfl ?_
        refine px_bald dX3_advance_175 (by assumption) hM (vp_in_nI (by omega) (by decide)) ?_
        refine px_top (y := b (tF b N j)) (by rw [nI_clamp (by omega), xI_wI, if_neg (fun z => by omega)]; exact hbb _ hlt) ?_
        refine px_bipush dX3_advance_176 bp_59 ?_
        refine px_icmp_ne 185 dX3_advance_178 rfl (fun h178 => ?_) (fun h178 => ?_)
        · have eK : tK b N j = 4 := by unfold tK; rw [if_neg hnl, if_neg hl1, if_neg hf1, if_neg h178]
          refine px_iconst dX3_advance_185 ic_4 ?_
          refine px_putI dX3_advance_186 fX3_26 p3_3 (xol rfl) hM rfl ?_
          refine px_inc_1 dX3_advance_189 rfl ic_1 ?_
          refine px_aload_n dX3_advance_192 rfl rfl ?_
          refine px_iload_n dX3_advance_193 rfl rfl ?_
          refine px_putI dX3_advance_194 fX3_32 p3_5 (xol rfl) hM rfl ?_
          exact px_ret dX3_advance_197 rfl ⟨rfl, (((rdS.rf M).p (by omega)).p (by omega)).p (by omega), hj, by rw [eK]; rfl, rfl, by first | (rw [eT]; rfl) | (rw [eT]; exact nI_1 _), fun z => absurd (eK.symm.trans z) (by decide)⟩ rfl
        · have eK : tK b N j = 3 := by unfold tK; rw [if_neg hnl, if_neg hl1, if_neg hf1, if_pos h178]
          refine px_iconst dX3_advance_181 ic_3 ?_
          refine px_goto 186 dX3_advance_182 rfl ?_
          refine px_putI dX3_advance_186 fX3_26 p3_3 (xol rfl) hM rfl ?_
          refine px_inc_1 dX3_advance_189 rfl ic_1 ?_
          refine px_aload_n dX3_advance_192 rfl rfl ?_
          refine px_iload_n dX3_advance_193 rfl rfl ?_
          refine px_putI dX3_advance_194 fX3_32 p3_5 (xol rfl) hM rfl ?_
          exact px_ret dX3_advance_197 rfl ⟨rfl, (((rdS.rf M).p (by omega)).p (by omega)).p (by omega), hj, by rw [eK]; rfl, rfl, by first | (rw [eT]; rfl) | (rw [eT]; exact nI_1 _), fun z => absurd (eK.symm.trans z) (by decide)⟩ rfl
      · have hf1 : fg b (tF b N j) = true := decide_eq_true h103
        have eK : tK b N j = 2 := by unfold tK; rw [if_neg hnl, if_neg hl1, if_pos hf1]
        have eT : tT b N j = sc (fg b) N (tF b N j) := by unfold tT; rw [if_neg hnl, if_neg hl1, if_pos hf1]
        refine px_aload_n dX3_advance_106 rfl rfl ?_
        refine px_iconst dX3_advance_107 ic_2 ?_
        refine px_putI dX3_advance_108 fX3_26 p3_3 (xol rfl) hM rfl ?_
        refine px_aload_n dX3_advance_111 rfl rfl ?_
        refine px_iconst dX3_advance_112 ic_0 ?_
        refine px_putI dX3_advance_113 fX3_35 p3_6 (xol rfl) hM rfl ?_
        refine l_adv116 (M := wI (wI M 10 4 (nI (tF b N j))) 10 3 2) (F := tT b N j) (X := tV b N j) (((rdS.rf M).p (k := 4) (by omega)).p (k := 3) (by omega) |>.r hr0) (by omega) ?_ 0 (by omega) eT.symm rfl
        refine px_aload_n dX3_advance_192 rfl rfl ?_
        refine px_iload_n dX3_advance_193 rfl rfl ?_
        refine px_putI dX3_advance_194 fX3_32 p3_5 (xol rfl) hM rfl ?_
        exact px_ret dX3_advance_197 rfl ⟨rfl, ((((rdS.rf M).p (by omega)).p (by omega)).p (by omega)).p (by omega), hj, by rw [eK]; rfl, rfl, by rfl, fun _ => rfl⟩ rfl
    · have hl1 : ltr b (tF b N j) = true := decide_eq_true h60
      have eK : tK b N j = 1 := by unfold tK; rw [if_neg hnl, if_pos hl1]
      have eT : tT b N j = sc (ltr b) N (tF b N j) := by unfold tT; rw [if_neg hnl, if_pos hl1]
      refine px_aload_n dX3_advance_63 rfl rfl ?_
      refine px_iconst dX3_advance_64 ic_1 ?_
      refine px_putI dX3_advance_65 fX3_26 p3_3 (xol rfl) hM rfl ?_
      refine l_adv68 (M := wI (wI M 10 4 (nI (tF b N j))) 10 3 1) (F := tT b N j) (((rdS.rf M).p (k := 4) (by omega)).p (k := 3) (by omega) |>.r hr0) (by omega) ?_ eT.symm
      refine px_aload_n dX3_advance_192 rfl rfl ?_
      refine px_iload_n dX3_advance_193 rfl rfl ?_
      refine px_putI dX3_advance_194 fX3_32 p3_5 (xol rfl) hM rfl ?_
      exact px_ret dX3_advance_197 rfl ⟨rfl, (((rdS.rf M).p (by omega)).p (by omega)).p (by omega), hj, by rw [eK]; rfl, rfl, by rfl, fun z => absurd (eK.symm.trans z) (by decide)⟩ rfl
  · have hge : N ≤ tF b N j := by rw [nI_ltI (by omega) (by omega)] at h40; omega
    have eK : tK b N j = 0 := if_pos hge
    have eT : tT b N j = tF b N j := if_pos hge
    refine px_aload_n dX3_advance_43 rfl rfl ?_
    refine px_iconst dX3_advance_44 ic_0 ?_
    refine px_putI dX3_advance_45 fX3_26 p3_3 (xol rfl) hM rfl ?_
    refine px_goto 192 dX3_advance_48 rfl ?_
    refine px_aload_n dX3_advance_192 rfl rfl ?_
    refine px_iload_n dX3_advance_193 rfl rfl ?_
    refine px_putI dX3_advance_194 fX3_32 p3_5 (xol rfl) hM rfl ?_
    exact px_ret dX3_advance_197 rfl ⟨rfl, (((rdS.rf M).p (by omega)).p (by omega)).p (by omega), hj, by rw [eK]; rfl, rfl, by first | (rw [eT]; rfl) | (rw [eT]; exact nI_1 _), fun z => absurd (eK.symm.trans z) (by decide)⟩ rfl
