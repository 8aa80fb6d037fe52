/-! ===== the best room ===== -/
theorem px_si_11 {E : xE} {d : xMD} {ne pc : Nat} {st : List Value} {M : xMem} {Q : Option Value → xMem → Prop} {l0 l1 l2 l3 l4 l5 l6 l7 l8 l9 l10 oo : Option Value} {tt : List (Option Value)} {x : Int32} (hd : decode d.co pc = .ok (.istore 11, 2)) (hp : xnl l10 = true) (k : PR E d ne (pc + 2) (l0 :: l1 :: l2 :: l3 :: l4 :: l5 :: l6 :: l7 :: l8 :: l9 :: l10 :: some (.int x) :: tt) st M Q) : PR E d ne pc (l0 :: l1 :: l2 :: l3 :: l4 :: l5 :: l6 :: l7 :: l8 :: l9 :: l10 :: oo :: tt) (.int x :: st) M Q := px_istore (i := 11) hd hp (by simp only [List.length_cons]; omega) rfl k
def bK1 (rule : Nat) (A D : Nat → Nat) (f : Nat) (L : List gR) (k t : Nat) : Nat := nk1 rule (gd L k) (gNX A D f t) (gNY A D f t)
def bK2 (rule : Nat) (A D : Nat → Nat) (f : Nat) (L : List gR) (k t : Nat) : Nat := nk2 rule (gd L k) (gNX A D f t) (gNY A D f t)
def bst (rule : Nat) (A D : Nat → Nat) (f : Nat) (L : List gR) (b : Option (Nat × Nat)) (k t : Nat) : Option (Nat × Nat) :=
  if gNX A D f t ≤ (gd L k).2.2.1 ∧ gNY A D f t ≤ (gd L k).2.2.2 then
    (match b with
    | none => some (k, t)
    | some q => if bK1 rule A D f L k t < bK1 rule A D f L q.1 q.2 ∨ (bK1 rule A D f L k t = bK1 rule A D f L q.1 q.2 ∧ bK2 rule A D f L k t < bK2 rule A D f L q.1 q.2) then some (k, t) else some q)
  else b
def bsT (rule : Nat) (A D : Nat → Nat) (f : Nat) (L : List gR) (k : Nat) (b : Option (Nat × Nat)) : Nat → Option (Nat × Nat)
  | 0 => b
  | t + 1 => bst rule A D f L (bsT rule A D f L k b t) k t
def bsK (rule : Nat) (A D : Nat → Nat) (f : Nat) (L : List gR) (T : Nat) : Nat → Option (Nat × Nat)
  | 0 => none
  | k + 1 => bsT rule A D f L k (bsK rule A D f L T k) T
section BS
variable {rule : Nat} {A D : Nat → Nat} {f : Nat} {L : List gR}
theorem bst_u {b : Option (Nat × Nat)} {k t : Nat} (h : ¬ (gNX A D f t ≤ (gd L k).2.2.1 ∧ gNY A D f t ≤ (gd L k).2.2.2)) : bst rule A D f L b k t = b := if_neg h
theorem bst_n {b : Option (Nat × Nat)} {k t : Nat} (h : gNX A D f t ≤ (gd L k).2.2.1 ∧ gNY A D f t ≤ (gd L k).2.2.2) (hb : b = none) : bst rule A D f L b k t = some (k, t) := by subst hb; exact if_pos h
theorem bst_b {b : Option (Nat × Nat)} {k t : Nat} {q : Nat × Nat} (h : gNX A D f t ≤ (gd L k).2.2.1 ∧ gNY A D f t ≤ (gd L k).2.2.2) (hb : b = some q) (hz : bK1 rule A D f L k t < bK1 rule A D f L q.1 q.2 ∨ (bK1 rule A D f L k t = bK1 rule A D f L q.1 q.2 ∧ bK2 rule A D f L k t < bK2 rule A D f L q.1 q.2)) : bst rule A D f L b k t = some (k, t) := by
  subst hb; unfold bst; rw [if_pos h]; exact if_pos hz
theorem bst_w {b : Option (Nat × Nat)} {k t : Nat} {q : Nat × Nat} (h : gNX A D f t ≤ (gd L k).2.2.1 ∧ gNY A D f t ≤ (gd L k).2.2.2) (hb : b = some q) (hz : ¬ (bK1 rule A D f L k t < bK1 rule A D f L q.1 q.2 ∨ (bK1 rule A D f L k t = bK1 rule A D f L q.1 q.2 ∧ bK2 rule A D f L k t < bK2 rule A D f L q.1 q.2))) : bst rule A D f L b k t = b := by
  subst hb; unfold bst; rw [if_pos h]; exact if_neg hz
theorem bst_or (b : Option (Nat × Nat)) (k t : Nat) : bst rule A D f L b k t = b ∨ (bst rule A D f L b k t = some (k, t) ∧ (gNX A D f t ≤ (gd L k).2.2.1 ∧ gNY A D f t ≤ (gd L k).2.2.2)) := by
  by_cases h : gNX A D f t ≤ (gd L k).2.2.1 ∧ gNY A D f t ≤ (gd L k).2.2.2
  · cases b with
    | none => exact Or.inr ⟨bst_n h rfl, h⟩
    | some q =>
      by_cases hz : bK1 rule A D f L k t < bK1 rule A D f L q.1 q.2 ∨ (bK1 rule A D f L k t = bK1 rule A D f L q.1 q.2 ∧ bK2 rule A D f L k t < bK2 rule A D f L q.1 q.2)
      · exact Or.inr ⟨bst_b h rfl hz, h⟩
      · exact Or.inl (bst_w h rfl hz)
  · exact Or.inl (bst_u h)
def bOK (A D : Nat → Nat) (f : Nat) (L : List gR) (T k : Nat) (b : Option (Nat × Nat)) : Prop := ∀ q, b = some q → q.1 < k ∧ q.2 < T ∧ gNX A D f q.2 ≤ (gd L q.1).2.2.1 ∧ gNY A D f q.2 ≤ (gd L q.1).2.2.2
theorem bsT_ok {T k : Nat} {b : Option (Nat × Nat)} (h : bOK A D f L T k b) : ∀ t, t ≤ T → bOK A D f L T (k + 1) (bsT rule A D f L k b t) := by
  intro t ht
  induction t with
  | zero => intro q hq; have := h q hq; exact ⟨by omega, this.2⟩
  | succ t ih =>
    intro q hq
    rcases bst_or (rule := rule) (A := A) (D := D) (f := f) (L := L) (bsT rule A D f L k b t) k t with e | ⟨e, hf⟩
    · exact ih (by omega) q (by rw [← e]; exact hq)
    · have hq2 : some (k, t) = some q := by rw [← e]; exact hq
      cases hq2
      exact ⟨Nat.lt_succ_self _, by show t < T; omega, hf⟩
theorem bsK_ok (T : Nat) : ∀ k, bOK A D f L T k (bsK rule A D f L T k)
  | 0 => fun q hq => by cases hq
  | k + 1 => bsT_ok (bsK_ok T k) T (Nat.le_refl _)
theorem bsT_t {T k : Nat} {b : Option (Nat × Nat)} (h : ∀ q, b = some q → q.2 < 2) (hT : T ≤ 2) : ∀ t, t ≤ T → ∀ q, bsT rule A D f L k b t = some q → q.2 < 2 := by
  intro t ht
  induction t with
  | zero => exact h
  | succ t ih =>
    intro q hq
    rcases bst_or (rule := rule) (A := A) (D := D) (f := f) (L := L) (bsT rule A D f L k b t) k t with e | ⟨e, hf⟩
    · exact ih (by omega) q (by rw [← e]; exact hq)
    · have hq2 : some (k, t) = some q := by rw [← e]; exact hq
      cases hq2
      show t < 2; omega
def spE (L : List gR) : Option (Nat × Nat) → Int32
  | none => -9
  | some q => nI ((gd L q.1).1 * 32 + (gd L q.1).2.1 * 2 + q.2)
def leE (rule : Nat) (A D : Nat → Nat) (f : Nat) (L : List gR) : Option (Nat × Nat) → Int32
  | none => 0
  | some q => nI (bK1 rule A D f L q.1 q.2 * 32 + bK2 rule A D f L q.1 q.2)
theorem spE_n {b : Option (Nat × Nat)} (hB : ∀ r ∈ L, rB r) (hb : ∀ q, b = some q → q.2 < 2) (h : spE L b = -9) : b = none := by
  cases b with
  | none => rfl
  | some q =>
    have h1 := hb q rfl
    have h2 := gd_B hB q.1
    exact absurd h (nI_ne9 (by have := h2.1; have := h2.2.1; omega))
theorem spE_s {b : Option (Nat × Nat)} (h : ¬ spE L b = -9) : ∃ q, b = some q := by
  cases b with
  | none => exact absurd rfl h
  | some q => exact ⟨q, rfl⟩
theorem bK_le (hB : ∀ r ∈ L, rB r) (hD : ∀ t, gNY A D f t ≤ 22) (k t : Nat) : bK1 rule A D f L k t ≤ 256 ∧ bK2 rule A D f L k t ≤ 16 := nk_le (gd_B hB k) (hD t)
theorem le_bet {b : Option (Nat × Nat)} {q : Nat × Nat} (hb : b = some q) (hB : ∀ r ∈ L, rB r) (hD : ∀ t, gNY A D f t ≤ 22) {k t : Nat} : leE rule A D f L b ≤ nI (bK1 rule A D f L k t * 32 + bK2 rule A D f L k t) ↔ ¬ (bK1 rule A D f L k t < bK1 rule A D f L q.1 q.2 ∨ (bK1 rule A D f L k t = bK1 rule A D f L q.1 q.2 ∧ bK2 rule A D f L k t < bK2 rule A D f L q.1 q.2)) := by
  subst hb
  have h1 := bK_le (rule := rule) hB hD k t
  have h2 := bK_le (rule := rule) hB hD q.1 q.2
  show nI _ ≤ nI _ ↔ _
  rw [nI_leI (by omega) (by omega)]
  omega
theorem way_1 {t : Nat} (ht : t < 2) (h : nI t = 1) : (1 : Int32) = nI t := h.symm
theorem way_0 {t : Nat} (ht : t < 2) (h : ¬ nI t = 1) : (0 : Int32) = nI t := by
  rcases (show t = 0 ∨ t = 1 by omega) with rfl | rfl
  · rfl
  · exact absurd rfl h
theorem sp_at {x y t : Nat} (ht : t < 2) : nI x * 32 + nI y * 2 + (if nI t = 0 then 0 else 1) = nI (x * 32 + y * 2 + t) := by
  rw [show (32 : Int32) = nI 32 from rfl, show (2 : Int32) = nI 2 from rfl, pk_mul, pk_mul, nI_add]
  rcases (show t = 0 ∨ t = 1 by omega) with rfl | rfl
  · rw [if_pos (show nI 0 = 0 from rfl), Int32.add_zero, Nat.add_zero]
  · rw [if_neg (by decide), show (1 : Int32) = nI 1 from rfl, nI_add]
end BS

set_option maxRecDepth 100000 in
theorem l_bs_in {E : xE} {M : xMem} {s n W H f k T rule ne : Nat} {A D : Nat → Nat} {L : List gR} {b0 : Option (Nat × Nat)} {Q : Option Value → xMem → Prop} (hM : xNT ≤ xN M) (hW : xWire M.2.1) (hs : xob s 7) (hsh : shC M s n W H A D) (hC : frC M L) (hB : ∀ r ∈ L, rB r) (h729 : L.length ≤ 729) (hfn : f < n) (hT : T ≤ 2) (hru : rule < 4) (hk : k < L.length) (hb0 : ∀ q, b0 = some q → q.2 < 2) (kk : PR E mX4_bestSpot ne 170 [some (.ref 25), some (.ref (fA s f)), some (.int (nI rule)), some (.int (spE L (bsT rule A D f L k b0 T))), some (.int (leE rule A D f L (bsT rule A D f L k b0 T))), some (.int (nI T)), some (.int (nI k)), some (.int (nI T)), none, none, none, none] [] M Q) : PR E mX4_bestSpot (ne) 35 [some (.ref 25), some (.ref (fA s f)), some (.int (nI rule)), some (.int (spE L (bsT rule A D f L k b0 0))), some (.int (leE rule A D f L (bsT rule A D f L k b0 0))), some (.int (nI T)), some (.int (nI k)), some (.int (nI 0)), none, none, none, none] [] (M) (Q) := by
  have h8 : n ≤ 8 := hsh.2.2.2.1
  have hD : ∀ t, gNY A D f t ≤ 22 := fun t => (gNC_le hsh hfn).2.1
  have hX : ∀ t, gNX A D f t ≤ 22 := fun t => (gNC_le hsh hfn).1
  have hfo : xob (fA s f) 0 := ob_frame hs (by omega)
  have hki : vp_in (nI k) 729 := vp_in_nI (by omega) (by decide)
  have hnk : (nI k).toNatClampNeg = k := nI_clamp (by omega)
  have hen : M.1 27 (nI k).toNatClampNeg = nI (gEnc (gd L k)) := by rw [hnk]; exact hC.2 k _ (gd_at hk)
  have hrb := gd_B hB k
  obtain ⟨b1, b2, b3, b4⟩ := id hrb
  have hdc := rc_dec hrb
  refine px_for (P := fun i => PR E mX4_bestSpot (ne) 35 [some (.ref 25), some (.ref (fA s f)), some (.int (nI rule)), some (.int (spE L (bsT rule A D f L k b0 i))), some (.int (leE rule A D f L (bsT rule A D f L k b0 i))), some (.int (nI T)), some (.int (nI k)), some (.int (nI i)), none, none, none, none] [] (M) (Q)) (T) (fun i hi nx => ?_) (0) (by omega)
  refine px_iload dX4_bestSpot_35 rfl ?_
  refine px_iload dX4_bestSpot_37 rfl ?_
  refine px_icmp_ge 170 dX4_bestSpot_39 rfl (fun h39 => ?_) (fun h39 => ?_)
  · have hi2 : i = T := by rw [nI_leI (by omega) (by omega)] at h39; omega
    subst hi2
    exact kk
  · have hlt : i < T := by rw [nI_leI (by omega) (by omega)] at h39; omega
    have ht2 : i < 2 := by omega
    have hbt := bsT_t (rule := rule) (A := A) (D := D) (f := f) (L := L) (k := k) hb0 hT i hi
    refine px_iload dX4_bestSpot_42 rfl ?_
    refine px_iconst dX4_bestSpot_44 ic_1 ?_
    refine px_icmp_ne 52 dX4_bestSpot_45 rfl (fun h45 => ?_) (fun h45 => ?_)
    · refine px_iconst dX4_bestSpot_52 ic_0 ?_
      first | refine px_top (y := nI i) (way_1 ht2 h45) ?_ | refine px_top (y := nI i) (way_0 ht2 h45) ?_
      refine px_si_8 dX4_bestSpot_53 rfl ?_
      refine px_aload_n dX4_bestSpot_55 rfl rfl ?_
      refine px_iload dX4_bestSpot_56 rfl ?_
      refine px_fV1i dX4_bestSpot_58 kX4_bestSpot_66 hfo hM (Nat.le_of_ble_eq_true rfl) (c_X0_needsAcross hfo hM) ?_
      refine px_top (y := nI (gNX A D f i)) (fC_t hsh hfn ht2).1 ?_
      refine px_si_9 dX4_bestSpot_61 rfl ?_
      refine px_aload_n dX4_bestSpot_63 rfl rfl ?_
      refine px_iload dX4_bestSpot_64 rfl ?_
      refine px_fV1i dX4_bestSpot_66 kX4_bestSpot_78 hfo hM (Nat.le_of_ble_eq_true rfl) (c_X0_needsDown hfo hM) ?_
      refine px_top (y := nI (gNY A D f i)) (fC_t hsh hfn ht2).2 ?_
      refine px_si_10 dX4_bestSpot_69 rfl ?_
      refine px_iload dX4_bestSpot_71 rfl ?_
      refine px_aload_n dX4_bestSpot_73 rfl rfl ?_
      refine px_getR dX4_bestSpot_74 fX4_15 (xol rfl) hM rfl (wr_4_1 hW (xol rfl)) (Nat.succ_pos _) ?_
      refine px_iload dX4_bestSpot_77 rfl ?_
      refine px_iald dX4_bestSpot_79 (xal (n := 729) rfl) hM hki ?_
      refine px_top (y := nI (gEnc (gd L k))) hen ?_
      refine px_fS1i dX4_bestSpot_80 kX4_bestSpot_91 (Nat.le_of_ble_eq_true rfl) (c_X4_acrossOf) ?_
      refine px_top (y := nI (gd L k).2.2.1) hdc.2.2.1 ?_
      refine px_icmp_gt 164 dX4_bestSpot_83 rfl (fun h83 => ?_) (fun h83 => ?_)
      · refine px_inc_7 dX4_bestSpot_164 rfl ic_1 ?_
        refine px_goto 35 dX4_bestSpot_167 rfl ?_
        first
          | (have e : bst rule A D f L (bsT rule A D f L k b0 i) k i = bsT rule A D f L k b0 i := bst_u (fun z => by rw [nI_ltI (by omega) (by have := hX i; omega)] at h83; omega); have kx := nx hlt; rw [bsT, e] at kx; rw [nI_1 i]; exact px_forget (by repeat' constructor) kx)
          | (have e : bst rule A D f L (bsT rule A D f L k b0 i) k i = bsT rule A D f L k b0 i := bst_u (fun z => by rw [nI_leI (by have := hD i; omega) (by omega)] at h98; omega); have kx := nx hlt; rw [bsT, e] at kx; rw [nI_1 i]; exact px_forget (by repeat' constructor) kx)
          | (have e := bst_n (rule := rule) hfit (spE_n hB hbt h124); have kx := nx hlt; rw [bsT, e] at kx; rw [nI_1 i]; exact px_forget (by repeat' constructor) kx)
          | (obtain ⟨q, hq⟩ := spE_s h124; have e := bst_b (rule := rule) hfit hq (Classical.not_not.mp (fun z => h131 ((le_bet hq hB hD).mpr z))); have kx := nx hlt; rw [bsT, e] at kx; rw [nI_1 i]; exact px_forget (by repeat' constructor) kx)
          | (obtain ⟨q, hq⟩ := spE_s h124; have e := bst_w (rule := rule) hfit hq ((le_bet hq hB hD).mp h131); have kx := nx hlt; rw [bsT, e] at kx; rw [nI_1 i]; exact px_forget (by repeat' constructor) kx)
      · refine px_iload dX4_bestSpot_86 rfl ?_
        refine px_aload_n dX4_bestSpot_88 rfl rfl ?_
        refine px_getR dX4_bestSpot_89 fX4_15 (xol rfl) hM rfl (wr_4_1 hW (xol rfl)) (Nat.succ_pos _) ?_
        refine px_iload dX4_bestSpot_92 rfl ?_
        refine px_iald dX4_bestSpot_94 (xal (n := 729) rfl) hM hki ?_
        refine px_top (y := nI (gEnc (gd L k))) hen ?_
        refine px_fS1i dX4_bestSpot_95 kX4_bestSpot_94 (Nat.le_of_ble_eq_true rfl) (c_X4_downOf) ?_
        refine px_top (y := nI (gd L k).2.2.2) hdc.2.2.2 ?_
        refine px_icmp_le 104 dX4_bestSpot_98 rfl (fun h98 => ?_) (fun h98 => ?_)
        · have hfit : gNX A D f i ≤ (gd L k).2.2.1 ∧ gNY A D f i ≤ (gd L k).2.2.2 := by
            rw [nI_ltI (by omega) (by have := hX i; omega)] at h83
            rw [nI_leI (by have := hD i; omega) (by omega)] at h98
            exact ⟨by omega, h98⟩
          refine px_iload_n dX4_bestSpot_104 rfl rfl ?_
          refine px_aload_n dX4_bestSpot_105 rfl rfl ?_
          refine px_getR dX4_bestSpot_106 fX4_15 (xol rfl) hM rfl (wr_4_1 hW (xol rfl)) (Nat.succ_pos _) ?_
          refine px_iload dX4_bestSpot_109 rfl ?_
          refine px_iald dX4_bestSpot_111 (xal (n := 729) rfl) hM hki ?_
          refine px_top (y := nI (gEnc (gd L k))) hen ?_
          refine px_iload dX4_bestSpot_112 rfl ?_
          refine px_iload dX4_bestSpot_114 rfl ?_
          refine px_fS4i dX4_bestSpot_116 kX4_bestSpot_105 (Nat.le_of_ble_eq_true rfl) (c_X4_numbersOf hrb hru hfit.1 hfit.2) ?_
          refine px_si_11 dX4_bestSpot_119 rfl ?_
          refine px_iload_n dX4_bestSpot_121 rfl rfl ?_
          refine px_bipush dX4_bestSpot_122 bp_m9 ?_
          refine px_icmp_eq 134 dX4_bestSpot_124 rfl (fun h124 => ?_) (fun h124 => ?_)
          · refine px_iload dX4_bestSpot_134 rfl ?_
            refine px_top (y := leE rule A D f L (some (k, i))) rfl ?_
            refine px_si_4 dX4_bestSpot_136 rfl ?_
            refine px_aload_n dX4_bestSpot_138 rfl rfl ?_
            refine px_getR dX4_bestSpot_139 fX4_15 (xol rfl) hM rfl (wr_4_1 hW (xol rfl)) (Nat.succ_pos _) ?_
            refine px_iload dX4_bestSpot_142 rfl ?_
            refine px_iald dX4_bestSpot_144 (xal (n := 729) rfl) hM hki ?_
            refine px_top (y := nI (gEnc (gd L k))) hen ?_
            refine px_fS1i dX4_bestSpot_145 kX4_bestSpot_89 (Nat.le_of_ble_eq_true rfl) (c_X4_xOf) ?_
            refine px_top (y := nI (gd L k).1) hdc.2.1 ?_
            refine px_aload_n dX4_bestSpot_148 rfl rfl ?_
            refine px_getR dX4_bestSpot_149 fX4_15 (xol rfl) hM rfl (wr_4_1 hW (xol rfl)) (Nat.succ_pos _) ?_
            refine px_iload dX4_bestSpot_152 rfl ?_
            refine px_iald dX4_bestSpot_154 (xal (n := 729) rfl) hM hki ?_
            refine px_top (y := nI (gEnc (gd L k))) hen ?_
            refine px_fS1i dX4_bestSpot_155 kX4_bestSpot_90 (Nat.le_of_ble_eq_true rfl) (c_X4_yOf) ?_
            refine px_top (y := nI (gd L k).2.1) hdc.1 ?_
            refine px_iload dX4_bestSpot_158 rfl ?_
            refine px_fS3i dX4_bestSpot_160 kX4_bestSpot_109 (Nat.le_of_ble_eq_true rfl) (c_X1_spotAt) ?_
            refine px_top (y := spE L (some (k, i))) (sp_at ht2) ?_
            refine px_si_3 dX4_bestSpot_163 rfl ?_
            refine px_inc_7 dX4_bestSpot_164 rfl ic_1 ?_
            refine px_goto 35 dX4_bestSpot_167 rfl ?_
            first
              | (have e : bst rule A D f L (bsT rule A D f L k b0 i) k i = bsT rule A D f L k b0 i := bst_u (fun z => by rw [nI_ltI (by omega) (by have := hX i; omega)] at h83; omega); have kx := nx hlt; rw [bsT, e] at kx; rw [nI_1 i]; exact px_forget (by repeat' constructor) kx)
              | (have e : bst rule A D f L (bsT rule A D f L k b0 i) k i = bsT rule A D f L k b0 i := bst_u (fun z => by rw [nI_leI (by have := hD i; omega) (by omega)] at h98; omega); have kx := nx hlt; rw [bsT, e] at kx; rw [nI_1 i]; exact px_forget (by repeat' constructor) kx)
              | (have e := bst_n (rule := rule) hfit (spE_n hB hbt h124); have kx := nx hlt; rw [bsT, e] at kx; rw [nI_1 i]; exact px_forget (by repeat' constructor) kx)
              | (obtain ⟨q, hq⟩ := spE_s h124; have e := bst_b (rule := rule) hfit hq (Classical.not_not.mp (fun z => h131 ((le_bet hq hB hD).mpr z))); have kx := nx hlt; rw [bsT, e] at kx; rw [nI_1 i]; exact px_forget (by repeat' constructor) kx)
              | (obtain ⟨q, hq⟩ := spE_s h124; have e := bst_w (rule := rule) hfit hq ((le_bet hq hB hD).mp h131); have kx := nx hlt; rw [bsT, e] at kx; rw [nI_1 i]; exact px_forget (by repeat' constructor) kx)
          · refine px_iload dX4_bestSpot_127 rfl ?_
            refine px_iload dX4_bestSpot_129 rfl ?_
            refine px_icmp_ge 164 dX4_bestSpot_131 rfl (fun h131 => ?_) (fun h131 => ?_)
            · refine px_inc_7 dX4_bestSpot_164 rfl ic_1 ?_
              refine px_goto 35 dX4_bestSpot_167 rfl ?_
              first
                | (have e : bst rule A D f L (bsT rule A D f L k b0 i) k i = bsT rule A D f L k b0 i := bst_u (fun z => by rw [nI_ltI (by omega) (by have := hX i; omega)] at h83; omega); have kx := nx hlt; rw [bsT, e] at kx; rw [nI_1 i]; exact px_forget (by repeat' constructor) kx)
                | (have e : bst rule A D f L (bsT rule A D f L k b0 i) k i = bsT rule A D f L k b0 i := bst_u (fun z => by rw [nI_leI (by have := hD i; omega) (by omega)] at h98; omega); have kx := nx hlt; rw [bsT, e] at kx; rw [nI_1 i]; exact px_forget (by repeat' constructor) kx)
                | (have e := bst_n (rule := rule) hfit (spE_n hB hbt h124); have kx := nx hlt; rw [bsT, e] at kx; rw [nI_1 i]; exact px_forget (by repeat' constructor) kx)
                | (obtain ⟨q, hq⟩ := spE_s h124; have e := bst_b (rule := rule) hfit hq (Classical.not_not.mp (fun z => h131 ((le_bet hq hB hD).mpr z))); have kx := nx hlt; rw [bsT, e] at kx; rw [nI_1 i]; exact px_forget (by repeat' constructor) kx)
                | (obtain ⟨q, hq⟩ := spE_s h124; have e := bst_w (rule := rule) hfit hq ((le_bet hq hB hD).mp h131); have kx := nx hlt; rw [bsT, e] at kx; rw [nI_1 i]; exact px_forget (by repeat' constructor) kx)
            · refine px_iload dX4_bestSpot_134 rfl ?_
              refine px_top (y := leE rule A D f L (some (k, i))) rfl ?_
              refine px_si_4 dX4_bestSpot_136 rfl ?_
              refine px_aload_n dX4_bestSpot_138 rfl rfl ?_
              refine px_getR dX4_bestSpot_139 fX4_15 (xol rfl) hM rfl (wr_4_1 hW (xol rfl)) (Nat.succ_pos _) ?_
              refine px_iload dX4_bestSpot_142 rfl ?_
              refine px_iald dX4_bestSpot_144 (xal (n := 729) rfl) hM hki ?_
              refine px_top (y := nI (gEnc (gd L k))) hen ?_
              refine px_fS1i dX4_bestSpot_145 kX4_bestSpot_89 (Nat.le_of_ble_eq_true rfl) (c_X4_xOf) ?_
              refine px_top (y := nI (gd L k).1) hdc.2.1 ?_
              refine px_aload_n dX4_bestSpot_148 rfl rfl ?_
              refine px_getR dX4_bestSpot_149 fX4_15 (xol rfl) hM rfl (wr_4_1 hW (xol rfl)) (Nat.succ_pos _) ?_
              refine px_iload dX4_bestSpot_152 rfl ?_
              refine px_iald dX4_bestSpot_154 (xal (n := 729) rfl) hM hki ?_
              refine px_top (y := nI (gEnc (gd L k))) hen ?_
              refine px_fS1i dX4_bestSpot_155 kX4_bestSpot_90 (Nat.le_of_ble_eq_true rfl) (c_X4_yOf) ?_
              refine px_top (y := nI (gd L k).2.1) hdc.1 ?_
              refine px_iload dX4_bestSpot_158 rfl ?_
              refine px_fS3i dX4_bestSpot_160 kX4_bestSpot_109 (Nat.le_of_ble_eq_true rfl) (c_X1_spotAt) ?_
              refine px_top (y := spE L (some (k, i))) (sp_at ht2) ?_
              refine px_si_3 dX4_bestSpot_163 rfl ?_
              refine px_inc_7 dX4_bestSpot_164 rfl ic_1 ?_
              refine px_goto 35 dX4_bestSpot_167 rfl ?_
              first
                | (have e : bst rule A D f L (bsT rule A D f L k b0 i) k i = bsT rule A D f L k b0 i := bst_u (fun z => by rw [nI_ltI (by omega) (by have := hX i; omega)] at h83; omega); have kx := nx hlt; rw [bsT, e] at kx; rw [nI_1 i]; exact px_forget (by repeat' constructor) kx)
                | (have e : bst rule A D f L (bsT rule A D f L k b0 i) k i = bsT rule A D f L k b0 i := bst_u (fun z => by rw [nI_leI (by have := hD i; omega) (by omega)] at h98; omega); have kx := nx hlt; rw [bsT, e] at kx; rw [nI_1 i]; exact px_forget (by repeat' constructor) kx)
                | (have e := bst_n (rule := rule) hfit (spE_n hB hbt h124); have kx := nx hlt; rw [bsT, e] at kx; rw [nI_1 i]; exact px_forget (by repeat' constructor) kx)
                | (obtain ⟨q, hq⟩ := spE_s h124; have e := bst_b (rule := rule) hfit hq (Classical.not_not.mp (fun z => h131 ((le_bet hq hB hD).mpr z))); have kx := nx hlt; rw [bsT, e] at kx; rw [nI_1 i]; exact px_forget (by repeat' constructor) kx)
                | (obtain ⟨q, hq⟩ := spE_s h124; have e := bst_w (rule := rule) hfit hq ((le_bet hq hB hD).mp h131); have kx := nx hlt; rw [bsT, e] at kx; rw [nI_1 i]; exact px_forget (by repeat' constructor) kx)
        · refine px_goto 164 dX4_bestSpot_101 rfl ?_
          refine px_inc_7 dX4_bestSpot_164 rfl ic_1 ?_
          refine px_goto 35 dX4_bestSpot_167 rfl ?_
          first
            | (have e : bst rule A D f L (bsT rule A D f L k b0 i) k i = bsT rule A D f L k b0 i := bst_u (fun z => by rw [nI_ltI (by omega) (by have := hX i; omega)] at h83; omega); have kx := nx hlt; rw [bsT, e] at kx; rw [nI_1 i]; exact px_forget (by repeat' constructor) kx)
            | (have e : bst rule A D f L (bsT rule A D f L k b0 i) k i = bsT rule A D f L k b0 i := bst_u (fun z => by rw [nI_leI (by have := hD i; omega) (by omega)] at h98; omega); have kx := nx hlt; rw [bsT, e] at kx; rw [nI_1 i]; exact px_forget (by repeat' constructor) kx)
            | (have e := bst_n (rule := rule) hfit (spE_n hB hbt h124); have kx := nx hlt; rw [bsT, e] at kx; rw [nI_1 i]; exact px_forget (by repeat' constructor) kx)
            | (obtain ⟨q, hq⟩ := spE_s h124; have e := bst_b (rule := rule) hfit hq (Classical.not_not.mp (fun z => h131 ((le_bet hq hB hD).mpr z))); have kx := nx hlt; rw [bsT, e] at kx; rw [nI_1 i]; exact px_forget (by repeat' constructor) kx)
            | (obtain ⟨q, hq⟩ := spE_s h124; have e := bst_w (rule := rule) hfit hq ((le_bet hq hB hD).mp h131); have kx := nx hlt; rw [bsT, e] at kx; rw [nI_1 i]; exact px_forget (by repeat' constructor) kx)
    · refine px_iconst dX4_bestSpot_48 ic_1 ?_
      refine px_goto 53 dX4_bestSpot_49 rfl ?_
      first | refine px_top (y := nI i) (way_1 ht2 h45) ?_ | refine px_top (y := nI i) (way_0 ht2 h45) ?_
      refine px_si_8 dX4_bestSpot_53 rfl ?_
      refine px_aload_n dX4_bestSpot_55 rfl rfl ?_
      refine px_iload dX4_bestSpot_56 rfl ?_
      refine px_fV1i dX4_bestSpot_58 kX4_bestSpot_66 hfo hM (Nat.le_of_ble_eq_true rfl) (c_X0_needsAcross hfo hM) ?_
      refine px_top (y := nI (gNX A D f i)) (fC_t hsh hfn ht2).1 ?_
      refine px_si_9 dX4_bestSpot_61 rfl ?_
      refine px_aload_n dX4_bestSpot_63 rfl rfl ?_
      refine px_iload dX4_bestSpot_64 rfl ?_
      refine px_fV1i dX4_bestSpot_66 kX4_bestSpot_78 hfo hM (Nat.le_of_ble_eq_true rfl) (c_X0_needsDown hfo hM) ?_
      refine px_top (y := nI (gNY A D f i)) (fC_t hsh hfn ht2).2 ?_
      refine px_si_10 dX4_bestSpot_69 rfl ?_
      refine px_iload dX4_bestSpot_71 rfl ?_
      refine px_aload_n dX4_bestSpot_73 rfl rfl ?_
      refine px_getR dX4_bestSpot_74 fX4_15 (xol rfl) hM rfl (wr_4_1 hW (xol rfl)) (Nat.succ_pos _) ?_
      refine px_iload dX4_bestSpot_77 rfl ?_
      refine px_iald dX4_bestSpot_79 (xal (n := 729) rfl) hM hki ?_
      refine px_top (y := nI (gEnc (gd L k))) hen ?_
      refine px_fS1i dX4_bestSpot_80 kX4_bestSpot_91 (Nat.le_of_ble_eq_true rfl) (c_X4_acrossOf) ?_
      refine px_top (y := nI (gd L k).2.2.1) hdc.2.2.1 ?_
      refine px_icmp_gt 164 dX4_bestSpot_83 rfl (fun h83 => ?_) (fun h83 => ?_)
      · refine px_inc_7 dX4_bestSpot_164 rfl ic_1 ?_
        refine px_goto 35 dX4_bestSpot_167 rfl ?_
        first
          | (have e : bst rule A D f L (bsT rule A D f L k b0 i) k i = bsT rule A D f L k b0 i := bst_u (fun z => by rw [nI_ltI (by omega) (by have := hX i; omega)] at h83; omega); have kx := nx hlt; rw [bsT, e] at kx; rw [nI_1 i]; exact px_forget (by repeat' constructor) kx)
          | (have e : bst rule A D f L (bsT rule A D f L k b0 i) k i = bsT rule A D f L k b0 i := bst_u (fun z => by rw [nI_leI (by have := hD i; omega) (by omega)] at h98; omega); have kx := nx hlt; rw [bsT, e] at kx; rw [nI_1 i]; exact px_forget (by repeat' constructor) kx)
          | (have e := bst_n (rule := rule) hfit (spE_n hB hbt h124); have kx := nx hlt; rw [bsT, e] at kx; rw [nI_1 i]; exact px_forget (by repeat' constructor) kx)
          | (obtain ⟨q, hq⟩ := spE_s h124; have e := bst_b (rule := rule) hfit hq (Classical.not_not.mp (fun z => h131 ((le_bet hq hB hD).mpr z))); have kx := nx hlt; rw [bsT, e] at kx; rw [nI_1 i]; exact px_forget (by repeat' constructor) kx)
          | (obtain ⟨q, hq⟩ := spE_s h124; have e := bst_w (rule := rule) hfit hq ((le_bet hq hB hD).mp h131); have kx := nx hlt; rw [bsT, e] at kx; rw [nI_1 i]; exact px_forget (by repeat' constructor) kx)
      · refine px_iload dX4_bestSpot_86 rfl ?_
        refine px_aload_n dX4_bestSpot_88 rfl rfl ?_
        refine px_getR dX4_bestSpot_89 fX4_15 (xol rfl) hM rfl (wr_4_1 hW (xol rfl)) (Nat.succ_pos _) ?_
        refine px_iload dX4_bestSpot_92 rfl ?_
        refine px_iald dX4_bestSpot_94 (xal (n := 729) rfl) hM hki ?_
        refine px_top (y := nI (gEnc (gd L k))) hen ?_
        refine px_fS1i dX4_bestSpot_95 kX4_bestSpot_94 (Nat.le_of_ble_eq_true rfl) (c_X4_downOf) ?_
        refine px_top (y := nI (gd L k).2.2.2) hdc.2.2.2 ?_
        refine px_icmp_le 104 dX4_bestSpot_98 rfl (fun h98 => ?_) (fun h98 => ?_)
        · have hfit : gNX A D f i ≤ (gd L k).2.2.1 ∧ gNY A D f i ≤ (gd L k).2.2.2 := by
            rw [nI_ltI (by omega) (by have := hX i; omega)] at h83
            rw [nI_leI (by have := hD i; omega) (by omega)] at h98
            exact ⟨by omega, h98⟩
          refine px_iload_n dX4_bestSpot_104 rfl rfl ?_
          refine px_aload_n dX4_bestSpot_105 rfl rfl ?_
          refine px_getR dX4_bestSpot_106 fX4_15 (xol rfl) hM rfl (wr_4_1 hW (xol rfl)) (Nat.succ_pos _) ?_
          refine px_iload dX4_bestSpot_109 rfl ?_
          refine px_iald dX4_bestSpot_111 (xal (n := 729) rfl) hM hki ?_
          refine px_top (y := nI (gEnc (gd L k))) hen ?_
          refine px_iload dX4_bestSpot_112 rfl ?_
          refine px_iload dX4_bestSpot_114 rfl ?_
          refine px_fS4i dX4_bestSpot_116 kX4_bestSpot_105 (Nat.le_of_ble_eq_true rfl) (c_X4_numbersOf hrb hru hfit.1 hfit.2) ?_
          refine px_si_11 dX4_bestSpot_119 rfl ?_
          refine px_iload_n dX4_bestSpot_121 rfl rfl ?_
          refine px_bipush dX4_bestSpot_122 bp_m9 ?_
          refine px_icmp_eq 134 dX4_bestSpot_124 rfl (fun h124 => ?_) (fun h124 => ?_)
          · refine px_iload dX4_bestSpot_134 rfl ?_
            refine px_top (y := leE rule A D f L (some (k, i))) rfl ?_
            refine px_si_4 dX4_bestSpot_136 rfl ?_
            refine px_aload_n dX4_bestSpot_138 rfl rfl ?_
            refine px_getR dX4_bestSpot_139 fX4_15 (xol rfl) hM rfl (wr_4_1 hW (xol rfl)) (Nat.succ_pos _) ?_
            refine px_iload dX4_bestSpot_142 rfl ?_
            refine px_iald dX4_bestSpot_144 (xal (n := 729) rfl) hM hki ?_
            refine px_top (y := nI (gEnc (gd L k))) hen ?_
            refine px_fS1i dX4_bestSpot_145 kX4_bestSpot_89 (Nat.le_of_ble_eq_true rfl) (c_X4_xOf) ?_
            refine px_top (y := nI (gd L k).1) hdc.2.1 ?_
            refine px_aload_n dX4_bestSpot_148 rfl rfl ?_
            refine px_getR dX4_bestSpot_149 fX4_15 (xol rfl) hM rfl (wr_4_1 hW (xol rfl)) (Nat.succ_pos _) ?_
            refine px_iload dX4_bestSpot_152 rfl ?_
            refine px_iald dX4_bestSpot_154 (xal (n := 729) rfl) hM hki ?_
            refine px_top (y := nI (gEnc (gd L k))) hen ?_
            refine px_fS1i dX4_bestSpot_155 kX4_bestSpot_90 (Nat.le_of_ble_eq_true rfl) (c_X4_yOf) ?_
            refine px_top (y := nI (gd L k).2.1) hdc.1 ?_
            refine px_iload dX4_bestSpot_158 rfl ?_
            refine px_fS3i dX4_bestSpot_160 kX4_bestSpot_109 (Nat.le_of_ble_eq_true rfl) (c_X1_spotAt) ?_
            refine px_top (y := spE L (some (k, i))) (sp_at ht2) ?_
            refine px_si_3 dX4_bestSpot_163 rfl ?_
            refine px_inc_7 dX4_bestSpot_164 rfl ic_1 ?_
            refine px_goto 35 dX4_bestSpot_167 rfl ?_
            first
              | (have e : bst rule A D f L (bsT rule A D f L k b0 i) k i = bsT rule A D f L k b0 i := bst_u (fun z => by rw [nI_ltI (by omega) (by have := hX i; omega)] at h83; omega); have kx := nx hlt; rw [bsT, e] at kx; rw [nI_1 i]; exact px_forget (by repeat' constructor) kx)
              | (have e : bst rule A D f L (bsT rule A D f L k b0 i) k i = bsT rule A D f L k b0 i := bst_u (fun z => by rw [nI_leI (by have := hD i; omega) (by omega)] at h98; omega); have kx := nx hlt; rw [bsT, e] at kx; rw [nI_1 i]; exact px_forget (by repeat' constructor) kx)
              | (have e := bst_n (rule := rule) hfit (spE_n hB hbt h124); have kx := nx hlt; rw [bsT, e] at kx; rw [nI_1 i]; exact px_forget (by repeat' constructor) kx)
              | (obtain ⟨q, hq⟩ := spE_s h124; have e := bst_b (rule := rule) hfit hq (Classical.not_not.mp (fun z => h131 ((le_bet hq hB hD).mpr z))); have kx := nx hlt; rw [bsT, e] at kx; rw [nI_1 i]; exact px_forget (by repeat' constructor) kx)
              | (obtain ⟨q, hq⟩ := spE_s h124; have e := bst_w (rule := rule) hfit hq ((le_bet hq hB hD).mp h131); have kx := nx hlt; rw [bsT, e] at kx; rw [nI_1 i]; exact px_forget (by repeat' constructor) kx)
          · refine px_iload dX4_bestSpot_127 rfl ?_
            refine px_iload dX4_bestSpot_129 rfl ?_
            refine px_icmp_ge 164 dX4_bestSpot_131 rfl (fun h131 => ?_) (fun h131 => ?_)
            · refine px_inc_7 dX4_bestSpot_164 rfl ic_1 ?_
              refine px_goto 35 dX4_bestSpot_167 rfl ?_
              first
                | (have e : bst rule A D f L (bsT rule A D f L k b0 i) k i = bsT rule A D f L k b0 i := bst_u (fun z => by rw [nI_ltI (by omega) (by have := hX i; omega)] at h83; omega); have kx := nx hlt; rw [bsT, e] at kx; rw [nI_1 i]; exact px_forget (by repeat' constructor) kx)
                | (have e : bst rule A D f L (bsT rule A D f L k b0 i) k i = bsT rule A D f L k b0 i := bst_u (fun z => by rw [nI_leI (by have := hD i; omega) (by omega)] at h98; omega); have kx := nx hlt; rw [bsT, e] at kx; rw [nI_1 i]; exact px_forget (by repeat' constructor) kx)
                | (have e := bst_n (rule := rule) hfit (spE_n hB hbt h124); have kx := nx hlt; rw [bsT, e] at kx; rw [nI_1 i]; exact px_forget (by repeat' constructor) kx)
                | (obtain ⟨q, hq⟩ := spE_s h124; have e := bst_b (rule := rule) hfit hq (Classical.not_not.mp (fun z => h131 ((le_bet hq hB hD).mpr z))); have kx := nx hlt; rw [bsT, e] at kx; rw [nI_1 i]; exact px_forget (by repeat' constructor) kx)
                | (obtain ⟨q, hq⟩ := spE_s h124; have e := bst_w (rule := rule) hfit hq ((le_bet hq hB hD).mp h131); have kx := nx hlt; rw [bsT, e] at kx; rw [nI_1 i]; exact px_forget (by repeat' constructor) kx)
            · refine px_iload dX4_bestSpot_134 rfl ?_
              refine px_top (y := leE rule A D f L (some (k, i))) rfl ?_
              refine px_si_4 dX4_bestSpot_136 rfl ?_
              refine px_aload_n dX4_bestSpot_138 rfl rfl ?_
              refine px_getR dX4_bestSpot_139 fX4_15 (xol rfl) hM rfl (wr_4_1 hW (xol rfl)) (Nat.succ_pos _) ?_
              refine px_iload dX4_bestSpot_142 rfl ?_
              refine px_iald dX4_bestSpot_144 (xal (n := 729) rfl) hM hki ?_
              refine px_top (y := nI (gEnc (gd L k))) hen ?_
              refine px_fS1i dX4_bestSpot_145 kX4_bestSpot_89 (Nat.le_of_ble_eq_true rfl) (c_X4_xOf) ?_
              refine px_top (y := nI (gd L k).1) hdc.2.1 ?_
              refine px_aload_n dX4_bestSpot_148 rfl rfl ?_
              refine px_getR dX4_bestSpot_149 fX4_15 (xol rfl) hM rfl (wr_4_1 hW (xol rfl)) (Nat.succ_pos _) ?_
              refine px_iload dX4_bestSpot_152 rfl ?_
              refine px_iald dX4_bestSpot_154 (xal (n := 729) rfl) hM hki ?_
              refine px_top (y := nI (gEnc (gd L k))) hen ?_
              refine px_fS1i dX4_bestSpot_155 kX4_bestSpot_90 (Nat.le_of_ble_eq_true rfl) (c_X4_yOf) ?_
              refine px_top (y := nI (gd L k).2.1) hdc.1 ?_
              refine px_iload dX4_bestSpot_158 rfl ?_
              refine px_fS3i dX4_bestSpot_160 kX4_bestSpot_109 (Nat.le_of_ble_eq_true rfl) (c_X1_spotAt) ?_
              refine px_top (y := spE L (some (k, i))) (sp_at ht2) ?_
              refine px_si_3 dX4_bestSpot_163 rfl ?_
              refine px_inc_7 dX4_bestSpot_164 rfl ic_1 ?_
              refine px_goto 35 dX4_bestSpot_167 rfl ?_
              first
                | (have e : bst rule A D f L (bsT rule A D f L k b0 i) k i = bsT rule A D f L k b0 i := bst_u (fun z => by rw [nI_ltI (by omega) (by have := hX i; omega)] at h83; omega); have kx := nx hlt; rw [bsT, e] at kx; rw [nI_1 i]; exact px_forget (by repeat' constructor) kx)
                | (have e : bst rule A D f L (bsT rule A D f L k b0 i) k i = bsT rule A D f L k b0 i := bst_u (fun z => by rw [nI_leI (by have := hD i; omega) (by omega)] at h98; omega); have kx := nx hlt; rw [bsT, e] at kx; rw [nI_1 i]; exact px_forget (by repeat' constructor) kx)
                | (have e := bst_n (rule := rule) hfit (spE_n hB hbt h124); have kx := nx hlt; rw [bsT, e] at kx; rw [nI_1 i]; exact px_forget (by repeat' constructor) kx)
                | (obtain ⟨q, hq⟩ := spE_s h124; have e := bst_b (rule := rule) hfit hq (Classical.not_not.mp (fun z => h131 ((le_bet hq hB hD).mpr z))); have kx := nx hlt; rw [bsT, e] at kx; rw [nI_1 i]; exact px_forget (by repeat' constructor) kx)
                | (obtain ⟨q, hq⟩ := spE_s h124; have e := bst_w (rule := rule) hfit hq ((le_bet hq hB hD).mp h131); have kx := nx hlt; rw [bsT, e] at kx; rw [nI_1 i]; exact px_forget (by repeat' constructor) kx)
        · refine px_goto 164 dX4_bestSpot_101 rfl ?_
          refine px_inc_7 dX4_bestSpot_164 rfl ic_1 ?_
          refine px_goto 35 dX4_bestSpot_167 rfl ?_
          first
            | (have e : bst rule A D f L (bsT rule A D f L k b0 i) k i = bsT rule A D f L k b0 i := bst_u (fun z => by rw [nI_ltI (by omega) (by have := hX i; omega)] at h83; omega); have kx := nx hlt; rw [bsT, e] at kx; rw [nI_1 i]; exact px_forget (by repeat' constructor) kx)
            | (have e : bst rule A D f L (bsT rule A D f L k b0 i) k i = bsT rule A D f L k b0 i := bst_u (fun z => by rw [nI_leI (by have := hD i; omega) (by omega)] at h98; omega); have kx := nx hlt; rw [bsT, e] at kx; rw [nI_1 i]; exact px_forget (by repeat' constructor) kx)
            | (have e := bst_n (rule := rule) hfit (spE_n hB hbt h124); have kx := nx hlt; rw [bsT, e] at kx; rw [nI_1 i]; exact px_forget (by repeat' constructor) kx)
            | (obtain ⟨q, hq⟩ := spE_s h124; have e := bst_b (rule := rule) hfit hq (Classical.not_not.mp (fun z => h131 ((le_bet hq hB hD).mpr z))); have kx := nx hlt; rw [bsT, e] at kx; rw [nI_1 i]; exact px_forget (by repeat' constructor) kx)
            | (obtain ⟨q, hq⟩ := spE_s h124; have e := bst_w (rule := rule) hfit hq ((le_bet hq hB hD).mp h131); have kx := nx hlt; rw [bsT, e] at kx; rw [nI_1 i]; exact px_forget (by repeat' constructor) kx)

set_option maxRecDepth 100000 in
theorem l_X4_bestSpot {E : xE} {M : xMem} {s n W H f T rule : Nat} {A D : Nat → Nat} {L : List gR} (hM : xNT ≤ xN M) (hW : xWire M.2.1) (hs : xob s 7) (hsh : shC M s n W H A D) (hC : frC M L) (hB : ∀ r ∈ L, rB r) (h729 : L.length ≤ 729) (hfn : f < n) (hT : T ≤ 2) (hru : rule < 4) : PR E mX4_bestSpot (xN M) 23 [some (.ref 25), some (.ref (fA s f)), some (.int (nI rule)), some (.int (spE L (bsK rule A D f L T 0))), some (.int (leE rule A D f L (bsK rule A D f L T 0))), some (.int (nI T)), some (.int (nI 0)), none, none, none, none, none] [] (M) (fun r m => r = some (.int (spE L (bsK rule A D f L T L.length))) ∧ m = M) := by
  refine px_for (P := fun i => PR E mX4_bestSpot (xN M) 23 [some (.ref 25), some (.ref (fA s f)), some (.int (nI rule)), some (.int (spE L (bsK rule A D f L T i))), some (.int (leE rule A D f L (bsK rule A D f L T i))), some (.int (nI T)), some (.int (nI i)), none, none, none, none, none] [] (M) (fun r m => r = some (.int (spE L (bsK rule A D f L T L.length))) ∧ m = M)) (L.length) (fun i hi nx => ?_) (0) (by omega)
  refine px_iload dX4_bestSpot_23 rfl ?_
  refine px_aload_n dX4_bestSpot_25 rfl rfl ?_
  refine px_getI dX4_bestSpot_26 fX4_25 (xol rfl) hM rfl ?_
  refine px_top (y := nI L.length) hC.1 ?_
  refine px_icmp_ge 176 dX4_bestSpot_29 rfl (fun h29 => ?_) (fun h29 => ?_)
  · have hi2 : i = L.length := by rw [nI_leI (by omega) (by omega)] at h29; omega
    refine px_iload_n dX4_bestSpot_176 rfl rfl ?_
    exact px_iret dX4_bestSpot_177 rfl ⟨by rw [hi2], rfl⟩ (rfl)
  · have hlt : i < L.length := by rw [nI_leI (by omega) (by omega)] at h29; omega
    refine px_iconst dX4_bestSpot_32 ic_0 ?_
    refine px_si_7 dX4_bestSpot_33 rfl ?_
    have hkx : PR E mX4_bestSpot (xN M) 170 [some (.ref 25), some (.ref (fA s f)), some (.int (nI rule)), some (.int (spE L (bsT rule A D f L i (bsK rule A D f L T i) T))), some (.int (leE rule A D f L (bsT rule A D f L i (bsK rule A D f L T i) T))), some (.int (nI T)), some (.int (nI i)), some (.int (nI T)), none, none, none, none] [] M (fun r m => r = some (.int (spE L (bsK rule A D f L T L.length))) ∧ m = M) := by
      refine px_inc_6 dX4_bestSpot_170 rfl ic_1 ?_
      refine px_goto 23 dX4_bestSpot_173 rfl ?_
      rw [nI_1]
      exact px_forget (by repeat' constructor) (nx hlt)
    exact l_bs_in hM hW hs hsh hC hB h729 hfn hT hru hlt (fun q hq => by have := (bsK_ok T i q hq).2.1; omega) hkx

set_option maxRecDepth 100000 in
theorem c_X4_bestSpot {E : xE} {M : xMem} {s n W H f T rule : Nat} {A D : Nat → Nat} {L : List gR} (hM : xNT ≤ xN M) (hW : xWire M.2.1) (hs : xob s 7) (hsh : shC M s n W H A D) (hC : frC M L) (hB : ∀ r ∈ L, rB r) (h729 : L.length ≤ 729) (hfn : f < n) (hT : T ≤ 2) (hru : rule < 4) (hTt : (M.1 (fA s f) 0 = 1 ∨ M.1 (fA s f) 0 = 3 → T = 1) ∧ (¬ (M.1 (fA s f) 0 = 1 ∨ M.1 (fA s f) 0 = 3) → T = 2)) : Cf E mX4_bestSpot [.ref 25, .ref (fA s f), .int (nI rule)] M (some (.int (spE L (bsK rule A D f L T L.length)))) M := by
  refine Ct.of (lo := [some (.ref 25), some (.ref (fA s f)), some (.int (nI rule)), none, none, none, none, none, none, none, none, none]) pln_X4 (Nat.le_of_ble_eq_true rfl) rfl (Nat.le_refl _) ?_
  have h8 : n ≤ 8 := hsh.2.2.2.1
  have hfo : xob (fA s f) 0 := ob_frame hs (by omega)
  refine px_bipush dX4_bestSpot_0 bp_m9 ?_
  refine px_si_3 dX4_bestSpot_2 rfl ?_
  refine px_iconst dX4_bestSpot_3 ic_0 ?_
  refine px_si_4 dX4_bestSpot_4 rfl ?_
  refine px_aload_n dX4_bestSpot_6 rfl rfl ?_
  refine px_fV0i dX4_bestSpot_7 kX4_bestSpot_101 hfo hM (Nat.le_of_ble_eq_true rfl) (c_X0_mayTurn hfo hM) ?_
  refine px_zif_eq 17 dX4_bestSpot_10 rfl (fun h10 => ?_) (fun h10 => ?_)
  · refine px_iconst dX4_bestSpot_17 ic_1 ?_
    first | refine px_top (y := nI T) (by rw [hTt.2 h10]; rfl) ?_ | refine px_top (y := nI T) (by rw [hTt.1 (Classical.not_not.mp h10)]; rfl) ?_
    refine px_si_5 dX4_bestSpot_18 rfl ?_
    refine px_iconst dX4_bestSpot_20 ic_0 ?_
    refine px_si_6 dX4_bestSpot_21 rfl ?_
    exact l_X4_bestSpot hM hW hs hsh hC hB h729 hfn hT hru
  · refine px_iconst dX4_bestSpot_13 ic_2 ?_
    refine px_goto 18 dX4_bestSpot_14 rfl ?_
    first | refine px_top (y := nI T) (by rw [hTt.2 h10]; rfl) ?_ | refine px_top (y := nI T) (by rw [hTt.1 (Classical.not_not.mp h10)]; rfl) ?_
    refine px_si_5 dX4_bestSpot_18 rfl ?_
    refine px_iconst dX4_bestSpot_20 ic_0 ?_
    refine px_si_6 dX4_bestSpot_21 rfl ?_
    exact l_X4_bestSpot hM hW hs hsh hC hB h729 hfn hT hru

def bg (rule : Nat) (A D : Nat → Nat) (f : Nat) (L : List gR) (g : Nat → Int32) : Option (Nat × Nat) → Nat → Int32
  | none => fun j => if j = 32 then -9 else g j
  | some q => fun j => if j = 32 then nI q.1 else if j = 33 then nI q.2 else if j = 34 then nI (bK1 rule A D f L q.1 q.2) else if j = 35 then nI (bK2 rule A D f L q.1 q.2) else g j
theorem bg_o {rule : Nat} {A D : Nat → Nat} {f : Nat} {L : List gR} {g : Nat → Int32} (b : Option (Nat × Nat)) {j : Nat} (h : j < 32 ∨ 35 < j) : bg rule A D f L g b j = g j := by
  cases b with
  | none => exact if_neg (by omega)
  | some q => show (if j = 32 then _ else _) = _; rw [if_neg (by omega), if_neg (by omega), if_neg (by omega), if_neg (by omega)]
theorem bg_s {M : xMem} {rule : Nat} {A D : Nat → Nat} {f : Nat} {L : List gR} {g : Nat → Int32} (b : Option (Nat × Nat)) (k t : Nat) : wI (wI (wI (wI (wF M 74 (bg rule A D f L g b)) 74 32 (nI k)) 74 33 (nI t)) 74 34 (nI (bK1 rule A D f L k t))) 74 35 (nI (bK2 rule A D f L k t)) = wF M 74 (bg rule A D f L g (some (k, t))) := by
  rw [wI_wF, wI_wF, wI_wF, wI_wF]
  congr 1
  funext j
  show _ = (if j = 32 then nI k else if j = 33 then nI t else if j = 34 then nI (bK1 rule A D f L k t) else if j = 35 then nI (bK2 rule A D f L k t) else g j)
  by_cases e1 : j = 35
  · subst e1; rfl
  by_cases e2 : j = 34
  · subst e2; rfl
  by_cases e3 : j = 33
  · subst e3; rfl
  by_cases e4 : j = 32
  · subst e4; rfl
  rw [if_neg e1, if_neg e2, if_neg e3, if_neg e4, if_neg e4, if_neg e3, if_neg e2, if_neg e1]
  exact bg_o b (by omega)
theorem shM_keep {M M1 : xMem} {n W H : Nat} {A D : Nat → Nat} (h : shM M n W H A D) (h81 : M1.1 81 = M.1 81) (h74 : ∀ k, 8 ≤ k → k ≤ 11 → M1.1 74 k = M.1 74 k) : shM M1 n W H A D := by
  refine ⟨by rw [h74 11 (by decide) (by decide)]; exact h.1, by rw [h74 8 (by decide) (by decide)]; exact h.2.1, by rw [h74 9 (by decide) (by decide)]; exact h.2.2.1, h.2.2.2.1, h.2.2.2.2.1, h.2.2.2.2.2.1, fun f hf => ?_⟩
  have := h.2.2.2.2.2.2 f hf
  unfold mNX mEd mAcr mDn mg at *
  rw [h81, h74 10 (by decide) (by decide)]
  exact this
theorem shM_bg {M : xMem} {n W H : Nat} {A D : Nat → Nat} (h : shM M n W H A D) {rule f : Nat} {A2 D2 : Nat → Nat} {L : List gR} (b : Option (Nat × Nat)) : shM (wF M 74 (bg rule A2 D2 f L (M.1 74) b)) n W H A D :=
  shM_keep h rfl (fun k h1 h2 => bg_o b (by omega))
theorem frL_bg {M : xMem} {L : List gR} (h : frL M L) {rule f : Nat} {A2 D2 : Nat → Nat} {L2 : List gR} (b : Option (Nat × Nat)) : frL (wF M 74 (bg rule A2 D2 f L2 (M.1 74) b)) L :=
  ⟨(bg_o b (by omega)).trans h.1, h.2⟩
theorem bg_32 {rule : Nat} {A D : Nat → Nat} {f : Nat} {L : List gR} {g : Nat → Int32} {b : Option (Nat × Nat)} (hk : ∀ q, b = some q → q.1 < 2 ^ 30) (h : bg rule A D f L g b 32 = -9) : b = none := by
  cases b with
  | none => rfl
  | some q => exact absurd h (nI_ne9 (hk q rfl))
theorem bg_32s {rule : Nat} {A D : Nat → Nat} {f : Nat} {L : List gR} {g : Nat → Int32} {b : Option (Nat × Nat)} (h : ¬ bg rule A D f L g b 32 = -9) : ∃ q, b = some q := by
  cases b with
  | none => exact absurd rfl h
  | some q => exact ⟨q, rfl⟩

set_option maxRecDepth 100000 in
theorem l_fr_in {E : xE} {M : xMem} {n W H f k T rule ne : Nat} {A D : Nat → Nat} {L : List gR} {b0 : Option (Nat × Nat)} {Q : Option Value → xMem → Prop} (hM : xNT ≤ xN M) (hW : xWire M.2.1) (hs : shM M n W H A D) (hL : frL M L) (hB : ∀ r ∈ L, rB r) (hk4 : L.length ≤ 4096) (hfn : f < n) (hT : T ≤ 2) (hru : rule < 4) (hTt : (if mg M f 0 = 1 then (1 : Int32) else if mg M f 0 = 3 then 1 else 2) = nI T) (hk : k < L.length) (hb0 : bOK A D f L T k b0) (kk : PR E mX11_findsRoom ne 148 [some (.ref 74), some (.int (nI f)), some (.int (nI rule)), some (.int (nI k)), some (.int (nI T)), none, none] [] (wF M 74 (bg rule A D f L (M.1 74) (bsT rule A D f L k b0 T))) Q) : PR E mX11_findsRoom (ne) 19 [some (.ref 74), some (.int (nI f)), some (.int (nI rule)), some (.int (nI k)), some (.int (nI 0)), none, none] [] (wF M 74 (bg rule A D f L (M.1 74) (bsT rule A D f L k b0 0))) (Q) := by
  have h8 : f < 8 := by have := hs.2.2.2.1; omega
  have hD : ∀ t, gNY A D f t ≤ 22 := fun t => (gN_le hs hfn).2.1
  have hX : ∀ t, gNX A D f t ≤ 22 := fun t => (gN_le hs hfn).1
  have hki : vp_in (nI k) 4096 := vp_in_nI (by omega) (by decide)
  have hnk : (nI k).toNatClampNeg = k := nI_clamp (by omega)
  have hrb := gd_B hB k
  obtain ⟨b1, b2, b3, b4⟩ := id hrb
  have hdc := hL.2 k _ (gd_at hk)
  refine px_for (P := fun i => PR E mX11_findsRoom (ne) 19 [some (.ref 74), some (.int (nI f)), some (.int (nI rule)), some (.int (nI k)), some (.int (nI i)), none, none] [] (wF M 74 (bg rule A D f L (M.1 74) (bsT rule A D f L k b0 i))) (Q)) (T) (fun i hi nx => ?_) (0) (by omega)
  refine px_iload dX11_findsRoom_19 rfl ?_
  refine px_aload_n dX11_findsRoom_21 rfl rfl ?_
  refine px_iload_n dX11_findsRoom_22 rfl rfl ?_
  refine px_fV1i dX11_findsRoom_23 kX11_findsRoom_251 (xol rfl) hM (Nat.le_of_ble_eq_true rfl) (c_X11_turns h8 hM hW) ?_
  refine px_top (y := nI T) hTt ?_
  refine px_icmp_ge 148 dX11_findsRoom_26 rfl (fun h26 => ?_) (fun h26 => ?_)
  · have hi2 : i = T := by rw [nI_leI (by omega) (by omega)] at h26; omega
    subst hi2
    exact kk
  · have hlt : i < T := by rw [nI_leI (by omega) (by omega)] at h26; omega
    have ht2 : i < 2 := by omega
    have hs1 := shM_bg (rule := rule) (f := f) (A2 := A) (D2 := D) (L := L) hs (bsT rule A D f L k b0 i)
    have hN := mNX_t hs1 hfn ht2
    have hbt : ∀ q, (bsT rule A D f L k b0 i) = some q → q.1 < 2 ^ 30 := fun q hq => by have := (bsT_ok (rule := rule) hb0 i hi q hq).1; omega
    have hk1 := bK_le (rule := rule) hB hD k i
    have hkb : ∀ q : Nat × Nat, bK1 rule A D f L q.1 q.2 ≤ 256 ∧ bK2 rule A D f L q.1 q.2 ≤ 16 := fun q => bK_le hB hD q.1 q.2
    refine px_aload_n dX11_findsRoom_29 rfl rfl ?_
    refine px_iload_n dX11_findsRoom_30 rfl rfl ?_
    refine px_iload dX11_findsRoom_31 rfl ?_
    refine px_fV2i dX11_findsRoom_33 kX11_findsRoom_220 (xol rfl) hM (Nat.le_of_ble_eq_true rfl) (c_X11_needX h8 hM hW) ?_
    refine px_top (y := nI (gNX A D f i)) hN.1 ?_
    refine px_aload_n dX11_findsRoom_36 rfl rfl ?_
    refine px_getR dX11_findsRoom_37 fX11_50 (xol rfl) hM rfl (wr_11_30 hW (xol rfl)) (Nat.succ_pos _) ?_
    refine px_iload_n dX11_findsRoom_40 rfl rfl ?_
    refine px_iald dX11_findsRoom_41 (xal (n := 4096) rfl) hM hki ?_
    refine px_top (y := nI (gd L k).2.2.1) (by rw [hnk]; exact hdc.2.2.1) ?_
    refine px_icmp_gt 142 dX11_findsRoom_42 rfl (fun h42 => ?_) (fun h42 => ?_)
    · refine px_inc_4 dX11_findsRoom_142 rfl ic_1 ?_
      refine px_goto 19 dX11_findsRoom_145 rfl ?_
      first
        | (have e : bst rule A D f L (bsT rule A D f L k b0 i) k i = bsT rule A D f L k b0 i := bst_u (fun z => by rw [nI_ltI (by omega) (by have := hX i; omega)] at h42; omega); have kx := nx hlt; rw [bsT, e] at kx; rw [nI_1 i]; exact px_forget (by repeat' constructor) kx)
        | (have e : bst rule A D f L (bsT rule A D f L k b0 i) k i = bsT rule A D f L k b0 i := bst_u (fun z => by rw [nI_ltI (by omega) (by have := hD i; omega)] at h58; omega); have kx := nx hlt; rw [bsT, e] at kx; rw [nI_1 i]; exact px_forget (by repeat' constructor) kx)
        | (have e := bst_n (rule := rule) hfit (bg_32 hbt h89); have kx := nx hlt; rw [bsT, e] at kx; rw [nI_1 i]; exact px_forget (by repeat' constructor) (px_mem (bg_s _ k i) kx))
        | (obtain ⟨q, hq⟩ := bg_32s h89; rw [hq] at h98; have h98' : nI (bK1 rule A D f L k i) < nI (bK1 rule A D f L q.1 q.2) := h98; rw [nI_ltI (by omega) (by have := hkb q; omega)] at h98'; have e := bst_b (rule := rule) hfit hq (Or.inl h98'); have kx := nx hlt; rw [bsT, e] at kx; rw [nI_1 i]; exact px_forget (by repeat' constructor) (px_mem (bg_s _ k i) kx))
        | (obtain ⟨q, hq⟩ := bg_32s h89; rw [hq] at h107 h116; have h107' : nI (bK1 rule A D f L k i) = nI (bK1 rule A D f L q.1 q.2) := h107; have h116' : ¬ nI (bK2 rule A D f L q.1 q.2) ≤ nI (bK2 rule A D f L k i) := h116; rw [nI_eq (by omega) (by have := hkb q; omega)] at h107'; rw [nI_leI (by have := hkb q; omega) (by omega)] at h116'; have e := bst_b (rule := rule) hfit hq (Or.inr ⟨h107', by omega⟩); have kx := nx hlt; rw [bsT, e] at kx; rw [nI_1 i]; exact px_forget (by repeat' constructor) (px_mem (bg_s _ k i) kx))
        | (obtain ⟨q, hq⟩ := bg_32s h89; rw [hq] at h98 h107; have h98' : ¬ nI (bK1 rule A D f L k i) < nI (bK1 rule A D f L q.1 q.2) := h98; have h107' : ¬ nI (bK1 rule A D f L k i) = nI (bK1 rule A D f L q.1 q.2) := h107; rw [nI_eq (by omega) (by have := hkb q; omega)] at h107'; rw [nI_ltI (by omega) (by have := hkb q; omega)] at h98'; have e := bst_w (rule := rule) hfit hq (by omega); have kx := nx hlt; rw [bsT, e] at kx; rw [nI_1 i]; exact px_forget (by repeat' constructor) kx)
        | (obtain ⟨q, hq⟩ := bg_32s h89; rw [hq] at h98 h116; have h98' : ¬ nI (bK1 rule A D f L k i) < nI (bK1 rule A D f L q.1 q.2) := h98; have h116' : nI (bK2 rule A D f L q.1 q.2) ≤ nI (bK2 rule A D f L k i) := h116; rw [nI_ltI (by omega) (by have := hkb q; omega)] at h98'; rw [nI_leI (by have := hkb q; omega) (by omega)] at h116'; have e := bst_w (rule := rule) hfit hq (by omega); have kx := nx hlt; rw [bsT, e] at kx; rw [nI_1 i]; exact px_forget (by repeat' constructor) kx)
    · refine px_aload_n dX11_findsRoom_45 rfl rfl ?_
      refine px_iload_n dX11_findsRoom_46 rfl rfl ?_
      refine px_iload dX11_findsRoom_47 rfl ?_
      refine px_fV2i dX11_findsRoom_49 kX11_findsRoom_229 (xol rfl) hM (Nat.le_of_ble_eq_true rfl) (c_X11_needY h8 hM hW) ?_
      refine px_top (y := nI (gNY A D f i)) hN.2 ?_
      refine px_aload_n dX11_findsRoom_52 rfl rfl ?_
      refine px_getR dX11_findsRoom_53 fX11_53 (xol rfl) hM rfl (wr_11_31 hW (xol rfl)) (Nat.succ_pos _) ?_
      refine px_iload_n dX11_findsRoom_56 rfl rfl ?_
      refine px_iald dX11_findsRoom_57 (xal (n := 4096) rfl) hM hki ?_
      refine px_top (y := nI (gd L k).2.2.2) (by rw [hnk]; exact hdc.2.2.2) ?_
      refine px_icmp_gt 142 dX11_findsRoom_58 rfl (fun h58 => ?_) (fun h58 => ?_)
      · refine px_inc_4 dX11_findsRoom_142 rfl ic_1 ?_
        refine px_goto 19 dX11_findsRoom_145 rfl ?_
        first
          | (have e : bst rule A D f L (bsT rule A D f L k b0 i) k i = bsT rule A D f L k b0 i := bst_u (fun z => by rw [nI_ltI (by omega) (by have := hX i; omega)] at h42; omega); have kx := nx hlt; rw [bsT, e] at kx; rw [nI_1 i]; exact px_forget (by repeat' constructor) kx)
          | (have e : bst rule A D f L (bsT rule A D f L k b0 i) k i = bsT rule A D f L k b0 i := bst_u (fun z => by rw [nI_ltI (by omega) (by have := hD i; omega)] at h58; omega); have kx := nx hlt; rw [bsT, e] at kx; rw [nI_1 i]; exact px_forget (by repeat' constructor) kx)
          | (have e := bst_n (rule := rule) hfit (bg_32 hbt h89); have kx := nx hlt; rw [bsT, e] at kx; rw [nI_1 i]; exact px_forget (by repeat' constructor) (px_mem (bg_s _ k i) kx))
          | (obtain ⟨q, hq⟩ := bg_32s h89; rw [hq] at h98; have h98' : nI (bK1 rule A D f L k i) < nI (bK1 rule A D f L q.1 q.2) := h98; rw [nI_ltI (by omega) (by have := hkb q; omega)] at h98'; have e := bst_b (rule := rule) hfit hq (Or.inl h98'); have kx := nx hlt; rw [bsT, e] at kx; rw [nI_1 i]; exact px_forget (by repeat' constructor) (px_mem (bg_s _ k i) kx))
          | (obtain ⟨q, hq⟩ := bg_32s h89; rw [hq] at h107 h116; have h107' : nI (bK1 rule A D f L k i) = nI (bK1 rule A D f L q.1 q.2) := h107; have h116' : ¬ nI (bK2 rule A D f L q.1 q.2) ≤ nI (bK2 rule A D f L k i) := h116; rw [nI_eq (by omega) (by have := hkb q; omega)] at h107'; rw [nI_leI (by have := hkb q; omega) (by omega)] at h116'; have e := bst_b (rule := rule) hfit hq (Or.inr ⟨h107', by omega⟩); have kx := nx hlt; rw [bsT, e] at kx; rw [nI_1 i]; exact px_forget (by repeat' constructor) (px_mem (bg_s _ k i) kx))
          | (obtain ⟨q, hq⟩ := bg_32s h89; rw [hq] at h98 h107; have h98' : ¬ nI (bK1 rule A D f L k i) < nI (bK1 rule A D f L q.1 q.2) := h98; have h107' : ¬ nI (bK1 rule A D f L k i) = nI (bK1 rule A D f L q.1 q.2) := h107; rw [nI_eq (by omega) (by have := hkb q; omega)] at h107'; rw [nI_ltI (by omega) (by have := hkb q; omega)] at h98'; have e := bst_w (rule := rule) hfit hq (by omega); have kx := nx hlt; rw [bsT, e] at kx; rw [nI_1 i]; exact px_forget (by repeat' constructor) kx)
          | (obtain ⟨q, hq⟩ := bg_32s h89; rw [hq] at h98 h116; have h98' : ¬ nI (bK1 rule A D f L k i) < nI (bK1 rule A D f L q.1 q.2) := h98; have h116' : nI (bK2 rule A D f L q.1 q.2) ≤ nI (bK2 rule A D f L k i) := h116; rw [nI_ltI (by omega) (by have := hkb q; omega)] at h98'; rw [nI_leI (by have := hkb q; omega) (by omega)] at h116'; have e := bst_w (rule := rule) hfit hq (by omega); have kx := nx hlt; rw [bsT, e] at kx; rw [nI_1 i]; exact px_forget (by repeat' constructor) kx)
      · have hfit : gNX A D f i ≤ (gd L k).2.2.1 ∧ gNY A D f i ≤ (gd L k).2.2.2 := by
          rw [nI_ltI (by omega) (by have := hX i; omega)] at h42
          rw [nI_ltI (by omega) (by have := hD i; omega)] at h58
          exact ⟨by omega, by omega⟩
        refine px_aload_n dX11_findsRoom_61 rfl rfl ?_
        refine px_iload_n dX11_findsRoom_62 rfl rfl ?_
        refine px_iload_n dX11_findsRoom_63 rfl rfl ?_
        refine px_iload_n dX11_findsRoom_64 rfl rfl ?_
        refine px_iload dX11_findsRoom_65 rfl ?_
        refine px_fV4i dX11_findsRoom_67 kX11_findsRoom_254 (xol rfl) hM (Nat.le_of_ble_eq_true rfl) (c_X11_first (M := wF M 74 (bg rule A D f L (M.1 74) (bsT rule A D f L k b0 i))) hM hW hs1 (frL_bg hL _) hk hk4 hfn ht2 hrb hru hfit.1 hfit.2) ?_
        refine px_si_5 dX11_findsRoom_70 rfl ?_
        refine px_aload_n dX11_findsRoom_72 rfl rfl ?_
        refine px_iload_n dX11_findsRoom_73 rfl rfl ?_
        refine px_iload_n dX11_findsRoom_74 rfl rfl ?_
        refine px_iload_n dX11_findsRoom_75 rfl rfl ?_
        refine px_iload dX11_findsRoom_76 rfl ?_
        refine px_fV4i dX11_findsRoom_78 kX11_findsRoom_258 (xol rfl) hM (Nat.le_of_ble_eq_true rfl) (c_X11_second (M := wF M 74 (bg rule A D f L (M.1 74) (bsT rule A D f L k b0 i))) hM hW hs1 (frL_bg hL _) hk hk4 hfn ht2 hrb hru hfit.1 hfit.2) ?_
        refine px_si_6 dX11_findsRoom_81 rfl ?_
        refine px_aload_n dX11_findsRoom_83 rfl rfl ?_
        refine px_getI dX11_findsRoom_84 fX11_248 (xol rfl) hM rfl ?_
        refine px_bipush dX11_findsRoom_87 bp_m9 ?_
        refine px_icmp_eq 119 dX11_findsRoom_89 rfl (fun h89 => ?_) (fun h89 => ?_)
        · refine px_aload_n dX11_findsRoom_119 rfl rfl ?_
          refine px_iload_n dX11_findsRoom_120 rfl rfl ?_
          refine px_putI dX11_findsRoom_121 fX11_248 p11_32 (xol rfl) hM rfl ?_
          refine px_aload_n dX11_findsRoom_124 rfl rfl ?_
          refine px_iload dX11_findsRoom_125 rfl ?_
          refine px_putI dX11_findsRoom_127 fX11_267 p11_33 (xol rfl) hM rfl ?_
          refine px_aload_n dX11_findsRoom_130 rfl rfl ?_
          refine px_iload dX11_findsRoom_131 rfl ?_
          refine px_putI dX11_findsRoom_133 fX11_261 p11_34 (xol rfl) hM rfl ?_
          refine px_aload_n dX11_findsRoom_136 rfl rfl ?_
          refine px_iload dX11_findsRoom_137 rfl ?_
          refine px_putI dX11_findsRoom_139 fX11_264 p11_35 (xol rfl) hM rfl ?_
          refine px_inc_4 dX11_findsRoom_142 rfl ic_1 ?_
          refine px_goto 19 dX11_findsRoom_145 rfl ?_
          first
            | (have e : bst rule A D f L (bsT rule A D f L k b0 i) k i = bsT rule A D f L k b0 i := bst_u (fun z => by rw [nI_ltI (by omega) (by have := hX i; omega)] at h42; omega); have kx := nx hlt; rw [bsT, e] at kx; rw [nI_1 i]; exact px_forget (by repeat' constructor) kx)
            | (have e : bst rule A D f L (bsT rule A D f L k b0 i) k i = bsT rule A D f L k b0 i := bst_u (fun z => by rw [nI_ltI (by omega) (by have := hD i; omega)] at h58; omega); have kx := nx hlt; rw [bsT, e] at kx; rw [nI_1 i]; exact px_forget (by repeat' constructor) kx)
            | (have e := bst_n (rule := rule) hfit (bg_32 hbt h89); have kx := nx hlt; rw [bsT, e] at kx; rw [nI_1 i]; exact px_forget (by repeat' constructor) (px_mem (bg_s _ k i) kx))
            | (obtain ⟨q, hq⟩ := bg_32s h89; rw [hq] at h98; have h98' : nI (bK1 rule A D f L k i) < nI (bK1 rule A D f L q.1 q.2) := h98; rw [nI_ltI (by omega) (by have := hkb q; omega)] at h98'; have e := bst_b (rule := rule) hfit hq (Or.inl h98'); have kx := nx hlt; rw [bsT, e] at kx; rw [nI_1 i]; exact px_forget (by repeat' constructor) (px_mem (bg_s _ k i) kx))
            | (obtain ⟨q, hq⟩ := bg_32s h89; rw [hq] at h107 h116; have h107' : nI (bK1 rule A D f L k i) = nI (bK1 rule A D f L q.1 q.2) := h107; have h116' : ¬ nI (bK2 rule A D f L q.1 q.2) ≤ nI (bK2 rule A D f L k i) := h116; rw [nI_eq (by omega) (by have := hkb q; omega)] at h107'; rw [nI_leI (by have := hkb q; omega) (by omega)] at h116'; have e := bst_b (rule := rule) hfit hq (Or.inr ⟨h107', by omega⟩); have kx := nx hlt; rw [bsT, e] at kx; rw [nI_1 i]; exact px_forget (by repeat' constructor) (px_mem (bg_s _ k i) kx))
            | (obtain ⟨q, hq⟩ := bg_32s h89; rw [hq] at h98 h107; have h98' : ¬ nI (bK1 rule A D f L k i) < nI (bK1 rule A D f L q.1 q.2) := h98; have h107' : ¬ nI (bK1 rule A D f L k i) = nI (bK1 rule A D f L q.1 q.2) := h107; rw [nI_eq (by omega) (by have := hkb q; omega)] at h107'; rw [nI_ltI (by omega) (by have := hkb q; omega)] at h98'; have e := bst_w (rule := rule) hfit hq (by omega); have kx := nx hlt; rw [bsT, e] at kx; rw [nI_1 i]; exact px_forget (by repeat' constructor) kx)
            | (obtain ⟨q, hq⟩ := bg_32s h89; rw [hq] at h98 h116; have h98' : ¬ nI (bK1 rule A D f L k i) < nI (bK1 rule A D f L q.1 q.2) := h98; have h116' : nI (bK2 rule A D f L q.1 q.2) ≤ nI (bK2 rule A D f L k i) := h116; rw [nI_ltI (by omega) (by have := hkb q; omega)] at h98'; rw [nI_leI (by have := hkb q; omega) (by omega)] at h116'; have e := bst_w (rule := rule) hfit hq (by omega); have kx := nx hlt; rw [bsT, e] at kx; rw [nI_1 i]; exact px_forget (by repeat' constructor) kx)
        · refine px_iload dX11_findsRoom_92 rfl ?_
          refine px_aload_n dX11_findsRoom_94 rfl rfl ?_
          refine px_getI dX11_findsRoom_95 fX11_261 (xol rfl) hM rfl ?_
          refine px_icmp_lt 119 dX11_findsRoom_98 rfl (fun h98 => ?_) (fun h98 => ?_)
          · refine px_aload_n dX11_findsRoom_119 rfl rfl ?_
            refine px_iload_n dX11_findsRoom_120 rfl rfl ?_
            refine px_putI dX11_findsRoom_121 fX11_248 p11_32 (xol rfl) hM rfl ?_
            refine px_aload_n dX11_findsRoom_124 rfl rfl ?_
            refine px_iload dX11_findsRoom_125 rfl ?_
            refine px_putI dX11_findsRoom_127 fX11_267 p11_33 (xol rfl) hM rfl ?_
            refine px_aload_n dX11_findsRoom_130 rfl rfl ?_
            refine px_iload dX11_findsRoom_131 rfl ?_
            refine px_putI dX11_findsRoom_133 fX11_261 p11_34 (xol rfl) hM rfl ?_
            refine px_aload_n dX11_findsRoom_136 rfl rfl ?_
            refine px_iload dX11_findsRoom_137 rfl ?_
            refine px_putI dX11_findsRoom_139 fX11_264 p11_35 (xol rfl) hM rfl ?_
            refine px_inc_4 dX11_findsRoom_142 rfl ic_1 ?_
            refine px_goto 19 dX11_findsRoom_145 rfl ?_
            first
              | (have e : bst rule A D f L (bsT rule A D f L k b0 i) k i = bsT rule A D f L k b0 i := bst_u (fun z => by rw [nI_ltI (by omega) (by have := hX i; omega)] at h42; omega); have kx := nx hlt; rw [bsT, e] at kx; rw [nI_1 i]; exact px_forget (by repeat' constructor) kx)
              | (have e : bst rule A D f L (bsT rule A D f L k b0 i) k i = bsT rule A D f L k b0 i := bst_u (fun z => by rw [nI_ltI (by omega) (by have := hD i; omega)] at h58; omega); have kx := nx hlt; rw [bsT, e] at kx; rw [nI_1 i]; exact px_forget (by repeat' constructor) kx)
              | (have e := bst_n (rule := rule) hfit (bg_32 hbt h89); have kx := nx hlt; rw [bsT, e] at kx; rw [nI_1 i]; exact px_forget (by repeat' constructor) (px_mem (bg_s _ k i) kx))
              | (obtain ⟨q, hq⟩ := bg_32s h89; rw [hq] at h98; have h98' : nI (bK1 rule A D f L k i) < nI (bK1 rule A D f L q.1 q.2) := h98; rw [nI_ltI (by omega) (by have := hkb q; omega)] at h98'; have e := bst_b (rule := rule) hfit hq (Or.inl h98'); have kx := nx hlt; rw [bsT, e] at kx; rw [nI_1 i]; exact px_forget (by repeat' constructor) (px_mem (bg_s _ k i) kx))
              | (obtain ⟨q, hq⟩ := bg_32s h89; rw [hq] at h107 h116; have h107' : nI (bK1 rule A D f L k i) = nI (bK1 rule A D f L q.1 q.2) := h107; have h116' : ¬ nI (bK2 rule A D f L q.1 q.2) ≤ nI (bK2 rule A D f L k i) := h116; rw [nI_eq (by omega) (by have := hkb q; omega)] at h107'; rw [nI_leI (by have := hkb q; omega) (by omega)] at h116'; have e := bst_b (rule := rule) hfit hq (Or.inr ⟨h107', by omega⟩); have kx := nx hlt; rw [bsT, e] at kx; rw [nI_1 i]; exact px_forget (by repeat' constructor) (px_mem (bg_s _ k i) kx))
              | (obtain ⟨q, hq⟩ := bg_32s h89; rw [hq] at h98 h107; have h98' : ¬ nI (bK1 rule A D f L k i) < nI (bK1 rule A D f L q.1 q.2) := h98; have h107' : ¬ nI (bK1 rule A D f L k i) = nI (bK1 rule A D f L q.1 q.2) := h107; rw [nI_eq (by omega) (by have := hkb q; omega)] at h107'; rw [nI_ltI (by omega) (by have := hkb q; omega)] at h98'; have e := bst_w (rule := rule) hfit hq (by omega); have kx := nx hlt; rw [bsT, e] at kx; rw [nI_1 i]; exact px_forget (by repeat' constructor) kx)
              | (obtain ⟨q, hq⟩ := bg_32s h89; rw [hq] at h98 h116; have h98' : ¬ nI (bK1 rule A D f L k i) < nI (bK1 rule A D f L q.1 q.2) := h98; have h116' : nI (bK2 rule A D f L q.1 q.2) ≤ nI (bK2 rule A D f L k i) := h116; rw [nI_ltI (by omega) (by have := hkb q; omega)] at h98'; rw [nI_leI (by have := hkb q; omega) (by omega)] at h116'; have e := bst_w (rule := rule) hfit hq (by omega); have kx := nx hlt; rw [bsT, e] at kx; rw [nI_1 i]; exact px_forget (by repeat' constructor) kx)
          · refine px_iload dX11_findsRoom_101 rfl ?_
            refine px_aload_n dX11_findsRoom_103 rfl rfl ?_
            refine px_getI dX11_findsRoom_104 fX11_261 (xol rfl) hM rfl ?_
            refine px_icmp_ne 142 dX11_findsRoom_107 rfl (fun h107 => ?_) (fun h107 => ?_)
            · refine px_inc_4 dX11_findsRoom_142 rfl ic_1 ?_
              refine px_goto 19 dX11_findsRoom_145 rfl ?_
              first
                | (have e : bst rule A D f L (bsT rule A D f L k b0 i) k i = bsT rule A D f L k b0 i := bst_u (fun z => by rw [nI_ltI (by omega) (by have := hX i; omega)] at h42; omega); have kx := nx hlt; rw [bsT, e] at kx; rw [nI_1 i]; exact px_forget (by repeat' constructor) kx)
                | (have e : bst rule A D f L (bsT rule A D f L k b0 i) k i = bsT rule A D f L k b0 i := bst_u (fun z => by rw [nI_ltI (by omega) (by have := hD i; omega)] at h58; omega); have kx := nx hlt; rw [bsT, e] at kx; rw [nI_1 i]; exact px_forget (by repeat' constructor) kx)
                | (have e := bst_n (rule := rule) hfit (bg_32 hbt h89); have kx := nx hlt; rw [bsT, e] at kx; rw [nI_1 i]; exact px_forget (by repeat' constructor) (px_mem (bg_s _ k i) kx))
                | (obtain ⟨q, hq⟩ := bg_32s h89; rw [hq] at h98; have h98' : nI (bK1 rule A D f L k i) < nI (bK1 rule A D f L q.1 q.2) := h98; rw [nI_ltI (by omega) (by have := hkb q; omega)] at h98'; have e := bst_b (rule := rule) hfit hq (Or.inl h98'); have kx := nx hlt; rw [bsT, e] at kx; rw [nI_1 i]; exact px_forget (by repeat' constructor) (px_mem (bg_s _ k i) kx))
                | (obtain ⟨q, hq⟩ := bg_32s h89; rw [hq] at h107 h116; have h107' : nI (bK1 rule A D f L k i) = nI (bK1 rule A D f L q.1 q.2) := h107; have h116' : ¬ nI (bK2 rule A D f L q.1 q.2) ≤ nI (bK2 rule A D f L k i) := h116; rw [nI_eq (by omega) (by have := hkb q; omega)] at h107'; rw [nI_leI (by have := hkb q; omega) (by omega)] at h116'; have e := bst_b (rule := rule) hfit hq (Or.inr ⟨h107', by omega⟩); have kx := nx hlt; rw [bsT, e] at kx; rw [nI_1 i]; exact px_forget (by repeat' constructor) (px_mem (bg_s _ k i) kx))
                | (obtain ⟨q, hq⟩ := bg_32s h89; rw [hq] at h98 h107; have h98' : ¬ nI (bK1 rule A D f L k i) < nI (bK1 rule A D f L q.1 q.2) := h98; have h107' : ¬ nI (bK1 rule A D f L k i) = nI (bK1 rule A D f L q.1 q.2) := h107; rw [nI_eq (by omega) (by have := hkb q; omega)] at h107'; rw [nI_ltI (by omega) (by have := hkb q; omega)] at h98'; have e := bst_w (rule := rule) hfit hq (by omega); have kx := nx hlt; rw [bsT, e] at kx; rw [nI_1 i]; exact px_forget (by repeat' constructor) kx)
                | (obtain ⟨q, hq⟩ := bg_32s h89; rw [hq] at h98 h116; have h98' : ¬ nI (bK1 rule A D f L k i) < nI (bK1 rule A D f L q.1 q.2) := h98; have h116' : nI (bK2 rule A D f L q.1 q.2) ≤ nI (bK2 rule A D f L k i) := h116; rw [nI_ltI (by omega) (by have := hkb q; omega)] at h98'; rw [nI_leI (by have := hkb q; omega) (by omega)] at h116'; have e := bst_w (rule := rule) hfit hq (by omega); have kx := nx hlt; rw [bsT, e] at kx; rw [nI_1 i]; exact px_forget (by repeat' constructor) kx)
            · refine px_iload dX11_findsRoom_110 rfl ?_
              refine px_aload_n dX11_findsRoom_112 rfl rfl ?_
              refine px_getI dX11_findsRoom_113 fX11_264 (xol rfl) hM rfl ?_
              refine px_icmp_ge 142 dX11_findsRoom_116 rfl (fun h116 => ?_) (fun h116 => ?_)
              · refine px_inc_4 dX11_findsRoom_142 rfl ic_1 ?_
                refine px_goto 19 dX11_findsRoom_145 rfl ?_
                first
                  | (have e : bst rule A D f L (bsT rule A D f L k b0 i) k i = bsT rule A D f L k b0 i := bst_u (fun z => by rw [nI_ltI (by omega) (by have := hX i; omega)] at h42; omega); have kx := nx hlt; rw [bsT, e] at kx; rw [nI_1 i]; exact px_forget (by repeat' constructor) kx)
                  | (have e : bst rule A D f L (bsT rule A D f L k b0 i) k i = bsT rule A D f L k b0 i := bst_u (fun z => by rw [nI_ltI (by omega) (by have := hD i; omega)] at h58; omega); have kx := nx hlt; rw [bsT, e] at kx; rw [nI_1 i]; exact px_forget (by repeat' constructor) kx)
                  | (have e := bst_n (rule := rule) hfit (bg_32 hbt h89); have kx := nx hlt; rw [bsT, e] at kx; rw [nI_1 i]; exact px_forget (by repeat' constructor) (px_mem (bg_s _ k i) kx))
                  | (obtain ⟨q, hq⟩ := bg_32s h89; rw [hq] at h98; have h98' : nI (bK1 rule A D f L k i) < nI (bK1 rule A D f L q.1 q.2) := h98; rw [nI_ltI (by omega) (by have := hkb q; omega)] at h98'; have e := bst_b (rule := rule) hfit hq (Or.inl h98'); have kx := nx hlt; rw [bsT, e] at kx; rw [nI_1 i]; exact px_forget (by repeat' constructor) (px_mem (bg_s _ k i) kx))
                  | (obtain ⟨q, hq⟩ := bg_32s h89; rw [hq] at h107 h116; have h107' : nI (bK1 rule A D f L k i) = nI (bK1 rule A D f L q.1 q.2) := h107; have h116' : ¬ nI (bK2 rule A D f L q.1 q.2) ≤ nI (bK2 rule A D f L k i) := h116; rw [nI_eq (by omega) (by have := hkb q; omega)] at h107'; rw [nI_leI (by have := hkb q; omega) (by omega)] at h116'; have e := bst_b (rule := rule) hfit hq (Or.inr ⟨h107', by omega⟩); have kx := nx hlt; rw [bsT, e] at kx; rw [nI_1 i]; exact px_forget (by repeat' constructor) (px_mem (bg_s _ k i) kx))
                  | (obtain ⟨q, hq⟩ := bg_32s h89; rw [hq] at h98 h107; have h98' : ¬ nI (bK1 rule A D f L k i) < nI (bK1 rule A D f L q.1 q.2) := h98; have h107' : ¬ nI (bK1 rule A D f L k i) = nI (bK1 rule A D f L q.1 q.2) := h107; rw [nI_eq (by omega) (by have := hkb q; omega)] at h107'; rw [nI_ltI (by omega) (by have := hkb q; omega)] at h98'; have e := bst_w (rule := rule) hfit hq (by omega); have kx := nx hlt; rw [bsT, e] at kx; rw [nI_1 i]; exact px_forget (by repeat' constructor) kx)
                  | (obtain ⟨q, hq⟩ := bg_32s h89; rw [hq] at h98 h116; have h98' : ¬ nI (bK1 rule A D f L k i) < nI (bK1 rule A D f L q.1 q.2) := h98; have h116' : nI (bK2 rule A D f L q.1 q.2) ≤ nI (bK2 rule A D f L k i) := h116; rw [nI_ltI (by omega) (by have := hkb q; omega)] at h98'; rw [nI_leI (by have := hkb q; omega) (by omega)] at h116'; have e := bst_w (rule := rule) hfit hq (by omega); have kx := nx hlt; rw [bsT, e] at kx; rw [nI_1 i]; exact px_forget (by repeat' constructor) kx)
              · refine px_aload_n dX11_findsRoom_119 rfl rfl ?_
                refine px_iload_n dX11_findsRoom_120 rfl rfl ?_
                refine px_putI dX11_findsRoom_121 fX11_248 p11_32 (xol rfl) hM rfl ?_
                refine px_aload_n dX11_findsRoom_124 rfl rfl ?_
                refine px_iload dX11_findsRoom_125 rfl ?_
                refine px_putI dX11_findsRoom_127 fX11_267 p11_33 (xol rfl) hM rfl ?_
                refine px_aload_n dX11_findsRoom_130 rfl rfl ?_
                refine px_iload dX11_findsRoom_131 rfl ?_
                refine px_putI dX11_findsRoom_133 fX11_261 p11_34 (xol rfl) hM rfl ?_
                refine px_aload_n dX11_findsRoom_136 rfl rfl ?_
                refine px_iload dX11_findsRoom_137 rfl ?_
                refine px_putI dX11_findsRoom_139 fX11_264 p11_35 (xol rfl) hM rfl ?_
                refine px_inc_4 dX11_findsRoom_142 rfl ic_1 ?_
                refine px_goto 19 dX11_findsRoom_145 rfl ?_
                first
                  | (have e : bst rule A D f L (bsT rule A D f L k b0 i) k i = bsT rule A D f L k b0 i := bst_u (fun z => by rw [nI_ltI (by omega) (by have := hX i; omega)] at h42; omega); have kx := nx hlt; rw [bsT, e] at kx; rw [nI_1 i]; exact px_forget (by repeat' constructor) kx)
                  | (have e : bst rule A D f L (bsT rule A D f L k b0 i) k i = bsT rule A D f L k b0 i := bst_u (fun z => by rw [nI_ltI (by omega) (by have := hD i; omega)] at h58; omega); have kx := nx hlt; rw [bsT, e] at kx; rw [nI_1 i]; exact px_forget (by repeat' constructor) kx)
                  | (have e := bst_n (rule := rule) hfit (bg_32 hbt h89); have kx := nx hlt; rw [bsT, e] at kx; rw [nI_1 i]; exact px_forget (by repeat' constructor) (px_mem (bg_s _ k i) kx))
                  | (obtain ⟨q, hq⟩ := bg_32s h89; rw [hq] at h98; have h98' : nI (bK1 rule A D f L k i) < nI (bK1 rule A D f L q.1 q.2) := h98; rw [nI_ltI (by omega) (by have := hkb q; omega)] at h98'; have e := bst_b (rule := rule) hfit hq (Or.inl h98'); have kx := nx hlt; rw [bsT, e] at kx; rw [nI_1 i]; exact px_forget (by repeat' constructor) (px_mem (bg_s _ k i) kx))
                  | (obtain ⟨q, hq⟩ := bg_32s h89; rw [hq] at h107 h116; have h107' : nI (bK1 rule A D f L k i) = nI (bK1 rule A D f L q.1 q.2) := h107; have h116' : ¬ nI (bK2 rule A D f L q.1 q.2) ≤ nI (bK2 rule A D f L k i) := h116; rw [nI_eq (by omega) (by have := hkb q; omega)] at h107'; rw [nI_leI (by have := hkb q; omega) (by omega)] at h116'; have e := bst_b (rule := rule) hfit hq (Or.inr ⟨h107', by omega⟩); have kx := nx hlt; rw [bsT, e] at kx; rw [nI_1 i]; exact px_forget (by repeat' constructor) (px_mem (bg_s _ k i) kx))
                  | (obtain ⟨q, hq⟩ := bg_32s h89; rw [hq] at h98 h107; have h98' : ¬ nI (bK1 rule A D f L k i) < nI (bK1 rule A D f L q.1 q.2) := h98; have h107' : ¬ nI (bK1 rule A D f L k i) = nI (bK1 rule A D f L q.1 q.2) := h107; rw [nI_eq (by omega) (by have := hkb q; omega)] at h107'; rw [nI_ltI (by omega) (by have := hkb q; omega)] at h98'; have e := bst_w (rule := rule) hfit hq (by omega); have kx := nx hlt; rw [bsT, e] at kx; rw [nI_1 i]; exact px_forget (by repeat' constructor) kx)
                  | (obtain ⟨q, hq⟩ := bg_32s h89; rw [hq] at h98 h116; have h98' : ¬ nI (bK1 rule A D f L k i) < nI (bK1 rule A D f L q.1 q.2) := h98; have h116' : nI (bK2 rule A D f L q.1 q.2) ≤ nI (bK2 rule A D f L k i) := h116; rw [nI_ltI (by omega) (by have := hkb q; omega)] at h98'; rw [nI_leI (by have := hkb q; omega) (by omega)] at h116'; have e := bst_w (rule := rule) hfit hq (by omega); have kx := nx hlt; rw [bsT, e] at kx; rw [nI_1 i]; exact px_forget (by repeat' constructor) kx)

set_option maxRecDepth 100000 in
theorem l_X11_findsRoom {E : xE} {M : xMem} {n W H f T rule : Nat} {A D : Nat → Nat} {L : List gR} (hM : xNT ≤ xN M) (hW : xWire M.2.1) (hs : shM M n W H A D) (hL : frL M L) (hB : ∀ r ∈ L, rB r) (hk4 : L.length ≤ 4096) (hfn : f < n) (hT : T ≤ 2) (hru : rule < 4) (hTt : (if mg M f 0 = 1 then (1 : Int32) else if mg M f 0 = 3 then 1 else 2) = nI T) : PR E mX11_findsRoom (xN M) 8 [some (.ref 74), some (.int (nI f)), some (.int (nI rule)), some (.int (nI 0)), none, none, none] [] (wF M 74 (bg rule A D f L (M.1 74) (bsK rule A D f L T 0))) (fun r m => r = some (.int (zb ((bsK rule A D f L T L.length).isSome = true))) ∧ m = wF M 74 (bg rule A D f L (M.1 74) (bsK rule A D f L T L.length))) := by
  refine px_for (P := fun i => PR E mX11_findsRoom (xN M) 8 [some (.ref 74), some (.int (nI f)), some (.int (nI rule)), some (.int (nI i)), none, none, none] [] (wF M 74 (bg rule A D f L (M.1 74) (bsK rule A D f L T i))) (fun r m => r = some (.int (zb ((bsK rule A D f L T L.length).isSome = true))) ∧ m = wF M 74 (bg rule A D f L (M.1 74) (bsK rule A D f L T L.length)))) (L.length) (fun i hi nx => ?_) (0) (by omega)
  refine px_iload_n dX11_findsRoom_8 rfl rfl ?_
  refine px_aload_n dX11_findsRoom_9 rfl rfl ?_
  refine px_getI dX11_findsRoom_10 fX11_242 (xol rfl) hM rfl ?_
  refine px_top (y := nI L.length) ((bg_o _ (by omega)).trans hL.1) ?_
  refine px_icmp_ge 154 dX11_findsRoom_13 rfl (fun h13 => ?_) (fun h13 => ?_)
  · have hi2 : i = L.length := by rw [nI_leI (by omega) (by omega)] at h13; omega
    subst hi2
    refine px_aload_n dX11_findsRoom_154 rfl rfl ?_
    refine px_getI dX11_findsRoom_155 fX11_248 (xol rfl) hM rfl ?_
    refine px_bipush dX11_findsRoom_158 bp_m9 ?_
    refine px_icmp_eq 167 dX11_findsRoom_160 rfl (fun h160 => ?_) (fun h160 => ?_)
    · refine px_iconst dX11_findsRoom_167 ic_0 ?_
      exact px_zret dX11_findsRoom_168 rfl (by first | rfl | exact zb_nar) (by first | exact ⟨z1 (by obtain ⟨q, hq⟩ := bg_32s h160; rw [hq]; rfl), rfl⟩ | exact ⟨z0 (by rw [bg_32 (fun q hq => by have := (bsK_ok T L.length q hq).1; omega) h160]; decide), rfl⟩) (rfl)
    · refine px_iconst dX11_findsRoom_163 ic_1 ?_
      refine px_goto 168 dX11_findsRoom_164 rfl ?_
      exact px_zret dX11_findsRoom_168 rfl (by first | rfl | exact zb_nar) (by first | exact ⟨z1 (by obtain ⟨q, hq⟩ := bg_32s h160; rw [hq]; rfl), rfl⟩ | exact ⟨z0 (by rw [bg_32 (fun q hq => by have := (bsK_ok T L.length q hq).1; omega) h160]; decide), rfl⟩) (rfl)
  · have hlt : i < L.length := by rw [nI_leI (by omega) (by omega)] at h13; omega
    refine px_iconst dX11_findsRoom_16 ic_0 ?_
    refine px_si_4 dX11_findsRoom_17 rfl ?_
    have hkx : PR E mX11_findsRoom (xN M) 148 [some (.ref 74), some (.int (nI f)), some (.int (nI rule)), some (.int (nI i)), some (.int (nI T)), none, none] [] (wF M 74 (bg rule A D f L (M.1 74) (bsT rule A D f L i (bsK rule A D f L T i) T))) (fun r m => r = some (.int (zb ((bsK rule A D f L T L.length).isSome = true))) ∧ m = wF M 74 (bg rule A D f L (M.1 74) (bsK rule A D f L T L.length))) := by
      refine px_inc_3 dX11_findsRoom_148 rfl ic_1 ?_
      refine px_goto 8 dX11_findsRoom_151 rfl ?_
      rw [nI_1]
      exact px_forget (by repeat' constructor) (nx hlt)
    exact l_fr_in hM hW hs hL hB hk4 hfn hT hru hTt hlt (bsK_ok T i) hkx

set_option maxRecDepth 100000 in
theorem c_X11_findsRoom {E : xE} {M : xMem} {n W H f T rule : Nat} {A D : Nat → Nat} {L : List gR} (hM : xNT ≤ xN M) (hW : xWire M.2.1) (hs : shM M n W H A D) (hL : frL M L) (hB : ∀ r ∈ L, rB r) (hk4 : L.length ≤ 4096) (hfn : f < n) (hT : T ≤ 2) (hru : rule < 4) (hTt : (if mg M f 0 = 1 then (1 : Int32) else if mg M f 0 = 3 then 1 else 2) = nI T) : Cf E mX11_findsRoom [.ref 74, .int (nI f), .int (nI rule)] M (some (.int (zb ((bsK rule A D f L T L.length).isSome = true)))) (wF M 74 (bg rule A D f L (M.1 74) (bsK rule A D f L T L.length))) := by
  refine Ct.of (lo := [some (.ref 74), some (.int (nI f)), some (.int (nI rule)), none, none, none, none]) pln_X11 (Nat.le_of_ble_eq_true rfl) rfl (Nat.le_refl _) ?_
  refine px_aload_n dX11_findsRoom_0 rfl rfl ?_
  refine px_bipush dX11_findsRoom_1 bp_m9 ?_
  refine px_putI dX11_findsRoom_3 fX11_248 p11_32 (xol rfl) hM rfl ?_
  refine px_iconst dX11_findsRoom_6 ic_0 ?_
  refine px_si_3 dX11_findsRoom_7 rfl ?_
  exact px_mem (wI_eq M 74 32 (-9)) (l_X11_findsRoom hM hW hs hL hB hk4 hfn hT hru hTt)
