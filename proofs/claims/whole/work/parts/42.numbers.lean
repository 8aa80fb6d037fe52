/-! ===== the best room for a frame; of both ===== -/
def rB (r : gR) : Prop := r.1 < 16 ∧ r.2.1 < 16 ∧ r.2.2.1 ≤ 16 ∧ r.2.2.2 ≤ 16
def gd (L : List gR) (k : Nat) : gR := L.getD k (0, 0, 0, 0)
theorem gd_at {L : List gR} {k : Nat} (h : k < L.length) : L[k]? = some (gd L k) := by
  unfold gd
  rw [List.getD_eq_getElem?_getD, List.getElem?_eq_getElem h]
  rfl
theorem gd_B {L : List gR} (h : ∀ r ∈ L, rB r) (k : Nat) : rB (gd L k) := by
  by_cases hk : k < L.length
  · exact h _ (List.mem_of_getElem? (gd_at hk))
  · unfold gd
    rw [List.getD_eq_getElem?_getD, List.getElem?_eq_none (by omega)]
    exact ⟨by decide, by decide, by decide, by decide⟩
theorem gIs_B {W H : Nat} {oc : Nat → Nat → Prop} {L : List gR} (hW : W ≤ 16) (hH : H ≤ 16) (h : gIs W H oc L) : ∀ r ∈ L, rB r := fun r hr => by
  have := gMax_b hW hH ((h.2 r).mp hr)
  exact ⟨this.1, this.2.1, this.2.2.1, this.2.2.2.1⟩
theorem rc_dec {r : gR} (h : rB r) : nI (gEnc r) / 32768 = nI r.2.1 ∧ (nI (gEnc r) / 1024 - nI (gEnc r) / 1024 / 32 * 32 = nI r.1) ∧ (nI (gEnc r) / 32 - nI (gEnc r) / 32 / 32 * 32 = nI r.2.2.1) ∧ (nI (gEnc r) - nI (gEnc r) / 32 * 32 = nI r.2.2.2) := by
  obtain ⟨x, y, w, hh⟩ := r
  obtain ⟨h1, h2, h3, h4⟩ := h
  simp only at h1 h2 h3 h4
  have e32 : (32 : Int32) = nI 32 := rfl
  have e1024 : (1024 : Int32) = nI 1024 := rfl
  have e3 : (32768 : Int32) = nI 32768 := rfl
  have hb : gEnc (x, y, w, hh) = ((y * 32 + x) * 32 + w) * 32 + hh := rfl
  rw [hb]
  refine ⟨?_, ?_, ?_, ?_⟩
  · rw [e3, pk_div (by omega) (by decide) (by decide)]; congr 1; show _ = y; omega
  · rw [e32, e1024, pk_div (by omega) (by decide) (by decide), pk_rem (by omega) (by decide) (by decide)]; congr 1; show _ = x; omega
  · rw [e32, pk_div (by omega) (by decide) (by decide), pk_rem (by omega) (by decide) (by decide)]; congr 1; show _ = w; omega
  · rw [e32, pk_rem (by omega) (by decide) (by decide)]; congr 1; show _ = hh; omega
def nMn (a b : Nat) : Nat := if b < a then b else a
def nMx (a b : Nat) : Nat := if a < b then b else a
theorem nMn_le {a b c : Nat} (ha : a ≤ c) (hb : b ≤ c) : nMn a b ≤ c := by unfold nMn; split <;> omega
theorem nMx_le {a b c : Nat} (ha : a ≤ c) (hb : b ≤ c) : nMx a b ≤ c := by unfold nMx; split <;> omega
def nk1 (rule : Nat) (r : gR) (a d : Nat) : Nat := if rule = 1 then r.2.2.1 * r.2.2.2 - a * d else if rule = 2 then r.2.1 + d else if rule = 3 then nMx (r.2.2.1 - a) (r.2.2.2 - d) else nMn (r.2.2.1 - a) (r.2.2.2 - d)
def nk2 (rule : Nat) (r : gR) (a d : Nat) : Nat := if rule = 1 then nMn (r.2.2.1 - a) (r.2.2.2 - d) else if rule = 2 then r.1 else if rule = 3 then nMn (r.2.2.1 - a) (r.2.2.2 - d) else nMx (r.2.2.1 - a) (r.2.2.2 - d)
theorem nk_le {rule : Nat} {r : gR} {a d : Nat} (h : rB r) (hd : d ≤ 22) : nk1 rule r a d ≤ 256 ∧ nk2 rule r a d ≤ 16 := by
  obtain ⟨h1, h2, h3, h4⟩ := h
  have h5 : r.2.2.1 * r.2.2.2 ≤ 16 * 16 := Nat.mul_le_mul h3 h4
  have h6 : nMn (r.2.2.1 - a) (r.2.2.2 - d) ≤ 16 := nMn_le (by omega) (by omega)
  have h7 : nMx (r.2.2.1 - a) (r.2.2.2 - d) ≤ 16 := nMx_le (by omega) (by omega)
  unfold nk1 nk2
  constructor
  · split
    · omega
    · split
      · omega
      · split <;> omega
  · split
    · omega
    · split
      · omega
      · split <;> omega
theorem nI_is {a : Nat} {v : Int32} {b : Nat} (hv : v = nI b) (ha : a < 2 ^ 31) (hb : b < 2 ^ 31) (e : nI a = v) : a = b := by rw [hv, nI_eq ha hb] at e; exact e

theorem rule_13 {rule : Nat} (h : rule < 4) (h1 : ¬ nI rule = 0) (h2 : ¬ nI rule = 2) : rule = 1 ∨ rule = 3 := by
  rcases (show rule = 0 ∨ rule = 1 ∨ rule = 2 ∨ rule = 3 by omega) with rfl | rfl | rfl | rfl
  · exact absurd rfl h1
  · exact Or.inl rfl
  · exact absurd rfl h2
  · exact Or.inr rfl

theorem rule_0 {rule : Nat} (h : rule < 4) (h1 : ¬ nI rule = 1) (h2 : ¬ nI rule = 2) (h3 : ¬ nI rule = 3) : rule = 0 := by
  rcases (show rule = 0 ∨ rule = 1 ∨ rule = 2 ∨ rule = 3 by omega) with rfl | rfl | rfl | rfl
  · rfl
  · exact absurd rfl h1
  · exact absurd rfl h2
  · exact absurd rfl h3
theorem rule_3 {rule : Nat} (h : rule < 4) (h1 : ¬ nI rule = 0) (h2 : ¬ nI rule = 1) (h3 : ¬ nI rule = 2) : rule = 3 := by
  rcases (show rule = 0 ∨ rule = 1 ∨ rule = 2 ∨ rule = 3 by omega) with rfl | rfl | rfl | rfl
  · exact absurd rfl h1
  · exact absurd rfl h2
  · exact absurd rfl h3
  · rfl

set_option maxRecDepth 100000 in
theorem c_X4_numbersOf {E : xE} {M : xMem} {rule a d : Nat} {r : gR} (hr : rB r) (hru : rule < 4) (ha : a ≤ r.2.2.1) (hd : d ≤ r.2.2.2) : Cf E mX4_numbersOf [.int (nI rule), .int (nI (gEnc r)), .int (nI a), .int (nI d)] M (some (.int (nI (nk1 rule r a d * 32 + nk2 rule r a d)))) M := by
  refine Ct.of (lo := [some (.int (nI rule)), some (.int (nI (gEnc r))), some (.int (nI a)), some (.int (nI d)), none, none, none, none, none]) pln_X4 (Nat.le_of_ble_eq_true rfl) rfl (Nat.le_refl _) ?_
  have hdc := rc_dec hr
  obtain ⟨b1, b2, b3, b4⟩ := id hr
  have hpl : r.2.2.1 * r.2.2.2 ≤ 16 * 16 := Nat.mul_le_mul b3 b4
  have hpm : a * d ≤ r.2.2.1 * r.2.2.2 := Nat.mul_le_mul ha hd
  refine px_iload_n dX4_numbersOf_0 rfl rfl ?_
  refine px_fS1i dX4_numbersOf_1 kX4_numbersOf_91 (Nat.le_of_ble_eq_true rfl) (c_X4_acrossOf) ?_
  refine px_top (y := nI r.2.2.1) hdc.2.2.1 ?_
  refine px_iload_n dX4_numbersOf_4 rfl rfl ?_
  refine px_isub dX4_numbersOf_5 ?_
  refine px_top (y := nI (r.2.2.1 - a)) (pk_sub ha) ?_
  refine px_si_4 dX4_numbersOf_6 rfl ?_
  refine px_iload_n dX4_numbersOf_8 rfl rfl ?_
  refine px_fS1i dX4_numbersOf_9 kX4_numbersOf_94 (Nat.le_of_ble_eq_true rfl) (c_X4_downOf) ?_
  refine px_top (y := nI r.2.2.2) hdc.2.2.2 ?_
  refine px_iload_n dX4_numbersOf_12 rfl rfl ?_
  refine px_isub dX4_numbersOf_13 ?_
  refine px_top (y := nI (r.2.2.2 - d)) (pk_sub hd) ?_
  refine px_si_5 dX4_numbersOf_14 rfl ?_
  refine px_iload dX4_numbersOf_16 rfl ?_
  refine px_iload dX4_numbersOf_18 rfl ?_
  refine px_min dX4_numbersOf_20 kX4_numbersOf_31 (Nat.le_of_ble_eq_true rfl) ?_
  refine px_top (y := nI (nMn (r.2.2.1 - a) (r.2.2.2 - d))) (i_minN (by omega) (by omega)) ?_
  refine px_si_6 dX4_numbersOf_23 rfl ?_
  refine px_iload dX4_numbersOf_25 rfl ?_
  refine px_iload dX4_numbersOf_27 rfl ?_
  refine px_max dX4_numbersOf_29 kX4_numbersOf_98 (Nat.le_of_ble_eq_true rfl) ?_
  refine px_top (y := nI (nMx (r.2.2.1 - a) (r.2.2.2 - d))) (i_maxN (by omega) (by omega)) ?_
  refine px_si_7 dX4_numbersOf_32 rfl ?_
  refine px_iload_n dX4_numbersOf_34 rfl rfl ?_
  refine px_fS1i dX4_numbersOf_35 kX4_numbersOf_91 (Nat.le_of_ble_eq_true rfl) (c_X4_acrossOf) ?_
  refine px_top (y := nI r.2.2.1) hdc.2.2.1 ?_
  refine px_iload_n dX4_numbersOf_38 rfl rfl ?_
  refine px_fS1i dX4_numbersOf_39 kX4_numbersOf_94 (Nat.le_of_ble_eq_true rfl) (c_X4_downOf) ?_
  refine px_top (y := nI r.2.2.2) hdc.2.2.2 ?_
  refine px_imul dX4_numbersOf_42 ?_
  refine px_iload_n dX4_numbersOf_43 rfl rfl ?_
  refine px_iload_n dX4_numbersOf_44 rfl rfl ?_
  refine px_imul dX4_numbersOf_45 ?_
  refine px_isub dX4_numbersOf_46 ?_
  refine px_top (y := nI (r.2.2.1 * r.2.2.2 - a * d)) (by rw [pk_mul, pk_mul, pk_sub hpm]) ?_
  refine px_si_8 dX4_numbersOf_47 rfl ?_
  refine px_iload_n dX4_numbersOf_49 rfl rfl ?_
  by_cases s50_1 : nI rule = 1
  · refine px_tableIn (off := 26) 76 dX4_numbersOf_50 (by rw [s50_1]; decide) (by rw [s50_1]; decide) (by rw [s50_1]; rfl) rfl ?_
    refine px_iload dX4_numbersOf_76 rfl ?_
    refine px_bipush dX4_numbersOf_78 bp_32 ?_
    refine px_imul dX4_numbersOf_80 ?_
    refine px_iload dX4_numbersOf_81 rfl ?_
    refine px_iadd dX4_numbersOf_83 ?_
    exact px_iret dX4_numbersOf_84 rfl ⟨by have hrr := nI_is (show (1 : Int32) = nI 1 from rfl) (by omega) (by decide) s50_1; subst hrr; rw [show (32 : Int32) = nI 32 from rfl, pk_mul, nI_add]; rfl, rfl⟩ (rfl)
  by_cases s50_2 : nI rule = 2
  · refine px_tableIn (off := 35) 85 dX4_numbersOf_50 (by rw [s50_2]; decide) (by rw [s50_2]; decide) (by rw [s50_2]; rfl) rfl ?_
    refine px_iload_n dX4_numbersOf_85 rfl rfl ?_
    refine px_fS1i dX4_numbersOf_86 kX4_numbersOf_90 (Nat.le_of_ble_eq_true rfl) (c_X4_yOf) ?_
    refine px_top (y := nI r.2.1) hdc.1 ?_
    refine px_iload_n dX4_numbersOf_89 rfl rfl ?_
    refine px_iadd dX4_numbersOf_90 ?_
    refine px_bipush dX4_numbersOf_91 bp_32 ?_
    refine px_imul dX4_numbersOf_93 ?_
    refine px_iload_n dX4_numbersOf_94 rfl rfl ?_
    refine px_fS1i dX4_numbersOf_95 kX4_numbersOf_89 (Nat.le_of_ble_eq_true rfl) (c_X4_xOf) ?_
    refine px_top (y := nI r.1) hdc.2.1 ?_
    refine px_iadd dX4_numbersOf_98 ?_
    exact px_iret dX4_numbersOf_99 rfl ⟨by have hrr := nI_is (show (2 : Int32) = nI 2 from rfl) (by omega) (by decide) s50_2; subst hrr; rw [show (32 : Int32) = nI 32 from rfl, nI_add, pk_mul, nI_add]; rfl, rfl⟩ (rfl)
  by_cases s50_3 : nI rule = 3
  · refine px_tableIn (off := 50) 100 dX4_numbersOf_50 (by rw [s50_3]; decide) (by rw [s50_3]; decide) (by rw [s50_3]; rfl) rfl ?_
    refine px_iload dX4_numbersOf_100 rfl ?_
    refine px_bipush dX4_numbersOf_102 bp_32 ?_
    refine px_imul dX4_numbersOf_104 ?_
    refine px_iload dX4_numbersOf_105 rfl ?_
    refine px_iadd dX4_numbersOf_107 ?_
    exact px_iret dX4_numbersOf_108 rfl ⟨by have hrr := nI_is (show (3 : Int32) = nI 3 from rfl) (by omega) (by decide) s50_3; subst hrr; rw [show (32 : Int32) = nI 32 from rfl, pk_mul, nI_add]; rfl, rfl⟩ (rfl)
  refine px_tableOut 109 dX4_numbersOf_50 (by simp only [← Int32.toInt_inj, Int32.reduceToInt] at *; omega) rfl ?_
  refine px_iload dX4_numbersOf_109 rfl ?_
  refine px_bipush dX4_numbersOf_111 bp_32 ?_
  refine px_imul dX4_numbersOf_113 ?_
  refine px_iload dX4_numbersOf_114 rfl ?_
  refine px_iadd dX4_numbersOf_116 ?_
  exact px_iret dX4_numbersOf_117 rfl ⟨by have hrr : rule = 0 := rule_0 hru s50_1 s50_2 s50_3; subst hrr; rw [show (32 : Int32) = nI 32 from rfl, pk_mul, nI_add]; rfl, rfl⟩ (rfl)

theorem nMn_a {a b : Nat} (ha : a < 2 ^ 31) (hb : b < 2 ^ 31) (h : ¬ nI b ≤ nI a) : nMn a b = a := by rw [nI_leI hb ha] at h; unfold nMn; rw [if_neg (by omega)]
theorem nMn_b {a b : Nat} (ha : a < 2 ^ 31) (hb : b < 2 ^ 31) (h : nI b ≤ nI a) : nMn a b = b := by rw [nI_leI hb ha] at h; unfold nMn; split <;> omega
theorem nMx_a {a b : Nat} (ha : a < 2 ^ 31) (hb : b < 2 ^ 31) (h : ¬ nI a ≤ nI b) : nMx a b = a := by rw [nI_leI ha hb] at h; unfold nMx; rw [if_neg (by omega)]
theorem nMx_b {a b : Nat} (ha : a < 2 ^ 31) (hb : b < 2 ^ 31) (h : nI a ≤ nI b) : nMx a b = b := by rw [nI_leI ha hb] at h; unfold nMx; split <;> omega

set_option maxRecDepth 100000 in
theorem c_X11_first {E : xE} {M : xMem} {n W H k f t rule : Nat} {A D : Nat → Nat} {L : List gR} (hM : xNT ≤ xN M) (hW : xWire M.2.1) (hs : shM M n W H A D) (hL : frL M L) (hk : k < L.length) (hk4 : L.length ≤ 4096) (hf : f < n) (ht : t < 2) (hr : rB (gd L k)) (hru : rule < 4) (ha : gNX A D f t ≤ (gd L k).2.2.1) (hd : gNY A D f t ≤ (gd L k).2.2.2) : Cf E mX11_first [.ref 74, .int (nI rule), .int (nI k), .int (nI f), .int (nI t)] M (some (.int (nI (nk1 rule (gd L k) (gNX A D f t) (gNY A D f t))))) M := by
  refine Ct.of (lo := [some (.ref 74), some (.int (nI rule)), some (.int (nI k)), some (.int (nI f)), some (.int (nI t)), none, none]) pln_X11 (Nat.le_of_ble_eq_true rfl) rfl (Nat.le_refl _) ?_
  have hdc := hL.2 k _ (gd_at hk)
  have hN := mNX_t hs hf ht
  have h8 : f < 8 := by have := hs.2.2.2.1; omega
  have hki : vp_in (nI k) 4096 := vp_in_nI (by omega) (by decide)
  have hnk : (nI k).toNatClampNeg = k := nI_clamp (by omega)
  obtain ⟨b1, b2, b3, b4⟩ := id hr
  have hpl : (gd L k).2.2.1 * (gd L k).2.2.2 ≤ 16 * 16 := Nat.mul_le_mul b3 b4
  have hpm : gNX A D f t * gNY A D f t ≤ (gd L k).2.2.1 * (gd L k).2.2.2 := Nat.mul_le_mul ha hd
  refine px_aload_n dX11_first_0 rfl rfl ?_
  refine px_getR dX11_first_1 fX11_50 (xol rfl) hM rfl (wr_11_30 hW (xol rfl)) (Nat.succ_pos _) ?_
  refine px_iload_n dX11_first_4 rfl rfl ?_
  refine px_iald dX11_first_5 (xal (n := 4096) rfl) hM hki ?_
  refine px_top (y := nI (gd L k).2.2.1) (by rw [hnk]; exact hdc.2.2.1) ?_
  refine px_aload_n dX11_first_6 rfl rfl ?_
  refine px_iload_n dX11_first_7 rfl rfl ?_
  refine px_iload dX11_first_8 rfl ?_
  refine px_fV2i dX11_first_10 kX11_first_220 (xol rfl) hM (Nat.le_of_ble_eq_true rfl) (c_X11_needX h8 hM hW) ?_
  refine px_top (y := nI (gNX A D f t)) hN.1 ?_
  refine px_isub dX11_first_13 ?_
  refine px_top (y := nI ((gd L k).2.2.1 - gNX A D f t)) (pk_sub ha) ?_
  refine px_si_5 dX11_first_14 rfl ?_
  refine px_aload_n dX11_first_16 rfl rfl ?_
  refine px_getR dX11_first_17 fX11_53 (xol rfl) hM rfl (wr_11_31 hW (xol rfl)) (Nat.succ_pos _) ?_
  refine px_iload_n dX11_first_20 rfl rfl ?_
  refine px_iald dX11_first_21 (xal (n := 4096) rfl) hM hki ?_
  refine px_top (y := nI (gd L k).2.2.2) (by rw [hnk]; exact hdc.2.2.2) ?_
  refine px_aload_n dX11_first_22 rfl rfl ?_
  refine px_iload_n dX11_first_23 rfl rfl ?_
  refine px_iload dX11_first_24 rfl ?_
  refine px_fV2i dX11_first_26 kX11_first_229 (xol rfl) hM (Nat.le_of_ble_eq_true rfl) (c_X11_needY h8 hM hW) ?_
  refine px_top (y := nI (gNY A D f t)) hN.2 ?_
  refine px_isub dX11_first_29 ?_
  refine px_top (y := nI ((gd L k).2.2.2 - gNY A D f t)) (pk_sub hd) ?_
  refine px_si_6 dX11_first_30 rfl ?_
  refine px_iload_n dX11_first_32 rfl rfl ?_
  by_cases s33_0 : nI rule = 0
  · refine px_tableIn (off := 27) 60 dX11_first_33 (by rw [s33_0]; decide) (by rw [s33_0]; decide) (by rw [s33_0]; rfl) rfl ?_
    have hrr := nI_is (show (0 : Int32) = nI 0 from rfl) (by omega) (by decide) s33_0
    refine px_iload dX11_first_60 rfl ?_
    refine px_iload dX11_first_62 rfl ?_
    refine px_icmp_ge 72 dX11_first_64 rfl (fun h64 => ?_) (fun h64 => ?_)
    · refine px_iload dX11_first_72 rfl ?_
      exact px_iret dX11_first_74 rfl (by first | exact ⟨by subst hrr; show _ = some (Value.int (nI (nMn ((gd L k).2.2.1 - gNX A D f t) ((gd L k).2.2.2 - gNY A D f t)))); rw [nMn_b (by omega) (by omega) h64], rfl⟩ | exact ⟨by subst hrr; show _ = some (Value.int (nI (nMn ((gd L k).2.2.1 - gNX A D f t) ((gd L k).2.2.2 - gNY A D f t)))); rw [nMn_a (by omega) (by omega) h64], rfl⟩) (rfl)
    · refine px_iload dX11_first_67 rfl ?_
      refine px_goto 74 dX11_first_69 rfl ?_
      exact px_iret dX11_first_74 rfl (by first | exact ⟨by subst hrr; show _ = some (Value.int (nI (nMn ((gd L k).2.2.1 - gNX A D f t) ((gd L k).2.2.2 - gNY A D f t)))); rw [nMn_b (by omega) (by omega) h64], rfl⟩ | exact ⟨by subst hrr; show _ = some (Value.int (nI (nMn ((gd L k).2.2.1 - gNX A D f t) ((gd L k).2.2.2 - gNY A D f t)))); rw [nMn_a (by omega) (by omega) h64], rfl⟩) (rfl)
  by_cases s33_1 : nI rule = 1
  · refine px_tableIn (off := 42) 75 dX11_first_33 (by rw [s33_1]; decide) (by rw [s33_1]; decide) (by rw [s33_1]; rfl) rfl ?_
    have hrr := nI_is (show (1 : Int32) = nI 1 from rfl) (by omega) (by decide) s33_1
    refine px_aload_n dX11_first_75 rfl rfl ?_
    refine px_getR dX11_first_76 fX11_50 (xol rfl) hM rfl (wr_11_30 hW (xol rfl)) (Nat.succ_pos _) ?_
    refine px_iload_n dX11_first_79 rfl rfl ?_
    refine px_iald dX11_first_80 (xal (n := 4096) rfl) hM hki ?_
    refine px_top (y := nI (gd L k).2.2.1) (by rw [hnk]; exact hdc.2.2.1) ?_
    refine px_aload_n dX11_first_81 rfl rfl ?_
    refine px_getR dX11_first_82 fX11_53 (xol rfl) hM rfl (wr_11_31 hW (xol rfl)) (Nat.succ_pos _) ?_
    refine px_iload_n dX11_first_85 rfl rfl ?_
    refine px_iald dX11_first_86 (xal (n := 4096) rfl) hM hki ?_
    refine px_top (y := nI (gd L k).2.2.2) (by rw [hnk]; exact hdc.2.2.2) ?_
    refine px_imul dX11_first_87 ?_
    refine px_aload_n dX11_first_88 rfl rfl ?_
    refine px_iload_n dX11_first_89 rfl rfl ?_
    refine px_iload dX11_first_90 rfl ?_
    refine px_fV2i dX11_first_92 kX11_first_220 (xol rfl) hM (Nat.le_of_ble_eq_true rfl) (c_X11_needX h8 hM hW) ?_
    refine px_top (y := nI (gNX A D f t)) hN.1 ?_
    refine px_aload_n dX11_first_95 rfl rfl ?_
    refine px_iload_n dX11_first_96 rfl rfl ?_
    refine px_iload dX11_first_97 rfl ?_
    refine px_fV2i dX11_first_99 kX11_first_229 (xol rfl) hM (Nat.le_of_ble_eq_true rfl) (c_X11_needY h8 hM hW) ?_
    refine px_top (y := nI (gNY A D f t)) hN.2 ?_
    refine px_imul dX11_first_102 ?_
    refine px_isub dX11_first_103 ?_
    exact px_iret dX11_first_104 rfl ⟨by subst hrr; rw [pk_mul, pk_mul, pk_sub hpm]; rfl, rfl⟩ (rfl)
  by_cases s33_2 : nI rule = 2
  · refine px_tableIn (off := 72) 105 dX11_first_33 (by rw [s33_2]; decide) (by rw [s33_2]; decide) (by rw [s33_2]; rfl) rfl ?_
    have hrr := nI_is (show (2 : Int32) = nI 2 from rfl) (by omega) (by decide) s33_2
    refine px_aload_n dX11_first_105 rfl rfl ?_
    refine px_getR dX11_first_106 fX11_47 (xol rfl) hM rfl (wr_11_29 hW (xol rfl)) (Nat.succ_pos _) ?_
    refine px_iload_n dX11_first_109 rfl rfl ?_
    refine px_iald dX11_first_110 (xal (n := 4096) rfl) hM hki ?_
    refine px_top (y := nI (gd L k).2.1) (by rw [hnk]; exact hdc.2.1) ?_
    refine px_aload_n dX11_first_111 rfl rfl ?_
    refine px_iload_n dX11_first_112 rfl rfl ?_
    refine px_iload dX11_first_113 rfl ?_
    refine px_fV2i dX11_first_115 kX11_first_229 (xol rfl) hM (Nat.le_of_ble_eq_true rfl) (c_X11_needY h8 hM hW) ?_
    refine px_top (y := nI (gNY A D f t)) hN.2 ?_
    refine px_iadd dX11_first_118 ?_
    exact px_iret dX11_first_119 rfl ⟨by subst hrr; rw [nI_add]; rfl, rfl⟩ (rfl)
  refine px_tableOut 120 dX11_first_33 (by simp only [← Int32.toInt_inj, Int32.reduceToInt] at *; omega) rfl ?_
  have hrr : rule = 3 := rule_3 hru s33_0 s33_1 s33_2
  refine px_iload dX11_first_120 rfl ?_
  refine px_iload dX11_first_122 rfl ?_
  refine px_icmp_le 132 dX11_first_124 rfl (fun h124 => ?_) (fun h124 => ?_)
  · refine px_iload dX11_first_132 rfl ?_
    exact px_iret dX11_first_134 rfl (by first | exact ⟨by subst hrr; show _ = some (Value.int (nI (nMx ((gd L k).2.2.1 - gNX A D f t) ((gd L k).2.2.2 - gNY A D f t)))); rw [nMx_b (by omega) (by omega) h124], rfl⟩ | exact ⟨by subst hrr; show _ = some (Value.int (nI (nMx ((gd L k).2.2.1 - gNX A D f t) ((gd L k).2.2.2 - gNY A D f t)))); rw [nMx_a (by omega) (by omega) h124], rfl⟩) (rfl)
  · refine px_iload dX11_first_127 rfl ?_
    refine px_goto 134 dX11_first_129 rfl ?_
    exact px_iret dX11_first_134 rfl (by first | exact ⟨by subst hrr; show _ = some (Value.int (nI (nMx ((gd L k).2.2.1 - gNX A D f t) ((gd L k).2.2.2 - gNY A D f t)))); rw [nMx_b (by omega) (by omega) h124], rfl⟩ | exact ⟨by subst hrr; show _ = some (Value.int (nI (nMx ((gd L k).2.2.1 - gNX A D f t) ((gd L k).2.2.2 - gNY A D f t)))); rw [nMx_a (by omega) (by omega) h124], rfl⟩) (rfl)

set_option maxRecDepth 100000 in
theorem c_X11_second {E : xE} {M : xMem} {n W H k f t rule : Nat} {A D : Nat → Nat} {L : List gR} (hM : xNT ≤ xN M) (hW : xWire M.2.1) (hs : shM M n W H A D) (hL : frL M L) (hk : k < L.length) (hk4 : L.length ≤ 4096) (hf : f < n) (ht : t < 2) (hr : rB (gd L k)) (hru : rule < 4) (ha : gNX A D f t ≤ (gd L k).2.2.1) (hd : gNY A D f t ≤ (gd L k).2.2.2) : Cf E mX11_second [.ref 74, .int (nI rule), .int (nI k), .int (nI f), .int (nI t)] M (some (.int (nI (nk2 rule (gd L k) (gNX A D f t) (gNY A D f t))))) M := by
  refine Ct.of (lo := [some (.ref 74), some (.int (nI rule)), some (.int (nI k)), some (.int (nI f)), some (.int (nI t)), none, none]) pln_X11 (Nat.le_of_ble_eq_true rfl) rfl (Nat.le_refl _) ?_
  have hdc := hL.2 k _ (gd_at hk)
  have hN := mNX_t hs hf ht
  have h8 : f < 8 := by have := hs.2.2.2.1; omega
  have hki : vp_in (nI k) 4096 := vp_in_nI (by omega) (by decide)
  have hnk : (nI k).toNatClampNeg = k := nI_clamp (by omega)
  obtain ⟨b1, b2, b3, b4⟩ := id hr
  have hpl : (gd L k).2.2.1 * (gd L k).2.2.2 ≤ 16 * 16 := Nat.mul_le_mul b3 b4
  have hpm : gNX A D f t * gNY A D f t ≤ (gd L k).2.2.1 * (gd L k).2.2.2 := Nat.mul_le_mul ha hd
  refine px_aload_n dX11_second_0 rfl rfl ?_
  refine px_getR dX11_second_1 fX11_50 (xol rfl) hM rfl (wr_11_30 hW (xol rfl)) (Nat.succ_pos _) ?_
  refine px_iload_n dX11_second_4 rfl rfl ?_
  refine px_iald dX11_second_5 (xal (n := 4096) rfl) hM hki ?_
  refine px_top (y := nI (gd L k).2.2.1) (by rw [hnk]; exact hdc.2.2.1) ?_
  refine px_aload_n dX11_second_6 rfl rfl ?_
  refine px_iload_n dX11_second_7 rfl rfl ?_
  refine px_iload dX11_second_8 rfl ?_
  refine px_fV2i dX11_second_10 kX11_second_220 (xol rfl) hM (Nat.le_of_ble_eq_true rfl) (c_X11_needX h8 hM hW) ?_
  refine px_top (y := nI (gNX A D f t)) hN.1 ?_
  refine px_isub dX11_second_13 ?_
  refine px_top (y := nI ((gd L k).2.2.1 - gNX A D f t)) (pk_sub ha) ?_
  refine px_si_5 dX11_second_14 rfl ?_
  refine px_aload_n dX11_second_16 rfl rfl ?_
  refine px_getR dX11_second_17 fX11_53 (xol rfl) hM rfl (wr_11_31 hW (xol rfl)) (Nat.succ_pos _) ?_
  refine px_iload_n dX11_second_20 rfl rfl ?_
  refine px_iald dX11_second_21 (xal (n := 4096) rfl) hM hki ?_
  refine px_top (y := nI (gd L k).2.2.2) (by rw [hnk]; exact hdc.2.2.2) ?_
  refine px_aload_n dX11_second_22 rfl rfl ?_
  refine px_iload_n dX11_second_23 rfl rfl ?_
  refine px_iload dX11_second_24 rfl ?_
  refine px_fV2i dX11_second_26 kX11_second_229 (xol rfl) hM (Nat.le_of_ble_eq_true rfl) (c_X11_needY h8 hM hW) ?_
  refine px_top (y := nI (gNY A D f t)) hN.2 ?_
  refine px_isub dX11_second_29 ?_
  refine px_top (y := nI ((gd L k).2.2.2 - gNY A D f t)) (pk_sub hd) ?_
  refine px_si_6 dX11_second_30 rfl ?_
  refine px_iload_n dX11_second_32 rfl rfl ?_
  refine px_if_ne 53 dX11_second_33 rfl (fun h33 => ?_) (fun h33 => ?_)
  · refine px_iload_n dX11_second_53 rfl rfl ?_
    refine px_iconst dX11_second_54 ic_2 ?_
    refine px_icmp_ne 67 dX11_second_55 rfl (fun h55 => ?_) (fun h55 => ?_)
    · refine px_iload dX11_second_67 rfl ?_
      refine px_iload dX11_second_69 rfl ?_
      refine px_icmp_ge 79 dX11_second_71 rfl (fun h71 => ?_) (fun h71 => ?_)
      · refine px_iload dX11_second_79 rfl ?_
        exact px_iret dX11_second_81 rfl (by first
              | exact ⟨by subst hrr; show _ = some (Value.int (nI (nMx ((gd L k).2.2.1 - gNX A D f t) ((gd L k).2.2.2 - gNY A D f t)))); rw [nMx_b (by omega) (by omega) h40], rfl⟩
              | exact ⟨by subst hrr; show _ = some (Value.int (nI (nMx ((gd L k).2.2.1 - gNX A D f t) ((gd L k).2.2.2 - gNY A D f t)))); rw [nMx_a (by omega) (by omega) h40], rfl⟩
              | exact ⟨by subst hrr; rfl, rfl⟩
              | (have e := nMn_b (a := (gd L k).2.2.1 - gNX A D f t) (b := (gd L k).2.2.2 - gNY A D f t) (by omega) (by omega) h71; refine ⟨?_, rfl⟩; rcases rule_13 hru h33 h55 with hrr | hrr <;> (subst hrr; show _ = some (Value.int (nI (nMn _ _))); rw [e]))
              | (have e := nMn_a (a := (gd L k).2.2.1 - gNX A D f t) (b := (gd L k).2.2.2 - gNY A D f t) (by omega) (by omega) h71; refine ⟨?_, rfl⟩; rcases rule_13 hru h33 h55 with hrr | hrr <;> (subst hrr; show _ = some (Value.int (nI (nMn _ _))); rw [e]))) (rfl)
      · refine px_iload dX11_second_74 rfl ?_
        refine px_goto 81 dX11_second_76 rfl ?_
        exact px_iret dX11_second_81 rfl (by first
              | exact ⟨by subst hrr; show _ = some (Value.int (nI (nMx ((gd L k).2.2.1 - gNX A D f t) ((gd L k).2.2.2 - gNY A D f t)))); rw [nMx_b (by omega) (by omega) h40], rfl⟩
              | exact ⟨by subst hrr; show _ = some (Value.int (nI (nMx ((gd L k).2.2.1 - gNX A D f t) ((gd L k).2.2.2 - gNY A D f t)))); rw [nMx_a (by omega) (by omega) h40], rfl⟩
              | exact ⟨by subst hrr; rfl, rfl⟩
              | (have e := nMn_b (a := (gd L k).2.2.1 - gNX A D f t) (b := (gd L k).2.2.2 - gNY A D f t) (by omega) (by omega) h71; refine ⟨?_, rfl⟩; rcases rule_13 hru h33 h55 with hrr | hrr <;> (subst hrr; show _ = some (Value.int (nI (nMn _ _))); rw [e]))
              | (have e := nMn_a (a := (gd L k).2.2.1 - gNX A D f t) (b := (gd L k).2.2.2 - gNY A D f t) (by omega) (by omega) h71; refine ⟨?_, rfl⟩; rcases rule_13 hru h33 h55 with hrr | hrr <;> (subst hrr; show _ = some (Value.int (nI (nMn _ _))); rw [e]))) (rfl)
    · have hrr := nI_is (show (2 : Int32) = nI 2 from rfl) (by omega) (by decide) h55
      refine px_aload_n dX11_second_58 rfl rfl ?_
      refine px_getR dX11_second_59 fX11_44 (xol rfl) hM rfl (wr_11_28 hW (xol rfl)) (Nat.succ_pos _) ?_
      refine px_iload_n dX11_second_62 rfl rfl ?_
      refine px_iald dX11_second_63 (xal (n := 4096) rfl) hM hki ?_
      refine px_top (y := nI (gd L k).1) (by rw [hnk]; exact hdc.1) ?_
      refine px_goto 81 dX11_second_64 rfl ?_
      exact px_iret dX11_second_81 rfl (by first
            | exact ⟨by subst hrr; show _ = some (Value.int (nI (nMx ((gd L k).2.2.1 - gNX A D f t) ((gd L k).2.2.2 - gNY A D f t)))); rw [nMx_b (by omega) (by omega) h40], rfl⟩
            | exact ⟨by subst hrr; show _ = some (Value.int (nI (nMx ((gd L k).2.2.1 - gNX A D f t) ((gd L k).2.2.2 - gNY A D f t)))); rw [nMx_a (by omega) (by omega) h40], rfl⟩
            | exact ⟨by subst hrr; rfl, rfl⟩
            | (have e := nMn_b (a := (gd L k).2.2.1 - gNX A D f t) (b := (gd L k).2.2.2 - gNY A D f t) (by omega) (by omega) h71; refine ⟨?_, rfl⟩; rcases rule_13 hru h33 h55 with hrr | hrr <;> (subst hrr; show _ = some (Value.int (nI (nMn _ _))); rw [e]))
            | (have e := nMn_a (a := (gd L k).2.2.1 - gNX A D f t) (b := (gd L k).2.2.2 - gNY A D f t) (by omega) (by omega) h71; refine ⟨?_, rfl⟩; rcases rule_13 hru h33 h55 with hrr | hrr <;> (subst hrr; show _ = some (Value.int (nI (nMn _ _))); rw [e]))) (rfl)
  · have hrr := nI_is (show (0 : Int32) = nI 0 from rfl) (by omega) (by decide) h33
    refine px_iload dX11_second_36 rfl ?_
    refine px_iload dX11_second_38 rfl ?_
    refine px_icmp_le 48 dX11_second_40 rfl (fun h40 => ?_) (fun h40 => ?_)
    · refine px_iload dX11_second_48 rfl ?_
      refine px_goto 81 dX11_second_50 rfl ?_
      exact px_iret dX11_second_81 rfl (by first
            | exact ⟨by subst hrr; show _ = some (Value.int (nI (nMx ((gd L k).2.2.1 - gNX A D f t) ((gd L k).2.2.2 - gNY A D f t)))); rw [nMx_b (by omega) (by omega) h40], rfl⟩
            | exact ⟨by subst hrr; show _ = some (Value.int (nI (nMx ((gd L k).2.2.1 - gNX A D f t) ((gd L k).2.2.2 - gNY A D f t)))); rw [nMx_a (by omega) (by omega) h40], rfl⟩
            | exact ⟨by subst hrr; rfl, rfl⟩
            | (have e := nMn_b (a := (gd L k).2.2.1 - gNX A D f t) (b := (gd L k).2.2.2 - gNY A D f t) (by omega) (by omega) h71; refine ⟨?_, rfl⟩; rcases rule_13 hru h33 h55 with hrr | hrr <;> (subst hrr; show _ = some (Value.int (nI (nMn _ _))); rw [e]))
            | (have e := nMn_a (a := (gd L k).2.2.1 - gNX A D f t) (b := (gd L k).2.2.2 - gNY A D f t) (by omega) (by omega) h71; refine ⟨?_, rfl⟩; rcases rule_13 hru h33 h55 with hrr | hrr <;> (subst hrr; show _ = some (Value.int (nI (nMn _ _))); rw [e]))) (rfl)
    · refine px_iload dX11_second_43 rfl ?_
      refine px_goto 81 dX11_second_45 rfl ?_
      exact px_iret dX11_second_81 rfl (by first
            | exact ⟨by subst hrr; show _ = some (Value.int (nI (nMx ((gd L k).2.2.1 - gNX A D f t) ((gd L k).2.2.2 - gNY A D f t)))); rw [nMx_b (by omega) (by omega) h40], rfl⟩
            | exact ⟨by subst hrr; show _ = some (Value.int (nI (nMx ((gd L k).2.2.1 - gNX A D f t) ((gd L k).2.2.2 - gNY A D f t)))); rw [nMx_a (by omega) (by omega) h40], rfl⟩
            | exact ⟨by subst hrr; rfl, rfl⟩
            | (have e := nMn_b (a := (gd L k).2.2.1 - gNX A D f t) (b := (gd L k).2.2.2 - gNY A D f t) (by omega) (by omega) h71; refine ⟨?_, rfl⟩; rcases rule_13 hru h33 h55 with hrr | hrr <;> (subst hrr; show _ = some (Value.int (nI (nMn _ _))); rw [e]))
            | (have e := nMn_a (a := (gd L k).2.2.1 - gNX A D f t) (b := (gd L k).2.2.2 - gNY A D f t) (by omega) (by omega) h71; refine ⟨?_, rfl⟩; rcases rule_13 hru h33 h55 with hrr | hrr <;> (subst hrr; show _ = some (Value.int (nI (nMn _ _))); rw [e]))) (rfl)
