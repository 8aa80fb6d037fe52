/-! ===== the constructor of the reference, and the start ===== -/
def mFJ : List Nat := [2, 3, 4, 5, 6, 7, 12, 22, 23, 25, 26, 28, 29, 30, 31, 37, 38, 39, 40]
/-- the references of the reference's object when k of its arrays are made -/
def mTb : Nat → Nat → Nat
  | 0 => fun _ => 0
  | k + 1 => fun j => if j = mFJ.getD k 0 then 75 + k else mTb k j
def mB (M : xMem) (k : Nat) (m : xMem) : Prop := xN m = 74 + k ∧ bel 74 M m ∧ (∀ b, 74 ≤ b → b ≤ 74 + k → ∀ i, m.1 b i = 0) ∧ ∀ j, m.2.1 74 j = mTb k j
theorem mB_0 {M : xMem} (ha : xN M = 74) (h1 : ∀ i, M.1 74 i = 0) (h2 : ∀ i, M.2.1 74 i = 0) : mB M 0 M := ⟨ha, bel_rf _ _, fun b b1 b2 i => by rw [show b = 74 by omega]; exact h1 i, h2⟩
theorem mB_s {M m : xMem} {k : Nat} (h : mB M k m) : mB M (k + 1) (wR (wN m) 74 (mFJ.getD k 0) (75 + k)) := by
  obtain ⟨hn, hb, hz, hr⟩ := h
  refine ⟨by rw [xN_wR, xN_wN, hn]; omega, bel_wR (bel_wN hb (by omega)) (by omega), fun b b1 b2 i => ?_, fun j => ?_⟩
  · rw [xI_wR]
    by_cases e : b = 74 + (k + 1)
    · rw [e, show 74 + (k + 1) = xN m + 1 by omega]; exact (wN_cell m i).1
    · rw [wN_1 (by omega)]; exact hz b b1 (by omega) i
  · rw [xR_wR]
    show _ = if j = mFJ.getD k 0 then 75 + k else mTb k j
    by_cases e : j = mFJ.getD k 0
    · rw [if_pos ⟨rfl, e⟩, if_pos e]
    · rw [if_neg (fun z => e z.2), if_neg e, wN_2 (by omega)]; exact hr j
theorem mTb_j : ∀ j, j < 45 → mTb 19 j = [0, 0, 75, 76, 77, 78, 79, 80, 0, 0, 0, 0, 81, 0, 0, 0, 0, 0, 0, 0, 0, 0, 82, 83, 0, 84, 85, 0, 86, 87, 88, 89, 0, 0, 0, 0, 0, 90, 91, 92, 93, 0, 0, 0, 0].getD j 0 := by decide
def mC (M m : xMem) : Prop := xN m = 93 ∧ bel 74 M m ∧ (∀ j, j < 45 → m.2.1 74 j = mTb 19 j) ∧ (∀ i, m.1 74 i = 0) ∧ (∀ i, m.1 75 i = 0) ∧ m.1 83 32 = 0
theorem mC_w {M m : xMem} {a j : Nat} {v : Int32} (h : mC M m) (ha : a = 76 ∨ a = 79 ∨ a = 91) : mC M (wI m a j v) := by
  obtain ⟨h1, h2, h3, h4, h5, h6⟩ := h
  refine ⟨h1, bel_wI h2 (by omega), h3, fun i => ?_, fun i => ?_, ?_⟩
  · rw [xI_wI, if_neg (fun z => by omega)]; exact h4 i
  · rw [xI_wI, if_neg (fun z => by omega)]; exact h5 i
  · rw [xI_wI, if_neg (fun z => by omega)]; exact h6
def mNw (a n : Nat) (m : xMem) : Prop := ∀ r, r < n → m.1 a r = -1
theorem mNw_w {a b n j : Nat} {v : Int32} {m : xMem} (h : mNw a n m) (hb : a ≠ b) : mNw a n (wI m b j v) := fun r hr => by rw [xI_wI, if_neg (fun z => hb z.1)]; exact h r hr
theorem mNw_s {a i : Nat} {m : xMem} (h : mNw a i m) : mNw a (i + 1) (wI m a i (-1)) := fun r hr => by
  rw [xI_wI]
  by_cases e : r = i
  · rw [if_pos ⟨rfl, e⟩]
  · rw [if_neg (fun z => e z.2)]; exact h r (by omega)
set_option maxRecDepth 100000 in
theorem l_m3 {E : xE} {M : xMem}  : ∀ m, (mC M m ∧ mNw 76 6 m ∧ mNw 79 4 m ∧ mNw 91 0 m) → PR E mX11_init (93) 206 [some (.ref 74), some (.int (nI 0))] [] (m) (fun r m => r = none ∧ mC M m ∧ mNw 76 6 m ∧ mNw 79 4 m ∧ mNw 91 3 m) := by
  refine px_for (P := fun i => ∀ m, (mC M m ∧ mNw 76 6 m ∧ mNw 79 4 m ∧ mNw 91 i m) → PR E mX11_init (93) 206 [some (.ref 74), some (.int (nI i))] [] (m) (fun r m => r = none ∧ mC M m ∧ mNw 76 6 m ∧ mNw 79 4 m ∧ mNw 91 3 m)) (3) (fun i hi nx => ?_) (0) (Nat.zero_le _)
  intro m hI
  obtain ⟨hC, hR, hT, hf⟩ := hI
  refine px_iload_n dX11_init_206 rfl rfl ?_
  refine px_iconst dX11_init_207 ic_3 ?_
  refine px_icmp_ge 224 dX11_init_208 rfl (fun h208 => ?_) (fun h208 => ?_)
  · have hi2 : i = 3 := by rw [show (3 : Int32) = nI 3 from rfl, nI_leI (by omega) (by omega)] at h208; omega
    subst hi2
    exact px_ret dX11_init_224 rfl ⟨rfl, hC, hR, hT, hf⟩ (hC.1)
  · have hlt : i < 3 := by rw [show (3 : Int32) = nI 3 from rfl, nI_leI (by omega) (by omega)] at h208; omega
    have hn := hC.1
    refine px_aload_n dX11_init_211 rfl rfl ?_
    refine px_getRA (r := 91) dX11_init_212 fX11_59 (by decide) (by first | omega | (simp only [xN_wI, xN_wR, xN_wN]; omega)) (by decide) rfl rfl (hC.2.2.1 38 (by decide)) (by decide) ?_
    refine px_iload_n dX11_init_215 rfl rfl ?_
    refine px_iconst dX11_init_216 ic_m1 ?_
    refine px_iast0 (n := 3) dX11_init_217 (by decide) (by first | omega | (simp only [xN_wI, xN_wR, xN_wN]; omega)) (by decide) rfl (vp_in_nI (by omega) (by decide)) ?_
    refine px_inc_1 dX11_init_218 rfl ic_1 ?_
    refine px_goto 206 dX11_init_221 rfl ?_
    rw [show (nI i).toNatClampNeg = i from nI_clamp (by omega)]
    exact px_eq (by rw [nI_1]) rfl (nx hlt _ ⟨mC_w hC (by omega), mNw_w hR (by decide), mNw_w hT (by decide), mNw_s hf⟩)
set_option maxRecDepth 100000 in
theorem l_m2 {E : xE} {M : xMem}  : ∀ m, (mC M m ∧ mNw 76 6 m ∧ mNw 79 0 m) → PR E mX11_init (93) 186 [some (.ref 74), some (.int (nI 0))] [] (m) (fun r m => r = none ∧ mC M m ∧ mNw 76 6 m ∧ mNw 79 4 m ∧ mNw 91 3 m) := by
  refine px_for (P := fun i => ∀ m, (mC M m ∧ mNw 76 6 m ∧ mNw 79 i m) → PR E mX11_init (93) 186 [some (.ref 74), some (.int (nI i))] [] (m) (fun r m => r = none ∧ mC M m ∧ mNw 76 6 m ∧ mNw 79 4 m ∧ mNw 91 3 m)) (4) (fun i hi nx => ?_) (0) (Nat.zero_le _)
  intro m hI
  obtain ⟨hC, hR, hf⟩ := hI
  refine px_iload_n dX11_init_186 rfl rfl ?_
  refine px_iconst dX11_init_187 ic_4 ?_
  refine px_icmp_ge 204 dX11_init_188 rfl (fun h188 => ?_) (fun h188 => ?_)
  · have hi2 : i = 4 := by rw [show (4 : Int32) = nI 4 from rfl, nI_leI (by omega) (by omega)] at h188; omega
    subst hi2
    refine px_iconst dX11_init_204 ic_0 ?_
    refine px_si_1 dX11_init_205 rfl ?_
    exact l_m3 m ⟨hC, hR, hf, fun r hr => absurd hr (Nat.not_lt_zero _)⟩
  · have hlt : i < 4 := by rw [show (4 : Int32) = nI 4 from rfl, nI_leI (by omega) (by omega)] at h188; omega
    have hn := hC.1
    refine px_aload_n dX11_init_191 rfl rfl ?_
    refine px_getRA (r := 79) dX11_init_192 fX11_22 (by decide) (by first | omega | (simp only [xN_wI, xN_wR, xN_wN]; omega)) (by decide) rfl rfl (hC.2.2.1 6 (by decide)) (by decide) ?_
    refine px_iload_n dX11_init_195 rfl rfl ?_
    refine px_iconst dX11_init_196 ic_m1 ?_
    refine px_iast0 (n := 4) dX11_init_197 (by decide) (by first | omega | (simp only [xN_wI, xN_wR, xN_wN]; omega)) (by decide) rfl (vp_in_nI (by omega) (by decide)) ?_
    refine px_inc_1 dX11_init_198 rfl ic_1 ?_
    refine px_goto 186 dX11_init_201 rfl ?_
    rw [show (nI i).toNatClampNeg = i from nI_clamp (by omega)]
    exact px_eq (by rw [nI_1]) rfl (nx hlt _ ⟨mC_w hC (by omega), mNw_w hR (by decide), mNw_s hf⟩)
set_option maxRecDepth 100000 in
theorem l_m1 {E : xE} {M : xMem}  : ∀ m, (mC M m ∧ mNw 76 0 m) → PR E mX11_init (93) 165 [some (.ref 74), some (.int (nI 0))] [] (m) (fun r m => r = none ∧ mC M m ∧ mNw 76 6 m ∧ mNw 79 4 m ∧ mNw 91 3 m) := by
  refine px_for (P := fun i => ∀ m, (mC M m ∧ mNw 76 i m) → PR E mX11_init (93) 165 [some (.ref 74), some (.int (nI i))] [] (m) (fun r m => r = none ∧ mC M m ∧ mNw 76 6 m ∧ mNw 79 4 m ∧ mNw 91 3 m)) (6) (fun i hi nx => ?_) (0) (Nat.zero_le _)
  intro m hI
  obtain ⟨hC, hf⟩ := hI
  refine px_iload_n dX11_init_165 rfl rfl ?_
  refine px_bipush dX11_init_166 bp_6 ?_
  refine px_icmp_ge 184 dX11_init_168 rfl (fun h168 => ?_) (fun h168 => ?_)
  · have hi2 : i = 6 := by rw [show (6 : Int32) = nI 6 from rfl, nI_leI (by omega) (by omega)] at h168; omega
    subst hi2
    refine px_iconst dX11_init_184 ic_0 ?_
    refine px_si_1 dX11_init_185 rfl ?_
    exact l_m2 m ⟨hC, hf, fun r hr => absurd hr (Nat.not_lt_zero _)⟩
  · have hlt : i < 6 := by rw [show (6 : Int32) = nI 6 from rfl, nI_leI (by omega) (by omega)] at h168; omega
    have hn := hC.1
    refine px_aload_n dX11_init_171 rfl rfl ?_
    refine px_getRA (r := 76) dX11_init_172 fX11_13 (by decide) (by first | omega | (simp only [xN_wI, xN_wR, xN_wN]; omega)) (by decide) rfl rfl (hC.2.2.1 3 (by decide)) (by decide) ?_
    refine px_iload_n dX11_init_175 rfl rfl ?_
    refine px_iconst dX11_init_176 ic_m1 ?_
    refine px_iast0 (n := 6) dX11_init_177 (by decide) (by first | omega | (simp only [xN_wI, xN_wR, xN_wN]; omega)) (by decide) rfl (vp_in_nI (by omega) (by decide)) ?_
    refine px_inc_1 dX11_init_178 rfl ic_1 ?_
    refine px_goto 165 dX11_init_181 rfl ?_
    rw [show (nI i).toNatClampNeg = i from nI_clamp (by omega)]
    exact px_eq (by rw [nI_1]) rfl (nx hlt _ ⟨mC_w hC (by omega), mNw_s hf⟩)
set_option maxRecDepth 100000 in
theorem n_X11 {E : xE} {M : xMem} (ha : xN M = 74) (hz1 : ∀ i, M.1 74 i = 0) (hz2 : ∀ i, M.2.1 74 i = 0) : Ct E mX11_init [.ref 74] M (93) (fun r m => r = none ∧ mC M m ∧ mNw 76 6 m ∧ mNw 79 4 m ∧ mNw 91 3 m) := by
  refine Ct.of (lo := [some (.ref 74), none]) pln_X11 (Nat.le_of_ble_eq_true rfl) rfl (by first | omega | (simp only [xN_wI, xN_wR, xN_wN]; omega)) ?_
  have hm0 := mB_0 ha hz1 hz2
  refine px_aload_n dX11_init_0 rfl rfl ?_
  refine px_obj dX11_init_1 kX11_init_1 (Nat.le_of_ble_eq_true rfl) (Nat.le_of_ble_eq_true rfl) ?_
  refine px_aload_n dX11_init_4 rfl rfl ?_
  refine px_bipush dX11_init_5 bp_6 ?_
  refine px_newaA (b := 75) (N := 6) (kk := 20) (t0 := 0) dX11_init_7 xw147 (fun _ => rfl) (fun _ _ h => h) rfl (by decide) (by decide) (by first | omega | (simp only [xN_wI, xN_wR, xN_wN]; omega)) rfl (by decide) rfl (by decide) (by first | omega | (simp only [xN_wI, xN_wR, xN_wN]; omega)) (by decide) ?_
  refine px_putR0 dX11_init_9 fX11_7 p11_2 (fun _ => ⟨rfl, rfl⟩) (by decide) (by first | omega | (simp only [xN_wI, xN_wR, xN_wN]; omega)) (by decide) rfl rfl (by first | omega | (simp only [xN_wI, xN_wR, xN_wN]; omega)) (fun _ => rfl) (fun _ => rfl) ?_
  have hm1 : mB M 1 (wR (wN M) 74 2 75) := mB_s hm0
  generalize wR (wN M) 74 2 75 = N1 at hm1 ⊢
  have ha1 := hm1.1
  refine px_aload_n dX11_init_12 rfl rfl ?_
  refine px_bipush dX11_init_13 bp_6 ?_
  refine px_newaA (b := 76) (N := 6) (kk := 20) (t0 := 0) dX11_init_15 xw147 (fun _ => rfl) (fun _ _ h => h) rfl (by decide) (by decide) (by first | omega | (simp only [xN_wI, xN_wR, xN_wN]; omega)) rfl (by decide) rfl (by decide) (by first | omega | (simp only [xN_wI, xN_wR, xN_wN]; omega)) (by decide) ?_
  refine px_putR0 dX11_init_17 fX11_13 p11_3 (fun _ => ⟨rfl, rfl⟩) (by decide) (by first | omega | (simp only [xN_wI, xN_wR, xN_wN]; omega)) (by decide) rfl rfl (by first | omega | (simp only [xN_wI, xN_wR, xN_wN]; omega)) (fun _ => rfl) (fun _ => rfl) ?_
  have hm2 : mB M 2 (wR (wN N1) 74 3 76) := mB_s hm1
  generalize wR (wN N1) 74 3 76 = N2 at hm2 ⊢
  have ha2 := hm2.1
  refine px_aload_n dX11_init_20 rfl rfl ?_
  refine px_sipush dX11_init_21 sp_240 ?_
  refine px_newaA (b := 77) (N := 240) (kk := 20) (t0 := 0) dX11_init_24 xw147 (fun _ => rfl) (fun _ _ h => h) rfl (by decide) (by decide) (by first | omega | (simp only [xN_wI, xN_wR, xN_wN]; omega)) rfl (by decide) rfl (by decide) (by first | omega | (simp only [xN_wI, xN_wR, xN_wN]; omega)) (by decide) ?_
  refine px_putR0 dX11_init_26 fX11_16 p11_4 (fun _ => ⟨rfl, rfl⟩) (by decide) (by first | omega | (simp only [xN_wI, xN_wR, xN_wN]; omega)) (by decide) rfl rfl (by first | omega | (simp only [xN_wI, xN_wR, xN_wN]; omega)) (fun _ => rfl) (fun _ => rfl) ?_
  have hm3 : mB M 3 (wR (wN N2) 74 4 77) := mB_s hm2
  generalize wR (wN N2) 74 4 77 = N3 at hm3 ⊢
  have ha3 := hm3.1
  refine px_aload_n dX11_init_29 rfl rfl ?_
  refine px_bipush dX11_init_30 bp_40 ?_
  refine px_newaA (b := 78) (N := 40) (kk := 20) (t0 := 0) dX11_init_32 xw147 (fun _ => rfl) (fun _ _ h => h) rfl (by decide) (by decide) (by first | omega | (simp only [xN_wI, xN_wR, xN_wN]; omega)) rfl (by decide) rfl (by decide) (by first | omega | (simp only [xN_wI, xN_wR, xN_wN]; omega)) (by decide) ?_
  refine px_putR0 dX11_init_34 fX11_19 p11_5 (fun _ => ⟨rfl, rfl⟩) (by decide) (by first | omega | (simp only [xN_wI, xN_wR, xN_wN]; omega)) (by decide) rfl rfl (by first | omega | (simp only [xN_wI, xN_wR, xN_wN]; omega)) (fun _ => rfl) (fun _ => rfl) ?_
  have hm4 : mB M 4 (wR (wN N3) 74 5 78) := mB_s hm3
  generalize wR (wN N3) 74 5 78 = N4 at hm4 ⊢
  have ha4 := hm4.1
  refine px_aload_n dX11_init_37 rfl rfl ?_
  refine px_iconst dX11_init_38 ic_4 ?_
  refine px_newaA (b := 79) (N := 4) (kk := 20) (t0 := 0) dX11_init_39 xw147 (fun _ => rfl) (fun _ _ h => h) rfl (by decide) (by decide) (by first | omega | (simp only [xN_wI, xN_wR, xN_wN]; omega)) rfl (by decide) rfl (by decide) (by first | omega | (simp only [xN_wI, xN_wR, xN_wN]; omega)) (by decide) ?_
  refine px_putR0 dX11_init_41 fX11_22 p11_6 (fun _ => ⟨rfl, rfl⟩) (by decide) (by first | omega | (simp only [xN_wI, xN_wR, xN_wN]; omega)) (by decide) rfl rfl (by first | omega | (simp only [xN_wI, xN_wR, xN_wN]; omega)) (fun _ => rfl) (fun _ => rfl) ?_
  have hm5 : mB M 5 (wR (wN N4) 74 6 79) := mB_s hm4
  generalize wR (wN N4) 74 6 79 = N5 at hm5 ⊢
  have ha5 := hm5.1
  refine px_aload_n dX11_init_44 rfl rfl ?_
  refine px_sipush dX11_init_45 sp_480 ?_
  refine px_newaA (b := 80) (N := 480) (kk := 21) (t0 := 1) dX11_init_48 xw299 (fun _ => rfl) (fun _ _ h => h) rfl (by decide) (by decide) (by first | omega | (simp only [xN_wI, xN_wR, xN_wN]; omega)) rfl (by decide) rfl (by decide) (by first | omega | (simp only [xN_wI, xN_wR, xN_wN]; omega)) (by decide) ?_
  refine px_putR0 dX11_init_50 fX11_25 p11_7 (fun _ => ⟨rfl, rfl⟩) (by decide) (by first | omega | (simp only [xN_wI, xN_wR, xN_wN]; omega)) (by decide) rfl rfl (by first | omega | (simp only [xN_wI, xN_wR, xN_wN]; omega)) (fun _ => rfl) (fun _ => rfl) ?_
  have hm6 : mB M 6 (wR (wN N5) 74 7 80) := mB_s hm5
  generalize wR (wN N5) 74 7 80 = N6 at hm6 ⊢
  have ha6 := hm6.1
  refine px_aload_n dX11_init_53 rfl rfl ?_
  refine px_bipush dX11_init_54 bp_56 ?_
  refine px_newaA (b := 81) (N := 56) (kk := 20) (t0 := 0) dX11_init_56 xw147 (fun _ => rfl) (fun _ _ h => h) rfl (by decide) (by decide) (by first | omega | (simp only [xN_wI, xN_wR, xN_wN]; omega)) rfl (by decide) rfl (by decide) (by first | omega | (simp only [xN_wI, xN_wR, xN_wN]; omega)) (by decide) ?_
  refine px_putR0 dX11_init_58 fX11_29 p11_12 (fun _ => ⟨rfl, rfl⟩) (by decide) (by first | omega | (simp only [xN_wI, xN_wR, xN_wN]; omega)) (by decide) rfl rfl (by first | omega | (simp only [xN_wI, xN_wR, xN_wN]; omega)) (fun _ => rfl) (fun _ => rfl) ?_
  have hm7 : mB M 7 (wR (wN N6) 74 12 81) := mB_s hm6
  generalize wR (wN N6) 74 12 81 = N7 at hm7 ⊢
  have ha7 := hm7.1
  refine px_aload_n dX11_init_61 rfl rfl ?_
  refine px_bipush dX11_init_62 bp_56 ?_
  refine px_newaA (b := 82) (N := 56) (kk := 20) (t0 := 0) dX11_init_64 xw147 (fun _ => rfl) (fun _ _ h => h) rfl (by decide) (by decide) (by first | omega | (simp only [xN_wI, xN_wR, xN_wN]; omega)) rfl (by decide) rfl (by decide) (by first | omega | (simp only [xN_wI, xN_wR, xN_wN]; omega)) (by decide) ?_
  refine px_putR0 dX11_init_66 fX11_32 p11_22 (fun _ => ⟨rfl, rfl⟩) (by decide) (by first | omega | (simp only [xN_wI, xN_wR, xN_wN]; omega)) (by decide) rfl rfl (by first | omega | (simp only [xN_wI, xN_wR, xN_wN]; omega)) (fun _ => rfl) (fun _ => rfl) ?_
  have hm8 : mB M 8 (wR (wN N7) 74 22 82) := mB_s hm7
  generalize wR (wN N7) 74 22 82 = N8 at hm8 ⊢
  have ha8 := hm8.1
  refine px_aload_n dX11_init_69 rfl rfl ?_
  refine px_bipush dX11_init_70 bp_33 ?_
  refine px_newaA (b := 83) (N := 33) (kk := 20) (t0 := 0) dX11_init_72 xw147 (fun _ => rfl) (fun _ _ h => h) rfl (by decide) (by decide) (by first | omega | (simp only [xN_wI, xN_wR, xN_wN]; omega)) rfl (by decide) rfl (by decide) (by first | omega | (simp only [xN_wI, xN_wR, xN_wN]; omega)) (by decide) ?_
  refine px_putR0 dX11_init_74 fX11_35 p11_23 (fun _ => ⟨rfl, rfl⟩) (by decide) (by first | omega | (simp only [xN_wI, xN_wR, xN_wN]; omega)) (by decide) rfl rfl (by first | omega | (simp only [xN_wI, xN_wR, xN_wN]; omega)) (fun _ => rfl) (fun _ => rfl) ?_
  have hm9 : mB M 9 (wR (wN N8) 74 23 83) := mB_s hm8
  generalize wR (wN N8) 74 23 83 = N9 at hm9 ⊢
  have ha9 := hm9.1
  refine px_aload_n dX11_init_77 rfl rfl ?_
  refine px_bipush dX11_init_78 bp_120 ?_
  refine px_newaA (b := 84) (N := 120) (kk := 21) (t0 := 1) dX11_init_80 xw299 (fun _ => rfl) (fun _ _ h => h) rfl (by decide) (by decide) (by first | omega | (simp only [xN_wI, xN_wR, xN_wN]; omega)) rfl (by decide) rfl (by decide) (by first | omega | (simp only [xN_wI, xN_wR, xN_wN]; omega)) (by decide) ?_
  refine px_putR0 dX11_init_82 fX11_38 p11_25 (fun _ => ⟨rfl, rfl⟩) (by decide) (by first | omega | (simp only [xN_wI, xN_wR, xN_wN]; omega)) (by decide) rfl rfl (by first | omega | (simp only [xN_wI, xN_wR, xN_wN]; omega)) (fun _ => rfl) (fun _ => rfl) ?_
  have hm10 : mB M 10 (wR (wN N9) 74 25 84) := mB_s hm9
  generalize wR (wN N9) 74 25 84 = N10 at hm10 ⊢
  have ha10 := hm10.1
  refine px_aload_n dX11_init_85 rfl rfl ?_
  refine px_sipush dX11_init_86 sp_256 ?_
  refine px_newaA (b := 85) (N := 256) (kk := 20) (t0 := 0) dX11_init_89 xw147 (fun _ => rfl) (fun _ _ h => h) rfl (by decide) (by decide) (by first | omega | (simp only [xN_wI, xN_wR, xN_wN]; omega)) rfl (by decide) rfl (by decide) (by first | omega | (simp only [xN_wI, xN_wR, xN_wN]; omega)) (by decide) ?_
  refine px_putR0 dX11_init_91 fX11_41 p11_26 (fun _ => ⟨rfl, rfl⟩) (by decide) (by first | omega | (simp only [xN_wI, xN_wR, xN_wN]; omega)) (by decide) rfl rfl (by first | omega | (simp only [xN_wI, xN_wR, xN_wN]; omega)) (fun _ => rfl) (fun _ => rfl) ?_
  have hm11 : mB M 11 (wR (wN N10) 74 26 85) := mB_s hm10
  generalize wR (wN N10) 74 26 85 = N11 at hm11 ⊢
  have ha11 := hm11.1
  refine px_aload_n dX11_init_94 rfl rfl ?_
  refine px_sipush dX11_init_95 sp_4096 ?_
  refine px_newaA (b := 86) (N := 4096) (kk := 20) (t0 := 0) dX11_init_98 xw147 (fun _ => rfl) (fun _ _ h => h) rfl (by decide) (by decide) (by first | omega | (simp only [xN_wI, xN_wR, xN_wN]; omega)) rfl (by decide) rfl (by decide) (by first | omega | (simp only [xN_wI, xN_wR, xN_wN]; omega)) (by decide) ?_
  refine px_putR0 dX11_init_100 fX11_44 p11_28 (fun _ => ⟨rfl, rfl⟩) (by decide) (by first | omega | (simp only [xN_wI, xN_wR, xN_wN]; omega)) (by decide) rfl rfl (by first | omega | (simp only [xN_wI, xN_wR, xN_wN]; omega)) (fun _ => rfl) (fun _ => rfl) ?_
  have hm12 : mB M 12 (wR (wN N11) 74 28 86) := mB_s hm11
  generalize wR (wN N11) 74 28 86 = N12 at hm12 ⊢
  have ha12 := hm12.1
  refine px_aload_n dX11_init_103 rfl rfl ?_
  refine px_sipush dX11_init_104 sp_4096 ?_
  refine px_newaA (b := 87) (N := 4096) (kk := 20) (t0 := 0) dX11_init_107 xw147 (fun _ => rfl) (fun _ _ h => h) rfl (by decide) (by decide) (by first | omega | (simp only [xN_wI, xN_wR, xN_wN]; omega)) rfl (by decide) rfl (by decide) (by first | omega | (simp only [xN_wI, xN_wR, xN_wN]; omega)) (by decide) ?_
  refine px_putR0 dX11_init_109 fX11_47 p11_29 (fun _ => ⟨rfl, rfl⟩) (by decide) (by first | omega | (simp only [xN_wI, xN_wR, xN_wN]; omega)) (by decide) rfl rfl (by first | omega | (simp only [xN_wI, xN_wR, xN_wN]; omega)) (fun _ => rfl) (fun _ => rfl) ?_
  have hm13 : mB M 13 (wR (wN N12) 74 29 87) := mB_s hm12
  generalize wR (wN N12) 74 29 87 = N13 at hm13 ⊢
  have ha13 := hm13.1
  refine px_aload_n dX11_init_112 rfl rfl ?_
  refine px_sipush dX11_init_113 sp_4096 ?_
  refine px_newaA (b := 88) (N := 4096) (kk := 20) (t0 := 0) dX11_init_116 xw147 (fun _ => rfl) (fun _ _ h => h) rfl (by decide) (by decide) (by first | omega | (simp only [xN_wI, xN_wR, xN_wN]; omega)) rfl (by decide) rfl (by decide) (by first | omega | (simp only [xN_wI, xN_wR, xN_wN]; omega)) (by decide) ?_
  refine px_putR0 dX11_init_118 fX11_50 p11_30 (fun _ => ⟨rfl, rfl⟩) (by decide) (by first | omega | (simp only [xN_wI, xN_wR, xN_wN]; omega)) (by decide) rfl rfl (by first | omega | (simp only [xN_wI, xN_wR, xN_wN]; omega)) (fun _ => rfl) (fun _ => rfl) ?_
  have hm14 : mB M 14 (wR (wN N13) 74 30 88) := mB_s hm13
  generalize wR (wN N13) 74 30 88 = N14 at hm14 ⊢
  have ha14 := hm14.1
  refine px_aload_n dX11_init_121 rfl rfl ?_
  refine px_sipush dX11_init_122 sp_4096 ?_
  refine px_newaA (b := 89) (N := 4096) (kk := 20) (t0 := 0) dX11_init_125 xw147 (fun _ => rfl) (fun _ _ h => h) rfl (by decide) (by decide) (by first | omega | (simp only [xN_wI, xN_wR, xN_wN]; omega)) rfl (by decide) rfl (by decide) (by first | omega | (simp only [xN_wI, xN_wR, xN_wN]; omega)) (by decide) ?_
  refine px_putR0 dX11_init_127 fX11_53 p11_31 (fun _ => ⟨rfl, rfl⟩) (by decide) (by first | omega | (simp only [xN_wI, xN_wR, xN_wN]; omega)) (by decide) rfl rfl (by first | omega | (simp only [xN_wI, xN_wR, xN_wN]; omega)) (fun _ => rfl) (fun _ => rfl) ?_
  have hm15 : mB M 15 (wR (wN N14) 74 31 89) := mB_s hm14
  generalize wR (wN N14) 74 31 89 = N15 at hm15 ⊢
  have ha15 := hm15.1
  refine px_aload_n dX11_init_130 rfl rfl ?_
  refine px_sipush dX11_init_131 sp_1320 ?_
  refine px_newaA (b := 90) (N := 1320) (kk := 20) (t0 := 0) dX11_init_134 xw147 (fun _ => rfl) (fun _ _ h => h) rfl (by decide) (by decide) (by first | omega | (simp only [xN_wI, xN_wR, xN_wN]; omega)) rfl (by decide) rfl (by decide) (by first | omega | (simp only [xN_wI, xN_wR, xN_wN]; omega)) (by decide) ?_
  refine px_putR0 dX11_init_136 fX11_56 p11_37 (fun _ => ⟨rfl, rfl⟩) (by decide) (by first | omega | (simp only [xN_wI, xN_wR, xN_wN]; omega)) (by decide) rfl rfl (by first | omega | (simp only [xN_wI, xN_wR, xN_wN]; omega)) (fun _ => rfl) (fun _ => rfl) ?_
  have hm16 : mB M 16 (wR (wN N15) 74 37 90) := mB_s hm15
  generalize wR (wN N15) 74 37 90 = N16 at hm16 ⊢
  have ha16 := hm16.1
  refine px_aload_n dX11_init_139 rfl rfl ?_
  refine px_iconst dX11_init_140 ic_3 ?_
  refine px_newaA (b := 91) (N := 3) (kk := 20) (t0 := 0) dX11_init_141 xw147 (fun _ => rfl) (fun _ _ h => h) rfl (by decide) (by decide) (by first | omega | (simp only [xN_wI, xN_wR, xN_wN]; omega)) rfl (by decide) rfl (by decide) (by first | omega | (simp only [xN_wI, xN_wR, xN_wN]; omega)) (by decide) ?_
  refine px_putR0 dX11_init_143 fX11_59 p11_38 (fun _ => ⟨rfl, rfl⟩) (by decide) (by first | omega | (simp only [xN_wI, xN_wR, xN_wN]; omega)) (by decide) rfl rfl (by first | omega | (simp only [xN_wI, xN_wR, xN_wN]; omega)) (fun _ => rfl) (fun _ => rfl) ?_
  have hm17 : mB M 17 (wR (wN N16) 74 38 91) := mB_s hm16
  generalize wR (wN N16) 74 38 91 = N17 at hm17 ⊢
  have ha17 := hm17.1
  refine px_aload_n dX11_init_146 rfl rfl ?_
  refine px_sipush dX11_init_147 sp_4059 ?_
  refine px_newaA (b := 92) (N := 4059) (kk := 20) (t0 := 0) dX11_init_150 xw147 (fun _ => rfl) (fun _ _ h => h) rfl (by decide) (by decide) (by first | omega | (simp only [xN_wI, xN_wR, xN_wN]; omega)) rfl (by decide) rfl (by decide) (by first | omega | (simp only [xN_wI, xN_wR, xN_wN]; omega)) (by decide) ?_
  refine px_putR0 dX11_init_152 fX11_62 p11_39 (fun _ => ⟨rfl, rfl⟩) (by decide) (by first | omega | (simp only [xN_wI, xN_wR, xN_wN]; omega)) (by decide) rfl rfl (by first | omega | (simp only [xN_wI, xN_wR, xN_wN]; omega)) (fun _ => rfl) (fun _ => rfl) ?_
  have hm18 : mB M 18 (wR (wN N17) 74 39 92) := mB_s hm17
  generalize wR (wN N17) 74 39 92 = N18 at hm18 ⊢
  have ha18 := hm18.1
  refine px_aload_n dX11_init_155 rfl rfl ?_
  refine px_bipush dX11_init_156 bp_33 ?_
  refine px_newaA (b := 93) (N := 33) (kk := 20) (t0 := 0) dX11_init_158 xw147 (fun _ => rfl) (fun _ _ h => h) rfl (by decide) (by decide) (by first | omega | (simp only [xN_wI, xN_wR, xN_wN]; omega)) rfl (by decide) rfl (by decide) (by first | omega | (simp only [xN_wI, xN_wR, xN_wN]; omega)) (by decide) ?_
  refine px_putR0 dX11_init_160 fX11_65 p11_40 (fun _ => ⟨rfl, rfl⟩) (by decide) (by first | omega | (simp only [xN_wI, xN_wR, xN_wN]; omega)) (by decide) rfl rfl (by first | omega | (simp only [xN_wI, xN_wR, xN_wN]; omega)) (fun _ => rfl) (fun _ => rfl) ?_
  have hm19 : mB M 19 (wR (wN N18) 74 40 93) := mB_s hm18
  generalize wR (wN N18) 74 40 93 = N19 at hm19 ⊢
  have ha19 := hm19.1
  refine px_iconst dX11_init_163 ic_0 ?_
  refine px_si_1 dX11_init_164 rfl ?_
  exact l_m1 N19 ⟨⟨hm19.1, hm19.2.1, fun j _ => hm19.2.2.2 j, fun i => hm19.2.2.1 74 (by decide) (by decide) i, fun i => hm19.2.2.1 75 (by decide) (by decide) i, hm19.2.2.1 83 (by decide) (by decide) 32⟩, fun r hr => absurd hr (Nat.not_lt_zero _)⟩
theorem ob_l {P : Nat → Prop} {c : Nat} (L : List Nat) (hL : ∀ a, a < 94 → (xK a).1 = c → 1 ≤ a → a ∈ L) (h : ∀ a ∈ L, P a) : ∀ a, xob a c → P a := fun a ha => h a (hL a (by have := ha.2.1; have : xNT = 93 := rfl; omega) ha.2.2 ha.1)
/-- the start -/
theorem inv_start {m0 m : xMem} (hF : fsF m0) (hR : fsR 6 m0) (hT : fsT 4 m0) (hK : fsK 3 m0) (hC : mC m0 m) (n1 : mNw 76 6 m) (n2 : mNw 79 4 m) (n3 : mNw 91 3 m) : InvJ m := by
  have hb := hC.2.1
  have hF1 : fsF m := fsF_k hF (fun b b1 _ => hb b (by omega))
  have hR1 : fsR 6 m := fsR_k hR (fun b h => hb b (by omega))
  have hT1 : fsT 4 m := fsT_k hT (fun b h => hb b (by omega))
  have hK1 : fsK 3 m := fun r hr => ⟨stoN_k (hK r hr).1 (fun b b1 b2 => hb b (by omega)), by rw [(hb 4 (by decide)).2]; exact (hK r hr).2⟩
  obtain ⟨f1, f2, f3, f4, f5, f6, f7, f8, f9, f10, f11⟩ := id hF1
  have hn : xNT ≤ xN m := by rw [hC.1]; decide
  have hW : xWire m.2.1 := by
    refine ⟨fun j hj => ?_, fun j hj => ?_, fun j hj => ?_, f7, fun j hj => ?_, ?_, ?_, ?_, ?_, ?_, fun j hj => (hR1 j hj).2, fun j hj => (hT1 j hj).2, fun j hj => (hK1 j hj).2, fun a j ha hj => ?_⟩
    · rw [f1 j (by omega)]
      rcases (show j = 0 ∨ j = 1 ∨ j = 2 ∨ j = 3 ∨ j = 4 ∨ j = 5 ∨ j = 6 ∨ j = 7 ∨ j = 8 ∨ j = 9 by omega) with rfl | rfl | rfl | rfl | rfl | rfl | rfl | rfl | rfl | rfl <;> rfl
    · rcases (show j = 0 ∨ j = 1 by omega) with rfl | rfl
      · exact f8.1
      · exact f8.2.1
    · rcases (show j = 0 ∨ j = 1 by omega) with rfl | rfl
      · exact f8.2.2.1
      · exact f8.2.2.2
    · rw [hC.2.2.1 j hj]; exact mTb_j j hj
    · refine ob_l [42, 44, 46, 48, 50, 52] (by decide) (fun a ha => ?_)
      simp only [List.mem_cons, List.not_mem_nil, or_false] at ha
      rcases ha with rfl | rfl | rfl | rfl | rfl | rfl
      · exact (hR1 0 (by decide)).1.1
      · exact (hR1 1 (by decide)).1.1
      · exact (hR1 2 (by decide)).1.1
      · exact (hR1 3 (by decide)).1.1
      · exact (hR1 4 (by decide)).1.1
      · exact (hR1 5 (by decide)).1.1
    · refine ob_l [54, 56, 58, 60] (by decide) (fun a ha => ?_)
      simp only [List.mem_cons, List.not_mem_nil, or_false] at ha
      rcases ha with rfl | rfl | rfl | rfl
      · exact (hT1 0 (by decide)).1.1
      · exact (hT1 1 (by decide)).1.1
      · exact (hT1 2 (by decide)).1.1
      · exact (hT1 3 (by decide)).1.1
    · refine ob_l [7, 29, 63, 67, 71] (by decide) (fun a ha => ?_)
      simp only [List.mem_cons, List.not_mem_nil, or_false] at ha
      rcases ha with rfl | rfl | rfl | rfl | rfl
      · exact f4.2.2.2.1
      · exact f9.1
      · exact (hK1 0 (by decide)).1.2.2.2.1
      · exact (hK1 1 (by decide)).1.2.2.2.1
      · exact (hK1 2 (by decide)).1.2.2.2.1
    · refine ob_l [11, 32] (by decide) (fun a ha => ?_)
      simp only [List.mem_cons, List.not_mem_nil, or_false] at ha
      rcases ha with rfl | rfl
      · exact f6.1
      · exact f11.1
    · refine ob_l [6, 62, 66, 70] (by decide) (fun a ha => ?_)
      simp only [List.mem_cons, List.not_mem_nil, or_false] at ha
      rcases ha with rfl | rfl | rfl | rfl
      · exact ⟨f4.1, f4.2.1⟩
      · exact ⟨(hK1 0 (by decide)).1.1, (hK1 0 (by decide)).1.2.1⟩
      · exact ⟨(hK1 1 (by decide)).1.1, (hK1 1 (by decide)).1.2.1⟩
      · exact ⟨(hK1 2 (by decide)).1.1, (hK1 2 (by decide)).1.2.1⟩
    · have h26 : a = 12 ∨ a = 33 := by
        have h94 : a < 94 := by have := ha.2.1; have : xNT = 93 := rfl; omega
        have h2 := ha.2.2
        clear ha
        have q : ∀ a, a < 94 → xK a = (26, 8) → a = 12 ∨ a = 33 := by decide
        exact q a h94 h2
      rcases h26 with rfl | rfl
      · exact f6.2.2 j hj
      · exact f11.2.2 j hj
  have hmz : mszOK m := ⟨fun r hr => Or.inl (n1 r hr), fun t ht => Or.inl (n2 t ht)⟩
  have hcp : cpl m := by
    refine ⟨by rw [f2.1, hC.2.2.2.1 0], by rw [f2.2, hC.2.2.2.1 1], fun k k1 k2 => by rw [f10 k (by omega), hC.2.2.2.2.1 k], fun r hr => ⟨by rw [n1 r hr]; exact (hR1 r hr).1.2, fun i hi => ?_⟩, fun t ht => ⟨by rw [n2 t ht]; exact (hT1 t ht).1.2, fun i hi => ?_⟩⟩
    · rw [n1 r hr] at hi; exact absurd hi (Nat.not_lt_zero _)
    · rw [n2 t ht] at hi; exact absurd hi (Nat.not_lt_zero _)
  refine ⟨32, 11, 0, 0, 0, 0, (fun _ _ => 0), 0, (fun _ => none, 0), (fun _ => (fun _ => none, 0)), (fun _ => none), ⟨⟨hn, hW, ⟨by decide, by decide, rfl⟩, f1 10 (by decide), ⟨f11.2.1.1, f11.2.1.2.1, f11.2.1.2.2.1, f11.2.1.2.2.2, fun f hf => absurd hf (Nat.not_lt_zero _)⟩, ⟨by decide, by decide, by decide, by decide, fun h => absurd h (Nat.lt_irrefl _), fun f hf => absurd hf (Nat.not_lt_zero _)⟩, ⟨f4.2.2.1, by decide, ⟨fun f hf _ => f4.2.2.2.2.2 f hf, fun f p x y t _ e => by cases e⟩, f4.2.2.2.2.1, fun i hi => absurd hi (Nat.not_lt_zero _)⟩, lyOK_none _ _ _ _ _, by decide⟩, ⟨by decide, by decide, rfl⟩, f5, by decide, fun k hk => ⟨fun _ => f3 k hk, fun q hq => by cases hq⟩, sz_of hcp hmz⟩, Or.inr ⟨⟨hn, hW, ⟨hC.2.2.2.1 8, hC.2.2.2.1 9, hC.2.2.2.1 10, hC.2.2.2.1 11⟩, hC.2.2.2.1 36, hC.2.2.2.2.2, n3, hmz⟩, rfl, rfl, rfl, rfl, rfl, rfl, rfl⟩, ⟨fun i hi => absurd hi (Nat.not_lt_zero _), fun k q _ e => by cases e⟩, hcp⟩
