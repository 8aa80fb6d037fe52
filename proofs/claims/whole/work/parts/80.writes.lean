/-! ===== writing: signs, numbers, words ===== -/
abbrev aW : Type := Nat × (Nat → Int32)
def adC (s : aW) (c : Int32) : aW := (s.1 + 1, fun i => if i = s.1 then c.toInt8.toInt32 else s.2 i)
def adN (s : aW) (x : Int32) : aW := if x < 10 then adC (adC s 32) (48 + (x - x / 10 * 10)) else adC (adC (adC s 32) (48 + x / 10)) (48 + (x - x / 10 * 10))
def adWn (s : aW) (i : Nat) : Nat → aW
  | 0 => s
  | k + 1 => adC (adWn s i k) (sch i k)
def adW (s : aW) (i : Nat) : aW := adWn s i (xslen.getD i 0)
def adNs (s : aW) (g : Nat → Nat) : Nat → aW
  | 0 => s
  | k + 1 => adN (adNs s g k) (nI (g (k + 1)))
def adF (s : aW) (g : Nat → Nat) : aW := adC (adNs (adW s (g 0 + 2)) g 6) 59
def adFs (s : aW) (g : Nat → Nat → Nat) : Nat → aW
  | 0 => s
  | k + 1 => adF (adFs s g k) (g k)
def adH (W H B : Nat) : aW := if B = 0 then adC (adN (adN (adW (0, fun _ => 0) 0) (nI W)) (nI H)) 59 else adC (adN (adW (adC (adN (adN (adW (0, fun _ => 0) 0) (nI W)) (nI H)) 59) 1) (nI B)) 59
def adS (n W H B : Nat) (g : Nat → Nat → Nat) : aW := adFs (adH W H B) g n
theorem adN_b (s : aW) (x : Int32) : s.1 ≤ (adN s x).1 ∧ (adN s x).1 ≤ s.1 + 3 := by
  unfold adN
  by_cases h : x < 10
  · rw [if_pos h]; show s.1 ≤ s.1 + 1 + 1 ∧ s.1 + 1 + 1 ≤ s.1 + 3; omega
  · rw [if_neg h]; show s.1 ≤ s.1 + 1 + 1 + 1 ∧ s.1 + 1 + 1 + 1 ≤ s.1 + 3; omega
theorem adWn_b (s : aW) (i : Nat) : ∀ k, (adWn s i k).1 = s.1 + k
  | 0 => rfl
  | k + 1 => by show (adWn s i k).1 + 1 = s.1 + (k + 1); rw [adWn_b s i k]; omega
theorem adW_b (s : aW) {i : Nat} (hi : i < 6) : s.1 ≤ (adW s i).1 ∧ (adW s i).1 ≤ s.1 + 6 := by
  have := adWn_b s i (xslen.getD i 0)
  have := sln_lt i hi
  unfold adW
  omega
theorem adNs_b (s : aW) (g : Nat → Nat) : ∀ k, s.1 ≤ (adNs s g k).1 ∧ (adNs s g k).1 ≤ s.1 + 3 * k
  | 0 => ⟨Nat.le_refl _, Nat.le_refl _⟩
  | k + 1 => by
    have h1 := adNs_b s g k
    have h2 := adN_b (adNs s g k) (nI (g (k + 1)))
    show s.1 ≤ (adN (adNs s g k) (nI (g (k + 1)))).1 ∧ (adN (adNs s g k) (nI (g (k + 1)))).1 ≤ s.1 + 3 * (k + 1)
    omega
theorem adF_b (s : aW) {g : Nat → Nat} (h : g 0 ≤ 3) : s.1 ≤ (adF s g).1 ∧ (adF s g).1 ≤ s.1 + 25 := by
  have h1 := adW_b s (i := g 0 + 2) (by omega)
  have h2 := adNs_b (adW s (g 0 + 2)) g 6
  show s.1 ≤ (adNs (adW s (g 0 + 2)) g 6).1 + 1 ∧ (adNs (adW s (g 0 + 2)) g 6).1 + 1 ≤ s.1 + 25
  omega
theorem adFs_b (s : aW) (g : Nat → Nat → Nat) : ∀ k, (∀ f, f < k → g f 0 ≤ 3) → s.1 ≤ (adFs s g k).1 ∧ (adFs s g k).1 ≤ s.1 + 25 * k
  | 0, _ => ⟨Nat.le_refl _, Nat.le_refl _⟩
  | k + 1, h => by
    have h1 := adFs_b s g k (fun f hf => h f (by omega))
    have h2 := adF_b (adFs s g k) (h k (by omega))
    show s.1 ≤ (adF (adFs s g k) (g k)).1 ∧ (adF (adFs s g k) (g k)).1 ≤ s.1 + 25 * (k + 1)
    omega
def scG (M : xMem) (o j bf : Nat) (s : aW) : Prop := M.1 o j = nI s.1 ∧ ∀ i, i < s.1 → i < 120 → M.1 bf i = s.2 i
def wrG (o j bf : Nat) (M m : xMem) : Prop := m.2 = M.2 ∧ (∀ a, a ≠ o → a ≠ bf → m.1 a = M.1 a) ∧ ∀ k, k ≠ j → m.1 o k = M.1 o k
theorem wrGrf (o j bf : Nat) (M : xMem) : wrG o j bf M M := ⟨rfl, fun _ _ _ => rfl, fun _ _ => rfl⟩
theorem wrGtr {o j bf : Nat} {M m m2 : xMem} (h : wrG o j bf M m) (h2 : wrG o j bf m m2) : wrG o j bf M m2 := ⟨h2.1.trans h.1, fun a a1 a2 => (h2.2.1 a a1 a2).trans (h.2.1 a a1 a2), fun k k1 => (h2.2.2 k k1).trans (h.2.2 k k1)⟩
theorem scg_in {M : xMem} {o j bf : Nat} {s : aW} {c : Int32} (ho : o ≠ bf) (hs : scG M o j bf s) (h : s.1 < 120) : wrG o j bf M (wI (wI M bf (nI s.1).toNatClampNeg (vp_nar .byte c.toInt8.toInt32)) o j (nI s.1 + 1)) ∧ scG (wI (wI M bf (nI s.1).toNatClampNeg (vp_nar .byte c.toInt8.toInt32)) o j (nI s.1 + 1)) o j bf (adC s c) := by
  rw [nI_clamp (by omega), pk_vb]
  refine ⟨⟨rfl, fun a a1 a2 => ?_, fun k k1 => ?_⟩, ?_, fun i hi1 hi2 => ?_⟩
  · funext i; rw [xI_wI, if_neg (fun z => a1 z.1), xI_wI, if_neg (fun z => a2 z.1)]
  · rw [xI_wI, if_neg (fun z => k1 z.2), xI_wI, if_neg (fun z => ho z.1)]
  · rw [wI_self, nI_1]; rfl
  · rw [xI_wI, if_neg (fun z => ho z.1.symm), xI_wI]
    by_cases e : i = s.1
    · rw [if_pos ⟨rfl, e⟩]; exact (if_pos e).symm
    · rw [if_neg (fun z => e z.2)]
      have hi3 : i < s.1 + 1 := hi1
      exact (hs.2 i (by omega) hi2).trans (if_neg e).symm
theorem scg_out {M : xMem} {o j bf : Nat} {s : aW} {c : Int32} (ho : o ≠ bf) (hs : scG M o j bf s) (h : ¬ s.1 < 120) : wrG o j bf M (wI M o j (nI s.1 + 1)) ∧ scG (wI M o j (nI s.1 + 1)) o j bf (adC s c) := by
  refine ⟨⟨rfl, fun a a1 a2 => ?_, fun k k1 => ?_⟩, ?_, fun i hi1 hi2 => ?_⟩
  · funext i; rw [xI_wI, if_neg (fun z => a1 z.1)]
  · rw [xI_wI, if_neg (fun z => k1 z.2)]
  · rw [wI_self, nI_1]; rfl
  · rw [xI_wI, if_neg (fun z => ho z.1.symm)]
    exact (hs.2 i (by omega) hi2).trans (if_neg (show ¬ i = s.1 by omega)).symm
theorem lt10 {x : Int32} : x ≤ 9 ↔ x < 10 := by
  simp only [Int32.le_iff_toInt_le, Int32.lt_iff_toInt_lt, Int32.reduceToInt]
  omega

set_option maxRecDepth 100000 in
theorem c_X6_addSign {E : xE} {M : xMem} {s : aW} {c : Int32} (hM : xNT ≤ xN M) (hW : xWire M.2.1) (hs : scG M 22 1 23 s) (hb : s.1 < 1000) : Ct E mX6_addSign [.ref 22, .int c] M (xN M) (fun r m => r = none ∧ wrG 22 1 23 M m ∧ scG m 22 1 23 (adC s c)) := by
  refine Ct.of (lo := [some (.ref 22), some (.int c)]) pln_X6 (Nat.le_of_ble_eq_true rfl) rfl (Nat.le_refl _) ?_
  refine px_aload_n dX6_addSign_0 rfl rfl ?_
  refine px_getI dX6_addSign_1 fX6_15 (xol rfl) hM rfl ?_
  refine px_top (y := nI s.1) hs.1 ?_
  refine px_bipush dX6_addSign_4 bp_120 ?_
  refine px_icmp_ge 20 dX6_addSign_6 rfl (fun h6 => ?_) (fun h6 => ?_)
  · refine px_aload_n dX6_addSign_20 rfl rfl ?_
    first | refine px_dupi dX6_addSign_21 ?_ | refine px_dupa dX6_addSign_21 ?_
    refine px_getI dX6_addSign_22 fX6_15 (xol rfl) hM rfl ?_
    refine px_top (y := nI s.1) (by first | (rw [xI_wI, if_neg (fun z => by omega)]; exact hs.1) | exact hs.1) ?_
    refine px_iconst dX6_addSign_25 ic_1 ?_
    refine px_iadd dX6_addSign_26 ?_
    refine px_putI dX6_addSign_27 fX6_15 p6_1 (xol rfl) hM rfl ?_
    exact px_ret dX6_addSign_30 rfl (by first | (have y := hlt; exact ⟨rfl, scg_in (by decide) hs y⟩) | exact ⟨rfl, scg_out (by decide) hs (by rw [show (120 : Int32) = nI 120 from rfl, nI_leI (by decide) (by omega)] at h6; omega)⟩) (rfl)
  · have hlt : s.1 < 120 := by rw [show (120 : Int32) = nI 120 from rfl, nI_leI (by decide) (by omega)] at h6; omega
    refine px_aload_n dX6_addSign_9 rfl rfl ?_
    refine px_getR dX6_addSign_10 fX6_9 (xol rfl) hM rfl (wr_6_0 hW (xol rfl)) (Nat.succ_pos _) ?_
    refine px_aload_n dX6_addSign_13 rfl rfl ?_
    refine px_getI dX6_addSign_14 fX6_15 (xol rfl) hM rfl ?_
    refine px_top (y := nI s.1) hs.1 ?_
    refine px_iload_n dX6_addSign_17 rfl rfl ?_
    refine px_i2b dX6_addSign_18 ?_
    refine px_bast dX6_addSign_19 (xal (n := 120) rfl) hM (vp_in_nI (by omega) (by decide)) ?_
    refine px_aload_n dX6_addSign_20 rfl rfl ?_
    first | refine px_dupi dX6_addSign_21 ?_ | refine px_dupa dX6_addSign_21 ?_
    refine px_getI dX6_addSign_22 fX6_15 (xol rfl) hM rfl ?_
    refine px_top (y := nI s.1) (by first | (rw [xI_wI, if_neg (fun z => by omega)]; exact hs.1) | exact hs.1) ?_
    refine px_iconst dX6_addSign_25 ic_1 ?_
    refine px_iadd dX6_addSign_26 ?_
    refine px_putI dX6_addSign_27 fX6_15 p6_1 (xol rfl) hM rfl ?_
    exact px_ret dX6_addSign_30 rfl (by first | (have y := hlt; exact ⟨rfl, scg_in (by decide) hs y⟩) | exact ⟨rfl, scg_out (by decide) hs (by rw [show (120 : Int32) = nI 120 from rfl, nI_leI (by decide) (by omega)] at h6; omega)⟩) (rfl)

set_option maxRecDepth 100000 in
theorem c_X6_addNumber {E : xE} {M : xMem} {s : aW} {x : Int32} (hM : xNT ≤ xN M) (hW : xWire M.2.1) (hs : scG M 22 1 23 s) (hb : s.1 < 990) : Ct E mX6_addNumber [.ref 22, .int x] M (xN M) (fun r m => r = none ∧ wrG 22 1 23 M m ∧ scG m 22 1 23 (adN s x)) := by
  refine Ct.of (lo := [some (.ref 22), some (.int x)]) pln_X6 (Nat.le_of_ble_eq_true rfl) rfl (Nat.le_refl _) ?_
  refine px_aload_n dX6_addNumber_0 rfl rfl ?_
  refine px_bipush dX6_addNumber_1 bp_32 ?_
  refine px_gV1 dX6_addNumber_3 kX6_addNumber_37 (xol rfl) hM (Nat.le_of_ble_eq_true rfl) (c_X6_addSign hM hW hs (by omega)) (fun r3 M3 hq3 hn3 => ?_)
  obtain ⟨rfl, q3, s3⟩ := hq3
  have hM : xNT ≤ xN M3 := by rw [hn3]; exact hM
  have hW : xWire M3.2.1 := by rw [q3.1]; exact hW
  refine px_iload_n dX6_addNumber_6 rfl rfl ?_
  refine px_bipush dX6_addNumber_7 bp_10 ?_
  refine px_icmp_lt 23 dX6_addNumber_9 rfl (fun h9 => ?_) (fun h9 => ?_)
  · refine px_aload_n dX6_addNumber_23 rfl rfl ?_
    refine px_bipush dX6_addNumber_24 bp_48 ?_
    refine px_iload_n dX6_addNumber_26 rfl rfl ?_
    refine px_bipush dX6_addNumber_27 bp_10 ?_
    refine px_irem dX6_addNumber_29 (by decide) ?_
    refine px_iadd dX6_addNumber_30 ?_
    refine px_gV1 dX6_addNumber_31 kX6_addNumber_37 (xol rfl) hM (Nat.le_of_ble_eq_true rfl) (c_X6_addSign (s := if x < 10 then adC s 32 else adC (adC s 32) (48 + x / 10)) hM hW (by first | (have y := s20; rw [if_neg h9]; exact y) | (rw [if_pos h9]; exact s3)) (by by_cases z : x < 10; (rw [if_pos z]; show s.1 + 1 < 1000; omega); (rw [if_neg z]; show s.1 + 1 + 1 < 1000; omega))) (fun r31 M31 hq31 hn31 => ?_)
    obtain ⟨rfl, q31, s31⟩ := hq31
    exact px_ret dX6_addNumber_34 rfl (by unfold adN; first | (have y := wrGtr q3 (wrGtr q20 q31); rw [if_neg h9] at s31 ⊢; exact ⟨rfl, y, s31⟩) | (rw [if_pos h9] at s31 ⊢; exact ⟨rfl, wrGtr q3 q31, s31⟩)) (by first | exact hn31.trans (hn20.trans hn3) | exact hn31.trans hn3)
  · refine px_aload_n dX6_addNumber_12 rfl rfl ?_
    refine px_bipush dX6_addNumber_13 bp_48 ?_
    refine px_iload_n dX6_addNumber_15 rfl rfl ?_
    refine px_bipush dX6_addNumber_16 bp_10 ?_
    refine px_idiv dX6_addNumber_18 (by decide) ?_
    refine px_iadd dX6_addNumber_19 ?_
    refine px_gV1 dX6_addNumber_20 kX6_addNumber_37 (xol rfl) hM (Nat.le_of_ble_eq_true rfl) (c_X6_addSign hM hW s3 (by show s.1 + 1 < 1000; omega)) (fun r20 M20 hq20 hn20 => ?_)
    obtain ⟨rfl, q20, s20⟩ := hq20
    have hM : xNT ≤ xN M20 := by rw [hn20]; exact hM
    have hW : xWire M20.2.1 := by rw [q20.1]; exact hW
    refine px_aload_n dX6_addNumber_23 rfl rfl ?_
    refine px_bipush dX6_addNumber_24 bp_48 ?_
    refine px_iload_n dX6_addNumber_26 rfl rfl ?_
    refine px_bipush dX6_addNumber_27 bp_10 ?_
    refine px_irem dX6_addNumber_29 (by decide) ?_
    refine px_iadd dX6_addNumber_30 ?_
    refine px_gV1 dX6_addNumber_31 kX6_addNumber_37 (xol rfl) hM (Nat.le_of_ble_eq_true rfl) (c_X6_addSign (s := if x < 10 then adC s 32 else adC (adC s 32) (48 + x / 10)) hM hW (by first | (have y := s20; rw [if_neg h9]; exact y) | (rw [if_pos h9]; exact s3)) (by by_cases z : x < 10; (rw [if_pos z]; show s.1 + 1 < 1000; omega); (rw [if_neg z]; show s.1 + 1 + 1 < 1000; omega))) (fun r31 M31 hq31 hn31 => ?_)
    obtain ⟨rfl, q31, s31⟩ := hq31
    exact px_ret dX6_addNumber_34 rfl (by unfold adN; first | (have y := wrGtr q3 (wrGtr q20 q31); rw [if_neg h9] at s31 ⊢; exact ⟨rfl, y, s31⟩) | (rw [if_pos h9] at s31 ⊢; exact ⟨rfl, wrGtr q3 q31, s31⟩)) (by first | exact hn31.trans (hn20.trans hn3) | exact hn31.trans hn3)

set_option maxRecDepth 100000 in
theorem c_X11_writes {E : xE} {M : xMem} {s : aW} {c : Int32} (hM : xNT ≤ xN M) (hW : xWire M.2.1) (hs : scG M 74 24 84 s) (hb : s.1 < 1000) : Ct E mX11_writes [.ref 74, .int c] M (xN M) (fun r m => r = none ∧ wrG 74 24 84 M m ∧ scG m 74 24 84 (adC s c)) := by
  refine Ct.of (lo := [some (.ref 74), some (.int c)]) pln_X11 (Nat.le_of_ble_eq_true rfl) rfl (Nat.le_refl _) ?_
  refine px_aload_n dX11_writes_0 rfl rfl ?_
  refine px_getI dX11_writes_1 fX11_188 (xol rfl) hM rfl ?_
  refine px_top (y := nI s.1) hs.1 ?_
  refine px_bipush dX11_writes_4 bp_120 ?_
  refine px_icmp_ge 20 dX11_writes_6 rfl (fun h6 => ?_) (fun h6 => ?_)
  · refine px_aload_n dX11_writes_20 rfl rfl ?_
    first | refine px_dupi dX11_writes_21 ?_ | refine px_dupa dX11_writes_21 ?_
    refine px_getI dX11_writes_22 fX11_188 (xol rfl) hM rfl ?_
    refine px_top (y := nI s.1) (by first | (rw [xI_wI, if_neg (fun z => by omega)]; exact hs.1) | exact hs.1) ?_
    refine px_iconst dX11_writes_25 ic_1 ?_
    refine px_iadd dX11_writes_26 ?_
    refine px_putI dX11_writes_27 fX11_188 p11_24 (xol rfl) hM rfl ?_
    exact px_ret dX11_writes_30 rfl (by first | (have y := hlt; exact ⟨rfl, scg_in (by decide) hs y⟩) | exact ⟨rfl, scg_out (by decide) hs (by rw [show (120 : Int32) = nI 120 from rfl, nI_leI (by decide) (by omega)] at h6; omega)⟩) (rfl)
  · have hlt : s.1 < 120 := by rw [show (120 : Int32) = nI 120 from rfl, nI_leI (by decide) (by omega)] at h6; omega
    refine px_aload_n dX11_writes_9 rfl rfl ?_
    refine px_getR dX11_writes_10 fX11_38 (xol rfl) hM rfl (wr_11_25 hW (xol rfl)) (Nat.succ_pos _) ?_
    refine px_aload_n dX11_writes_13 rfl rfl ?_
    refine px_getI dX11_writes_14 fX11_188 (xol rfl) hM rfl ?_
    refine px_top (y := nI s.1) hs.1 ?_
    refine px_iload_n dX11_writes_17 rfl rfl ?_
    refine px_i2b dX11_writes_18 ?_
    refine px_bast dX11_writes_19 (xal (n := 120) rfl) hM (vp_in_nI (by omega) (by decide)) ?_
    refine px_aload_n dX11_writes_20 rfl rfl ?_
    first | refine px_dupi dX11_writes_21 ?_ | refine px_dupa dX11_writes_21 ?_
    refine px_getI dX11_writes_22 fX11_188 (xol rfl) hM rfl ?_
    refine px_top (y := nI s.1) (by first | (rw [xI_wI, if_neg (fun z => by omega)]; exact hs.1) | exact hs.1) ?_
    refine px_iconst dX11_writes_25 ic_1 ?_
    refine px_iadd dX11_writes_26 ?_
    refine px_putI dX11_writes_27 fX11_188 p11_24 (xol rfl) hM rfl ?_
    exact px_ret dX11_writes_30 rfl (by first | (have y := hlt; exact ⟨rfl, scg_in (by decide) hs y⟩) | exact ⟨rfl, scg_out (by decide) hs (by rw [show (120 : Int32) = nI 120 from rfl, nI_leI (by decide) (by omega)] at h6; omega)⟩) (rfl)

set_option maxRecDepth 100000 in
theorem c_X11_writesNumber {E : xE} {M : xMem} {s : aW} {x : Int32} (hM : xNT ≤ xN M) (hW : xWire M.2.1) (hs : scG M 74 24 84 s) (hb : s.1 < 990) : Ct E mX11_writesNumber [.ref 74, .int x] M (xN M) (fun r m => r = none ∧ wrG 74 24 84 M m ∧ scG m 74 24 84 (adN s x)) := by
  refine Ct.of (lo := [some (.ref 74), some (.int x)]) pln_X11 (Nat.le_of_ble_eq_true rfl) rfl (Nat.le_refl _) ?_
  refine px_aload_n dX11_writesNumber_0 rfl rfl ?_
  refine px_bipush dX11_writesNumber_1 bp_32 ?_
  refine px_gV1 dX11_writesNumber_3 kX11_writesNumber_191 (xol rfl) hM (Nat.le_of_ble_eq_true rfl) (c_X11_writes hM hW hs (by omega)) (fun r3 M3 hq3 hn3 => ?_)
  obtain ⟨rfl, q3, s3⟩ := hq3
  have hM : xNT ≤ xN M3 := by rw [hn3]; exact hM
  have hW : xWire M3.2.1 := by rw [q3.1]; exact hW
  refine px_iload_n dX11_writesNumber_6 rfl rfl ?_
  refine px_bipush dX11_writesNumber_7 bp_9 ?_
  refine px_icmp_le 23 dX11_writesNumber_9 rfl (fun h9 => ?_) (fun h9 => ?_)
  · refine px_aload_n dX11_writesNumber_23 rfl rfl ?_
    refine px_bipush dX11_writesNumber_24 bp_48 ?_
    refine px_iload_n dX11_writesNumber_26 rfl rfl ?_
    refine px_bipush dX11_writesNumber_27 bp_10 ?_
    refine px_irem dX11_writesNumber_29 (by decide) ?_
    refine px_iadd dX11_writesNumber_30 ?_
    refine px_gV1 dX11_writesNumber_31 kX11_writesNumber_191 (xol rfl) hM (Nat.le_of_ble_eq_true rfl) (c_X11_writes (s := if x < 10 then adC s 32 else adC (adC s 32) (48 + x / 10)) hM hW (by first | (have y := s20; rw [if_neg (fun z => h9 (lt10.mpr z))]; exact y) | (rw [if_pos (lt10.mp h9)]; exact s3)) (by by_cases z : x < 10; (rw [if_pos z]; show s.1 + 1 < 1000; omega); (rw [if_neg z]; show s.1 + 1 + 1 < 1000; omega))) (fun r31 M31 hq31 hn31 => ?_)
    obtain ⟨rfl, q31, s31⟩ := hq31
    exact px_ret dX11_writesNumber_34 rfl (by unfold adN; first | (have y := wrGtr q3 (wrGtr q20 q31); rw [if_neg (fun z => h9 (lt10.mpr z))] at s31 ⊢; exact ⟨rfl, y, s31⟩) | (rw [if_pos (lt10.mp h9)] at s31 ⊢; exact ⟨rfl, wrGtr q3 q31, s31⟩)) (by first | exact hn31.trans (hn20.trans hn3) | exact hn31.trans hn3)
  · refine px_aload_n dX11_writesNumber_12 rfl rfl ?_
    refine px_bipush dX11_writesNumber_13 bp_48 ?_
    refine px_iload_n dX11_writesNumber_15 rfl rfl ?_
    refine px_bipush dX11_writesNumber_16 bp_10 ?_
    refine px_idiv dX11_writesNumber_18 (by decide) ?_
    refine px_iadd dX11_writesNumber_19 ?_
    refine px_gV1 dX11_writesNumber_20 kX11_writesNumber_191 (xol rfl) hM (Nat.le_of_ble_eq_true rfl) (c_X11_writes hM hW s3 (by show s.1 + 1 < 1000; omega)) (fun r20 M20 hq20 hn20 => ?_)
    obtain ⟨rfl, q20, s20⟩ := hq20
    have hM : xNT ≤ xN M20 := by rw [hn20]; exact hM
    have hW : xWire M20.2.1 := by rw [q20.1]; exact hW
    refine px_aload_n dX11_writesNumber_23 rfl rfl ?_
    refine px_bipush dX11_writesNumber_24 bp_48 ?_
    refine px_iload_n dX11_writesNumber_26 rfl rfl ?_
    refine px_bipush dX11_writesNumber_27 bp_10 ?_
    refine px_irem dX11_writesNumber_29 (by decide) ?_
    refine px_iadd dX11_writesNumber_30 ?_
    refine px_gV1 dX11_writesNumber_31 kX11_writesNumber_191 (xol rfl) hM (Nat.le_of_ble_eq_true rfl) (c_X11_writes (s := if x < 10 then adC s 32 else adC (adC s 32) (48 + x / 10)) hM hW (by first | (have y := s20; rw [if_neg (fun z => h9 (lt10.mpr z))]; exact y) | (rw [if_pos (lt10.mp h9)]; exact s3)) (by by_cases z : x < 10; (rw [if_pos z]; show s.1 + 1 < 1000; omega); (rw [if_neg z]; show s.1 + 1 + 1 < 1000; omega))) (fun r31 M31 hq31 hn31 => ?_)
    obtain ⟨rfl, q31, s31⟩ := hq31
    exact px_ret dX11_writesNumber_34 rfl (by unfold adN; first | (have y := wrGtr q3 (wrGtr q20 q31); rw [if_neg (fun z => h9 (lt10.mpr z))] at s31 ⊢; exact ⟨rfl, y, s31⟩) | (rw [if_pos (lt10.mp h9)] at s31 ⊢; exact ⟨rfl, wrGtr q3 q31, s31⟩)) (by first | exact hn31.trans (hn20.trans hn3) | exact hn31.trans hn3)
