/-! ===== what the walker's rows use ===== -/
def zb (p : Prop) [Decidable p] : Int32 := if p then 1 else 0
theorem zb_t {p : Prop} [Decidable p] (h : p) : zb p = 1 := if_pos h
theorem zb_f {p : Prop} [Decidable p] (h : ¬ p) : zb p = 0 := if_neg h
theorem z1 {p : Prop} [Decidable p] (h : p) : some (Value.int 1) = some (.int (zb p)) := by rw [zb_t h]
theorem z0 {p : Prop} [Decidable p] (h : ¬ p) : some (Value.int 0) = some (.int (zb p)) := by rw [zb_f h]
theorem zb_0 {p : Prop} [Decidable p] : zb p = 0 ↔ ¬ p := by unfold zb; split <;> simp_all
theorem zb_nar {p : Prop} [Decidable p] : narrow .boolean (.int (zb p)) = .int (zb p) := by unfold zb; split <;> rfl
theorem zb_fit {p : Prop} [Decidable p] : fits .boolean (.int (zb p)) = true := by unfold zb; split <;> rfl
theorem zb_c {p q : Prop} [Decidable p] [Decidable q] (h : p ↔ q) : zb p = zb q := by unfold zb; simp [h]
theorem xol {a c : Nat} (h : (Nat.ble 1 a && (Nat.ble a xNT && Nat.beq (xK a).1 c)) = true) : xob a c := by
  simp only [Bool.and_eq_true, Nat.ble_eq, Nat.beq_eq] at h
  exact ⟨h.1, h.2.1, h.2.2⟩
theorem xal {a k n : Nat} (h : (Nat.ble 1 a && (Nat.ble a xNT && (Nat.beq (xK a).1 k && Nat.beq (xK a).2 n))) = true) : xar a k n := by
  simp only [Bool.and_eq_true, Nat.ble_eq, Nat.beq_eq] at h
  exact ⟨h.1, h.2.1, Prod.ext h.2.2.1 h.2.2.2⟩
/-- the references that never change -/
def xWire (r : Nat → Nat → Nat) : Prop :=
  (∀ j, j < 10 → r 1 j = [2, 3, 4, 5, 6, 10, 22, 24, 29, 31].getD j 0) ∧ (∀ j, j < 2 → r 24 j = [25, 28].getD j 0) ∧ (∀ j, j < 2 → r 25 j = [26, 27].getD j 0) ∧ r 22 0 = 23 ∧
  (∀ j, j < 45 → r 74 j = [0, 0, 75, 76, 77, 78, 79, 80, 0, 0, 0, 0, 81, 0, 0, 0, 0, 0, 0, 0, 0, 0, 82, 83, 0, 84, 85, 0, 86, 87, 88, 89, 0, 0, 0, 0, 0, 90, 91, 92, 93, 0, 0, 0, 0].getD j 0) ∧
  (∀ a, xob a 5 → r a 0 = a + 1) ∧ (∀ a, xob a 9 → r a 0 = a + 1) ∧ (∀ a, xob a 1 → r a 0 = a + 1) ∧ (∀ a, xob a 7 → r a 0 = a + 1) ∧ (∀ a, xob a 8 → r a 0 = a + 1 ∧ r a 1 = a + 3) ∧
  (∀ j, j < 6 → r 2 j = 42 + 2 * j) ∧ (∀ j, j < 4 → r 3 j = 54 + 2 * j) ∧ (∀ j, j < 3 → r 4 j = 62 + 4 * j) ∧ (∀ a j, xar a 26 8 → j < 8 → r a j = a + 1 + j)
theorem xob_1 {a : Nat} (h : xob a 1) : a = 7 ∨ a = 29 ∨ a = 63 ∨ a = 67 ∨ a = 71 := by
  obtain ⟨h1, h2, h3⟩ := h
  have : ∀ a, a ≤ xNT → 1 ≤ a → (xK a).1 = 1 → a = 7 ∨ a = 29 ∨ a = 63 ∨ a = 67 ∨ a = 71 := by decide +kernel
  exact this a h2 h1 h3
theorem xob_2 {a : Nat} (h : xob a 2) : a = 24 := by
  obtain ⟨h1, h2, h3⟩ := h
  have : ∀ a, a ≤ xNT → 1 ≤ a → (xK a).1 = 2 → a = 24 := by decide +kernel
  exact this a h2 h1 h3
theorem xob_3 {a : Nat} (h : xob a 3) : a = 10 := by
  obtain ⟨h1, h2, h3⟩ := h
  have : ∀ a, a ≤ xNT → 1 ≤ a → (xK a).1 = 3 → a = 10 := by decide +kernel
  exact this a h2 h1 h3
theorem xob_4 {a : Nat} (h : xob a 4) : a = 25 := by
  obtain ⟨h1, h2, h3⟩ := h
  have : ∀ a, a ≤ xNT → 1 ≤ a → (xK a).1 = 4 → a = 25 := by decide +kernel
  exact this a h2 h1 h3
theorem xob_5 {a : Nat} (h : xob a 5) : a = 42 ∨ a = 44 ∨ a = 46 ∨ a = 48 ∨ a = 50 ∨ a = 52 := by
  obtain ⟨h1, h2, h3⟩ := h
  have : ∀ a, a ≤ xNT → 1 ≤ a → (xK a).1 = 5 → a = 42 ∨ a = 44 ∨ a = 46 ∨ a = 48 ∨ a = 50 ∨ a = 52 := by decide +kernel
  exact this a h2 h1 h3
theorem xob_6 {a : Nat} (h : xob a 6) : a = 22 := by
  obtain ⟨h1, h2, h3⟩ := h
  have : ∀ a, a ≤ xNT → 1 ≤ a → (xK a).1 = 6 → a = 22 := by decide +kernel
  exact this a h2 h1 h3
theorem xob_7 {a : Nat} (h : xob a 7) : a = 11 ∨ a = 32 := by
  obtain ⟨h1, h2, h3⟩ := h
  have : ∀ a, a ≤ xNT → 1 ≤ a → (xK a).1 = 7 → a = 11 ∨ a = 32 := by decide +kernel
  exact this a h2 h1 h3
theorem xob_8 {a : Nat} (h : xob a 8) : a = 6 ∨ a = 62 ∨ a = 66 ∨ a = 70 := by
  obtain ⟨h1, h2, h3⟩ := h
  have : ∀ a, a ≤ xNT → 1 ≤ a → (xK a).1 = 8 → a = 6 ∨ a = 62 ∨ a = 66 ∨ a = 70 := by decide +kernel
  exact this a h2 h1 h3
theorem xob_9 {a : Nat} (h : xob a 9) : a = 54 ∨ a = 56 ∨ a = 58 ∨ a = 60 := by
  obtain ⟨h1, h2, h3⟩ := h
  have : ∀ a, a ≤ xNT → 1 ≤ a → (xK a).1 = 9 → a = 54 ∨ a = 56 ∨ a = 58 ∨ a = 60 := by decide +kernel
  exact this a h2 h1 h3
theorem xob_10 {a : Nat} (h : xob a 10) : a = 1 := by
  obtain ⟨h1, h2, h3⟩ := h
  have : ∀ a, a ≤ xNT → 1 ≤ a → (xK a).1 = 10 → a = 1 := by decide +kernel
  exact this a h2 h1 h3
theorem xob_11 {a : Nat} (h : xob a 11) : a = 74 := by
  obtain ⟨h1, h2, h3⟩ := h
  have : ∀ a, a ≤ xNT → 1 ≤ a → (xK a).1 = 11 → a = 74 := by decide +kernel
  exact this a h2 h1 h3
theorem wr_10_0 {r : Nat → Nat → Nat} {a : Nat} (h : xWire r) (ho : xob a 10) : r a 0 = 2 := by rw [xob_10 ho]; exact h.1 0 (by decide)
theorem wr_10_1 {r : Nat → Nat → Nat} {a : Nat} (h : xWire r) (ho : xob a 10) : r a 1 = 3 := by rw [xob_10 ho]; exact h.1 1 (by decide)
theorem wr_10_2 {r : Nat → Nat → Nat} {a : Nat} (h : xWire r) (ho : xob a 10) : r a 2 = 4 := by rw [xob_10 ho]; exact h.1 2 (by decide)
theorem wr_10_3 {r : Nat → Nat → Nat} {a : Nat} (h : xWire r) (ho : xob a 10) : r a 3 = 5 := by rw [xob_10 ho]; exact h.1 3 (by decide)
theorem wr_10_4 {r : Nat → Nat → Nat} {a : Nat} (h : xWire r) (ho : xob a 10) : r a 4 = 6 := by rw [xob_10 ho]; exact h.1 4 (by decide)
theorem wr_10_5 {r : Nat → Nat → Nat} {a : Nat} (h : xWire r) (ho : xob a 10) : r a 5 = 10 := by rw [xob_10 ho]; exact h.1 5 (by decide)
theorem wr_10_6 {r : Nat → Nat → Nat} {a : Nat} (h : xWire r) (ho : xob a 10) : r a 6 = 22 := by rw [xob_10 ho]; exact h.1 6 (by decide)
theorem wr_10_7 {r : Nat → Nat → Nat} {a : Nat} (h : xWire r) (ho : xob a 10) : r a 7 = 24 := by rw [xob_10 ho]; exact h.1 7 (by decide)
theorem wr_10_8 {r : Nat → Nat → Nat} {a : Nat} (h : xWire r) (ho : xob a 10) : r a 8 = 29 := by rw [xob_10 ho]; exact h.1 8 (by decide)
theorem wr_10_9 {r : Nat → Nat → Nat} {a : Nat} (h : xWire r) (ho : xob a 10) : r a 9 = 31 := by rw [xob_10 ho]; exact h.1 9 (by decide)
theorem wr_2_0 {r : Nat → Nat → Nat} {a : Nat} (h : xWire r) (ho : xob a 2) : r a 0 = 25 := by rw [xob_2 ho]; exact h.2.1 0 (by decide)
theorem wr_2_1 {r : Nat → Nat → Nat} {a : Nat} (h : xWire r) (ho : xob a 2) : r a 1 = 28 := by rw [xob_2 ho]; exact h.2.1 1 (by decide)
theorem wr_4_0 {r : Nat → Nat → Nat} {a : Nat} (h : xWire r) (ho : xob a 4) : r a 0 = 26 := by rw [xob_4 ho]; exact h.2.2.1 0 (by decide)
theorem wr_4_1 {r : Nat → Nat → Nat} {a : Nat} (h : xWire r) (ho : xob a 4) : r a 1 = 27 := by rw [xob_4 ho]; exact h.2.2.1 1 (by decide)
theorem wr_6_0 {r : Nat → Nat → Nat} {a : Nat} (h : xWire r) (ho : xob a 6) : r a 0 = 23 := by rw [xob_6 ho]; exact h.2.2.2.1
theorem wr_11_2 {r : Nat → Nat → Nat} {a : Nat} (h : xWire r) (ho : xob a 11) : r a 2 = 75 := by rw [xob_11 ho]; exact h.2.2.2.2.1 2 (by decide)
theorem wr_11_3 {r : Nat → Nat → Nat} {a : Nat} (h : xWire r) (ho : xob a 11) : r a 3 = 76 := by rw [xob_11 ho]; exact h.2.2.2.2.1 3 (by decide)
theorem wr_11_4 {r : Nat → Nat → Nat} {a : Nat} (h : xWire r) (ho : xob a 11) : r a 4 = 77 := by rw [xob_11 ho]; exact h.2.2.2.2.1 4 (by decide)
theorem wr_11_5 {r : Nat → Nat → Nat} {a : Nat} (h : xWire r) (ho : xob a 11) : r a 5 = 78 := by rw [xob_11 ho]; exact h.2.2.2.2.1 5 (by decide)
theorem wr_11_6 {r : Nat → Nat → Nat} {a : Nat} (h : xWire r) (ho : xob a 11) : r a 6 = 79 := by rw [xob_11 ho]; exact h.2.2.2.2.1 6 (by decide)
theorem wr_11_7 {r : Nat → Nat → Nat} {a : Nat} (h : xWire r) (ho : xob a 11) : r a 7 = 80 := by rw [xob_11 ho]; exact h.2.2.2.2.1 7 (by decide)
theorem wr_11_12 {r : Nat → Nat → Nat} {a : Nat} (h : xWire r) (ho : xob a 11) : r a 12 = 81 := by rw [xob_11 ho]; exact h.2.2.2.2.1 12 (by decide)
theorem wr_11_22 {r : Nat → Nat → Nat} {a : Nat} (h : xWire r) (ho : xob a 11) : r a 22 = 82 := by rw [xob_11 ho]; exact h.2.2.2.2.1 22 (by decide)
theorem wr_11_23 {r : Nat → Nat → Nat} {a : Nat} (h : xWire r) (ho : xob a 11) : r a 23 = 83 := by rw [xob_11 ho]; exact h.2.2.2.2.1 23 (by decide)
theorem wr_11_25 {r : Nat → Nat → Nat} {a : Nat} (h : xWire r) (ho : xob a 11) : r a 25 = 84 := by rw [xob_11 ho]; exact h.2.2.2.2.1 25 (by decide)
theorem wr_11_26 {r : Nat → Nat → Nat} {a : Nat} (h : xWire r) (ho : xob a 11) : r a 26 = 85 := by rw [xob_11 ho]; exact h.2.2.2.2.1 26 (by decide)
theorem wr_11_28 {r : Nat → Nat → Nat} {a : Nat} (h : xWire r) (ho : xob a 11) : r a 28 = 86 := by rw [xob_11 ho]; exact h.2.2.2.2.1 28 (by decide)
theorem wr_11_29 {r : Nat → Nat → Nat} {a : Nat} (h : xWire r) (ho : xob a 11) : r a 29 = 87 := by rw [xob_11 ho]; exact h.2.2.2.2.1 29 (by decide)
theorem wr_11_30 {r : Nat → Nat → Nat} {a : Nat} (h : xWire r) (ho : xob a 11) : r a 30 = 88 := by rw [xob_11 ho]; exact h.2.2.2.2.1 30 (by decide)
theorem wr_11_31 {r : Nat → Nat → Nat} {a : Nat} (h : xWire r) (ho : xob a 11) : r a 31 = 89 := by rw [xob_11 ho]; exact h.2.2.2.2.1 31 (by decide)
theorem wr_11_37 {r : Nat → Nat → Nat} {a : Nat} (h : xWire r) (ho : xob a 11) : r a 37 = 90 := by rw [xob_11 ho]; exact h.2.2.2.2.1 37 (by decide)
theorem wr_11_38 {r : Nat → Nat → Nat} {a : Nat} (h : xWire r) (ho : xob a 11) : r a 38 = 91 := by rw [xob_11 ho]; exact h.2.2.2.2.1 38 (by decide)
theorem wr_11_39 {r : Nat → Nat → Nat} {a : Nat} (h : xWire r) (ho : xob a 11) : r a 39 = 92 := by rw [xob_11 ho]; exact h.2.2.2.2.1 39 (by decide)
theorem wr_11_40 {r : Nat → Nat → Nat} {a : Nat} (h : xWire r) (ho : xob a 11) : r a 40 = 93 := by rw [xob_11 ho]; exact h.2.2.2.2.1 40 (by decide)
theorem wr_5_0 {r : Nat → Nat → Nat} {a : Nat} (h : xWire r) (ho : xob a 5) : r a 0 = a + 1 := h.2.2.2.2.2.1 a ho
theorem wr_9_0 {r : Nat → Nat → Nat} {a : Nat} (h : xWire r) (ho : xob a 9) : r a 0 = a + 1 := h.2.2.2.2.2.2.1 a ho
theorem wr_1_0 {r : Nat → Nat → Nat} {a : Nat} (h : xWire r) (ho : xob a 1) : r a 0 = a + 1 := h.2.2.2.2.2.2.2.1 a ho
theorem wr_7_0 {r : Nat → Nat → Nat} {a : Nat} (h : xWire r) (ho : xob a 7) : r a 0 = a + 1 := h.2.2.2.2.2.2.2.2.1 a ho
theorem wr_8_0 {r : Nat → Nat → Nat} {a : Nat} (h : xWire r) (ho : xob a 8) : r a 0 = a + 1 := (h.2.2.2.2.2.2.2.2.2.1 a ho).1
theorem wr_8_1 {r : Nat → Nat → Nat} {a : Nat} (h : xWire r) (ho : xob a 8) : r a 1 = a + 3 := (h.2.2.2.2.2.2.2.2.2.1 a ho).2
theorem wa_2 {r : Nat → Nat → Nat} {j : Nat} (h : xWire r) (hj : j < 6) : r 2 j = 42 + 2 * j := h.2.2.2.2.2.2.2.2.2.2.1 j hj
theorem wa_3 {r : Nat → Nat → Nat} {j : Nat} (h : xWire r) (hj : j < 4) : r 3 j = 54 + 2 * j := h.2.2.2.2.2.2.2.2.2.2.2.1 j hj
theorem wa_4 {r : Nat → Nat → Nat} {j : Nat} (h : xWire r) (hj : j < 3) : r 4 j = 62 + 4 * j := h.2.2.2.2.2.2.2.2.2.2.2.2.1 j hj
theorem wa_26 {r : Nat → Nat → Nat} {a j : Nat} (h : xWire r) (ho : xar a 26 8) (hj : j < 8) : r a j = a + 1 + j := h.2.2.2.2.2.2.2.2.2.2.2.2.2 a j ho hj
theorem ar_5 {a : Nat} (h : xob a 5) : xar (a + 1) 20 40 := by rcases xob_5 h with rfl | rfl | rfl | rfl | rfl | rfl <;> exact xal rfl
theorem ar_9 {a : Nat} (h : xob a 9) : xar (a + 1) 21 120 := by rcases xob_9 h with rfl | rfl | rfl | rfl <;> exact xal rfl
theorem ar_1 {a : Nat} (h : xob a 1) : xar (a + 1) 20 8 := by rcases xob_1 h with rfl | rfl | rfl | rfl | rfl <;> exact xal rfl
theorem ar_7 {a : Nat} (h : xob a 7) : xar (a + 1) 26 8 := by rcases xob_7 h with rfl | rfl <;> exact xal rfl
theorem ar_8 {a : Nat} (h : xob a 8) : xob (a + 1) 1 ∧ xar (a + 3) 20 360 := by rcases xob_8 h with rfl | rfl | rfl | rfl <;> exact ⟨xol rfl, xal rfl⟩
theorem ob_row {r : Nat} (h : r < 6) : xob (42 + 2 * r) 5 := by rcases (show r = 0 ∨ r = 1 ∨ r = 2 ∨ r = 3 ∨ r = 4 ∨ r = 5 by omega) with rfl | rfl | rfl | rfl | rfl | rfl <;> exact xol rfl
theorem ob_text {r : Nat} (h : r < 4) : xob (54 + 2 * r) 9 := by rcases (show r = 0 ∨ r = 1 ∨ r = 2 ∨ r = 3 by omega) with rfl | rfl | rfl | rfl <;> exact xol rfl
theorem ob_kept {r : Nat} (h : r < 3) : xob (62 + 4 * r) 8 := by rcases (show r = 0 ∨ r = 1 ∨ r = 2 by omega) with rfl | rfl | rfl <;> exact xol rfl
theorem ob_frame {s f : Nat} (hs : xob s 7) (h : f < 8) : xob (s + 1 + 1 + f) 0 := by
  rcases xob_7 hs with rfl | rfl <;> rcases (show f = 0 ∨ f = 1 ∨ f = 2 ∨ f = 3 ∨ f = 4 ∨ f = 5 ∨ f = 6 ∨ f = 7 by omega) with rfl | rfl | rfl | rfl | rfl | rfl | rfl | rfl <;> exact xol rfl
section PAT
variable {E : xE} {d : xMD} {ne pc : Nat} {st : List Value} {M : xMem} {Q : Option Value → xMem → Prop}
theorem px_zif_eq {lo : List (Option Value)} {p : Prop} [Decidable p] {off : Int} (tgt : Nat) (hd : decode d.co pc = .ok (.ifCond .eq off, 3)) (ht : (pc : Int) + off = (tgt : Int)) (kt : ¬ p → PR E d ne tgt lo st M Q) (kf : p → PR E d ne (pc + 3) lo st M Q) : PR E d ne pc lo (.int (zb p) :: st) M Q :=
  px_if_eq tgt hd ht (fun h => kt (zb_0.mp h)) (fun h => kf (Classical.byContradiction fun g => h (zb_0.mpr g)))
theorem px_zif_ne {lo : List (Option Value)} {p : Prop} [Decidable p] {off : Int} (tgt : Nat) (hd : decode d.co pc = .ok (.ifCond .ne off, 3)) (ht : (pc : Int) + off = (tgt : Int)) (kt : p → PR E d ne tgt lo st M Q) (kf : ¬ p → PR E d ne (pc + 3) lo st M Q) : PR E d ne pc lo (.int (zb p) :: st) M Q :=
  px_if_ne tgt hd ht (fun h => kt (Classical.byContradiction fun g => h (zb_0.mpr g))) (fun h => kf (zb_0.mp h))
theorem px_si_0 {o : Option Value} {t : List (Option Value)} {x : Int32} (hd : decode d.co pc = .ok (.istore_n 0, 1)) (k : PR E d ne (pc + 1) (some (.int x) :: t) st M Q) : PR E d ne pc (o :: t) (.int x :: st) M Q := px_istore_n (i := 0) hd rfl rfl (by simp only [List.length_cons]; omega) rfl k
theorem px_si_1 {l0 o : Option Value} {t : List (Option Value)} {x : Int32} (hd : decode d.co pc = .ok (.istore_n 1, 1)) (hp : xnl l0 = true) (k : PR E d ne (pc + 1) (l0 :: some (.int x) :: t) st M Q) : PR E d ne pc (l0 :: o :: t) (.int x :: st) M Q := px_istore_n (i := 1) hd rfl hp (by simp only [List.length_cons]; omega) rfl k
theorem px_si_2 {l0 l1 o : Option Value} {t : List (Option Value)} {x : Int32} (hd : decode d.co pc = .ok (.istore_n 2, 1)) (hp : xnl l1 = true) (k : PR E d ne (pc + 1) (l0 :: l1 :: some (.int x) :: t) st M Q) : PR E d ne pc (l0 :: l1 :: o :: t) (.int x :: st) M Q := px_istore_n (i := 2) hd rfl hp (by simp only [List.length_cons]; omega) rfl k
theorem px_si_3 {l0 l1 l2 o : Option Value} {t : List (Option Value)} {x : Int32} (hd : decode d.co pc = .ok (.istore_n 3, 1)) (hp : xnl l2 = true) (k : PR E d ne (pc + 1) (l0 :: l1 :: l2 :: some (.int x) :: t) st M Q) : PR E d ne pc (l0 :: l1 :: l2 :: o :: t) (.int x :: st) M Q := px_istore_n (i := 3) hd rfl hp (by simp only [List.length_cons]; omega) rfl k
theorem px_si_4 {l0 l1 l2 l3 o : Option Value} {t : List (Option Value)} {x : Int32} (hd : decode d.co pc = .ok (.istore 4, 2)) (hp : xnl l3 = true) (k : PR E d ne (pc + 2) (l0 :: l1 :: l2 :: l3 :: some (.int x) :: t) st M Q) : PR E d ne pc (l0 :: l1 :: l2 :: l3 :: o :: t) (.int x :: st) M Q := px_istore (i := 4) hd hp (by simp only [List.length_cons]; omega) rfl k
theorem px_si_5 {l0 l1 l2 l3 l4 o : Option Value} {t : List (Option Value)} {x : Int32} (hd : decode d.co pc = .ok (.istore 5, 2)) (hp : xnl l4 = true) (k : PR E d ne (pc + 2) (l0 :: l1 :: l2 :: l3 :: l4 :: some (.int x) :: t) st M Q) : PR E d ne pc (l0 :: l1 :: l2 :: l3 :: l4 :: o :: t) (.int x :: st) M Q := px_istore (i := 5) hd hp (by simp only [List.length_cons]; omega) rfl k
theorem px_si_6 {l0 l1 l2 l3 l4 l5 o : Option Value} {t : List (Option Value)} {x : Int32} (hd : decode d.co pc = .ok (.istore 6, 2)) (hp : xnl l5 = true) (k : PR E d ne (pc + 2) (l0 :: l1 :: l2 :: l3 :: l4 :: l5 :: some (.int x) :: t) st M Q) : PR E d ne pc (l0 :: l1 :: l2 :: l3 :: l4 :: l5 :: o :: t) (.int x :: st) M Q := px_istore (i := 6) hd hp (by simp only [List.length_cons]; omega) rfl k
theorem px_si_7 {l0 l1 l2 l3 l4 l5 l6 o : Option Value} {t : List (Option Value)} {x : Int32} (hd : decode d.co pc = .ok (.istore 7, 2)) (hp : xnl l6 = true) (k : PR E d ne (pc + 2) (l0 :: l1 :: l2 :: l3 :: l4 :: l5 :: l6 :: some (.int x) :: t) st M Q) : PR E d ne pc (l0 :: l1 :: l2 :: l3 :: l4 :: l5 :: l6 :: o :: t) (.int x :: st) M Q := px_istore (i := 7) hd hp (by simp only [List.length_cons]; omega) rfl k
theorem px_si_8 {l0 l1 l2 l3 l4 l5 l6 l7 o : Option Value} {t : List (Option Value)} {x : Int32} (hd : decode d.co pc = .ok (.istore 8, 2)) (hp : xnl l7 = true) (k : PR E d ne (pc + 2) (l0 :: l1 :: l2 :: l3 :: l4 :: l5 :: l6 :: l7 :: some (.int x) :: t) st M Q) : PR E d ne pc (l0 :: l1 :: l2 :: l3 :: l4 :: l5 :: l6 :: l7 :: o :: t) (.int x :: st) M Q := px_istore (i := 8) hd hp (by simp only [List.length_cons]; omega) rfl k
theorem px_si_9 {l0 l1 l2 l3 l4 l5 l6 l7 l8 o : Option Value} {t : List (Option Value)} {x : Int32} (hd : decode d.co pc = .ok (.istore 9, 2)) (hp : xnl l8 = true) (k : PR E d ne (pc + 2) (l0 :: l1 :: l2 :: l3 :: l4 :: l5 :: l6 :: l7 :: l8 :: some (.int x) :: t) st M Q) : PR E d ne pc (l0 :: l1 :: l2 :: l3 :: l4 :: l5 :: l6 :: l7 :: l8 :: o :: t) (.int x :: st) M Q := px_istore (i := 9) hd hp (by simp only [List.length_cons]; omega) rfl k
theorem px_si_10 {l0 l1 l2 l3 l4 l5 l6 l7 l8 l9 o : Option Value} {t : List (Option Value)} {x : Int32} (hd : decode d.co pc = .ok (.istore 10, 2)) (hp : xnl l9 = true) (k : PR E d ne (pc + 2) (l0 :: l1 :: l2 :: l3 :: l4 :: l5 :: l6 :: l7 :: l8 :: l9 :: some (.int x) :: t) st M Q) : PR E d ne pc (l0 :: l1 :: l2 :: l3 :: l4 :: l5 :: l6 :: l7 :: l8 :: l9 :: o :: t) (.int x :: st) M Q := px_istore (i := 10) hd hp (by simp only [List.length_cons]; omega) rfl k
theorem px_sa_0 {o : Option Value} {t : List (Option Value)} {x : Nat} (hd : decode d.co pc = .ok (.astore_n 0, 1)) (k : PR E d ne (pc + 1) (some (.ref x) :: t) st M Q) : PR E d ne pc (o :: t) (.ref x :: st) M Q := px_astore_n (i := 0) hd rfl rfl (by simp only [List.length_cons]; omega) rfl k
theorem px_sa_1 {l0 o : Option Value} {t : List (Option Value)} {x : Nat} (hd : decode d.co pc = .ok (.astore_n 1, 1)) (hp : xnl l0 = true) (k : PR E d ne (pc + 1) (l0 :: some (.ref x) :: t) st M Q) : PR E d ne pc (l0 :: o :: t) (.ref x :: st) M Q := px_astore_n (i := 1) hd rfl hp (by simp only [List.length_cons]; omega) rfl k
theorem px_sa_2 {l0 l1 o : Option Value} {t : List (Option Value)} {x : Nat} (hd : decode d.co pc = .ok (.astore_n 2, 1)) (hp : xnl l1 = true) (k : PR E d ne (pc + 1) (l0 :: l1 :: some (.ref x) :: t) st M Q) : PR E d ne pc (l0 :: l1 :: o :: t) (.ref x :: st) M Q := px_astore_n (i := 2) hd rfl hp (by simp only [List.length_cons]; omega) rfl k
theorem px_sa_3 {l0 l1 l2 o : Option Value} {t : List (Option Value)} {x : Nat} (hd : decode d.co pc = .ok (.astore_n 3, 1)) (hp : xnl l2 = true) (k : PR E d ne (pc + 1) (l0 :: l1 :: l2 :: some (.ref x) :: t) st M Q) : PR E d ne pc (l0 :: l1 :: l2 :: o :: t) (.ref x :: st) M Q := px_astore_n (i := 3) hd rfl hp (by simp only [List.length_cons]; omega) rfl k
theorem px_sa_4 {l0 l1 l2 l3 o : Option Value} {t : List (Option Value)} {x : Nat} (hd : decode d.co pc = .ok (.astore 4, 2)) (hp : xnl l3 = true) (k : PR E d ne (pc + 2) (l0 :: l1 :: l2 :: l3 :: some (.ref x) :: t) st M Q) : PR E d ne pc (l0 :: l1 :: l2 :: l3 :: o :: t) (.ref x :: st) M Q := px_astore (i := 4) hd hp (by simp only [List.length_cons]; omega) rfl k
theorem px_sa_5 {l0 l1 l2 l3 l4 o : Option Value} {t : List (Option Value)} {x : Nat} (hd : decode d.co pc = .ok (.astore 5, 2)) (hp : xnl l4 = true) (k : PR E d ne (pc + 2) (l0 :: l1 :: l2 :: l3 :: l4 :: some (.ref x) :: t) st M Q) : PR E d ne pc (l0 :: l1 :: l2 :: l3 :: l4 :: o :: t) (.ref x :: st) M Q := px_astore (i := 5) hd hp (by simp only [List.length_cons]; omega) rfl k
theorem px_sa_6 {l0 l1 l2 l3 l4 l5 o : Option Value} {t : List (Option Value)} {x : Nat} (hd : decode d.co pc = .ok (.astore 6, 2)) (hp : xnl l5 = true) (k : PR E d ne (pc + 2) (l0 :: l1 :: l2 :: l3 :: l4 :: l5 :: some (.ref x) :: t) st M Q) : PR E d ne pc (l0 :: l1 :: l2 :: l3 :: l4 :: l5 :: o :: t) (.ref x :: st) M Q := px_astore (i := 6) hd hp (by simp only [List.length_cons]; omega) rfl k
theorem px_sa_7 {l0 l1 l2 l3 l4 l5 l6 o : Option Value} {t : List (Option Value)} {x : Nat} (hd : decode d.co pc = .ok (.astore 7, 2)) (hp : xnl l6 = true) (k : PR E d ne (pc + 2) (l0 :: l1 :: l2 :: l3 :: l4 :: l5 :: l6 :: some (.ref x) :: t) st M Q) : PR E d ne pc (l0 :: l1 :: l2 :: l3 :: l4 :: l5 :: l6 :: o :: t) (.ref x :: st) M Q := px_astore (i := 7) hd hp (by simp only [List.length_cons]; omega) rfl k
theorem px_sa_8 {l0 l1 l2 l3 l4 l5 l6 l7 o : Option Value} {t : List (Option Value)} {x : Nat} (hd : decode d.co pc = .ok (.astore 8, 2)) (hp : xnl l7 = true) (k : PR E d ne (pc + 2) (l0 :: l1 :: l2 :: l3 :: l4 :: l5 :: l6 :: l7 :: some (.ref x) :: t) st M Q) : PR E d ne pc (l0 :: l1 :: l2 :: l3 :: l4 :: l5 :: l6 :: l7 :: o :: t) (.ref x :: st) M Q := px_astore (i := 8) hd hp (by simp only [List.length_cons]; omega) rfl k
theorem px_sa_9 {l0 l1 l2 l3 l4 l5 l6 l7 l8 o : Option Value} {t : List (Option Value)} {x : Nat} (hd : decode d.co pc = .ok (.astore 9, 2)) (hp : xnl l8 = true) (k : PR E d ne (pc + 2) (l0 :: l1 :: l2 :: l3 :: l4 :: l5 :: l6 :: l7 :: l8 :: some (.ref x) :: t) st M Q) : PR E d ne pc (l0 :: l1 :: l2 :: l3 :: l4 :: l5 :: l6 :: l7 :: l8 :: o :: t) (.ref x :: st) M Q := px_astore (i := 9) hd hp (by simp only [List.length_cons]; omega) rfl k
theorem px_sa_10 {l0 l1 l2 l3 l4 l5 l6 l7 l8 l9 o : Option Value} {t : List (Option Value)} {x : Nat} (hd : decode d.co pc = .ok (.astore 10, 2)) (hp : xnl l9 = true) (k : PR E d ne (pc + 2) (l0 :: l1 :: l2 :: l3 :: l4 :: l5 :: l6 :: l7 :: l8 :: l9 :: some (.ref x) :: t) st M Q) : PR E d ne pc (l0 :: l1 :: l2 :: l3 :: l4 :: l5 :: l6 :: l7 :: l8 :: l9 :: o :: t) (.ref x :: st) M Q := px_astore (i := 10) hd hp (by simp only [List.length_cons]; omega) rfl k
theorem px_sl_0 {o o2 : Option Value} {t : List (Option Value)} {x : Int64} (hd : decode d.co pc = .ok (.lstore_n 0, 1)) (k : PR E d ne (pc + 1) (some (.long x) :: none :: t) st M Q) : PR E d ne pc (o :: o2 :: t) (.long x :: st) M Q := px_lstore_n (i := 0) hd rfl rfl (by simp only [List.length_cons]; omega) rfl k
theorem px_sl_1 {l0 o o2 : Option Value} {t : List (Option Value)} {x : Int64} (hd : decode d.co pc = .ok (.lstore_n 1, 1)) (hp : xnl l0 = true) (k : PR E d ne (pc + 1) (l0 :: some (.long x) :: none :: t) st M Q) : PR E d ne pc (l0 :: o :: o2 :: t) (.long x :: st) M Q := px_lstore_n (i := 1) hd rfl hp (by simp only [List.length_cons]; omega) rfl k
theorem px_sl_2 {l0 l1 o o2 : Option Value} {t : List (Option Value)} {x : Int64} (hd : decode d.co pc = .ok (.lstore_n 2, 1)) (hp : xnl l1 = true) (k : PR E d ne (pc + 1) (l0 :: l1 :: some (.long x) :: none :: t) st M Q) : PR E d ne pc (l0 :: l1 :: o :: o2 :: t) (.long x :: st) M Q := px_lstore_n (i := 2) hd rfl hp (by simp only [List.length_cons]; omega) rfl k
theorem px_sl_3 {l0 l1 l2 o o2 : Option Value} {t : List (Option Value)} {x : Int64} (hd : decode d.co pc = .ok (.lstore_n 3, 1)) (hp : xnl l2 = true) (k : PR E d ne (pc + 1) (l0 :: l1 :: l2 :: some (.long x) :: none :: t) st M Q) : PR E d ne pc (l0 :: l1 :: l2 :: o :: o2 :: t) (.long x :: st) M Q := px_lstore_n (i := 3) hd rfl hp (by simp only [List.length_cons]; omega) rfl k
theorem px_sl_4 {l0 l1 l2 l3 o o2 : Option Value} {t : List (Option Value)} {x : Int64} (hd : decode d.co pc = .ok (.lstore 4, 2)) (hp : xnl l3 = true) (k : PR E d ne (pc + 2) (l0 :: l1 :: l2 :: l3 :: some (.long x) :: none :: t) st M Q) : PR E d ne pc (l0 :: l1 :: l2 :: l3 :: o :: o2 :: t) (.long x :: st) M Q := px_lstore (i := 4) hd hp (by simp only [List.length_cons]; omega) rfl k
theorem px_sl_5 {l0 l1 l2 l3 l4 o o2 : Option Value} {t : List (Option Value)} {x : Int64} (hd : decode d.co pc = .ok (.lstore 5, 2)) (hp : xnl l4 = true) (k : PR E d ne (pc + 2) (l0 :: l1 :: l2 :: l3 :: l4 :: some (.long x) :: none :: t) st M Q) : PR E d ne pc (l0 :: l1 :: l2 :: l3 :: l4 :: o :: o2 :: t) (.long x :: st) M Q := px_lstore (i := 5) hd hp (by simp only [List.length_cons]; omega) rfl k
theorem px_sl_6 {l0 l1 l2 l3 l4 l5 o o2 : Option Value} {t : List (Option Value)} {x : Int64} (hd : decode d.co pc = .ok (.lstore 6, 2)) (hp : xnl l5 = true) (k : PR E d ne (pc + 2) (l0 :: l1 :: l2 :: l3 :: l4 :: l5 :: some (.long x) :: none :: t) st M Q) : PR E d ne pc (l0 :: l1 :: l2 :: l3 :: l4 :: l5 :: o :: o2 :: t) (.long x :: st) M Q := px_lstore (i := 6) hd hp (by simp only [List.length_cons]; omega) rfl k
theorem px_sl_7 {l0 l1 l2 l3 l4 l5 l6 o o2 : Option Value} {t : List (Option Value)} {x : Int64} (hd : decode d.co pc = .ok (.lstore 7, 2)) (hp : xnl l6 = true) (k : PR E d ne (pc + 2) (l0 :: l1 :: l2 :: l3 :: l4 :: l5 :: l6 :: some (.long x) :: none :: t) st M Q) : PR E d ne pc (l0 :: l1 :: l2 :: l3 :: l4 :: l5 :: l6 :: o :: o2 :: t) (.long x :: st) M Q := px_lstore (i := 7) hd hp (by simp only [List.length_cons]; omega) rfl k
theorem px_sl_8 {l0 l1 l2 l3 l4 l5 l6 l7 o o2 : Option Value} {t : List (Option Value)} {x : Int64} (hd : decode d.co pc = .ok (.lstore 8, 2)) (hp : xnl l7 = true) (k : PR E d ne (pc + 2) (l0 :: l1 :: l2 :: l3 :: l4 :: l5 :: l6 :: l7 :: some (.long x) :: none :: t) st M Q) : PR E d ne pc (l0 :: l1 :: l2 :: l3 :: l4 :: l5 :: l6 :: l7 :: o :: o2 :: t) (.long x :: st) M Q := px_lstore (i := 8) hd hp (by simp only [List.length_cons]; omega) rfl k
theorem px_sl_9 {l0 l1 l2 l3 l4 l5 l6 l7 l8 o o2 : Option Value} {t : List (Option Value)} {x : Int64} (hd : decode d.co pc = .ok (.lstore 9, 2)) (hp : xnl l8 = true) (k : PR E d ne (pc + 2) (l0 :: l1 :: l2 :: l3 :: l4 :: l5 :: l6 :: l7 :: l8 :: some (.long x) :: none :: t) st M Q) : PR E d ne pc (l0 :: l1 :: l2 :: l3 :: l4 :: l5 :: l6 :: l7 :: l8 :: o :: o2 :: t) (.long x :: st) M Q := px_lstore (i := 9) hd hp (by simp only [List.length_cons]; omega) rfl k
theorem px_sl_10 {l0 l1 l2 l3 l4 l5 l6 l7 l8 l9 o o2 : Option Value} {t : List (Option Value)} {x : Int64} (hd : decode d.co pc = .ok (.lstore 10, 2)) (hp : xnl l9 = true) (k : PR E d ne (pc + 2) (l0 :: l1 :: l2 :: l3 :: l4 :: l5 :: l6 :: l7 :: l8 :: l9 :: some (.long x) :: none :: t) st M Q) : PR E d ne pc (l0 :: l1 :: l2 :: l3 :: l4 :: l5 :: l6 :: l7 :: l8 :: l9 :: o :: o2 :: t) (.long x :: st) M Q := px_lstore (i := 10) hd hp (by simp only [List.length_cons]; omega) rfl k
theorem px_inc_0 {t : List (Option Value)} {n : Int} {x c : Int32} (hd : decode d.co pc = .ok (.iinc 0 n, 3)) (hc : Int32.ofInt n = c) (k : PR E d ne (pc + 3) (some (.int (x + c)) :: t) st M Q) : PR E d ne pc (some (.int x) :: t) st M Q := px_iinc (i := 0) hd rfl (by rw [hc]) rfl rfl k
theorem px_inc_1 {l0 : Option Value} {t : List (Option Value)} {n : Int} {x c : Int32} (hd : decode d.co pc = .ok (.iinc 1 n, 3)) (hp : xnl l0 = true) (hc : Int32.ofInt n = c) (k : PR E d ne (pc + 3) (l0 :: some (.int (x + c)) :: t) st M Q) : PR E d ne pc (l0 :: some (.int x) :: t) st M Q := px_iinc (i := 1) hd rfl (by rw [hc]) hp rfl k
theorem px_inc_2 {l0 l1 : Option Value} {t : List (Option Value)} {n : Int} {x c : Int32} (hd : decode d.co pc = .ok (.iinc 2 n, 3)) (hp : xnl l1 = true) (hc : Int32.ofInt n = c) (k : PR E d ne (pc + 3) (l0 :: l1 :: some (.int (x + c)) :: t) st M Q) : PR E d ne pc (l0 :: l1 :: some (.int x) :: t) st M Q := px_iinc (i := 2) hd rfl (by rw [hc]) hp rfl k
theorem px_inc_3 {l0 l1 l2 : Option Value} {t : List (Option Value)} {n : Int} {x c : Int32} (hd : decode d.co pc = .ok (.iinc 3 n, 3)) (hp : xnl l2 = true) (hc : Int32.ofInt n = c) (k : PR E d ne (pc + 3) (l0 :: l1 :: l2 :: some (.int (x + c)) :: t) st M Q) : PR E d ne pc (l0 :: l1 :: l2 :: some (.int x) :: t) st M Q := px_iinc (i := 3) hd rfl (by rw [hc]) hp rfl k
theorem px_inc_4 {l0 l1 l2 l3 : Option Value} {t : List (Option Value)} {n : Int} {x c : Int32} (hd : decode d.co pc = .ok (.iinc 4 n, 3)) (hp : xnl l3 = true) (hc : Int32.ofInt n = c) (k : PR E d ne (pc + 3) (l0 :: l1 :: l2 :: l3 :: some (.int (x + c)) :: t) st M Q) : PR E d ne pc (l0 :: l1 :: l2 :: l3 :: some (.int x) :: t) st M Q := px_iinc (i := 4) hd rfl (by rw [hc]) hp rfl k
theorem px_inc_5 {l0 l1 l2 l3 l4 : Option Value} {t : List (Option Value)} {n : Int} {x c : Int32} (hd : decode d.co pc = .ok (.iinc 5 n, 3)) (hp : xnl l4 = true) (hc : Int32.ofInt n = c) (k : PR E d ne (pc + 3) (l0 :: l1 :: l2 :: l3 :: l4 :: some (.int (x + c)) :: t) st M Q) : PR E d ne pc (l0 :: l1 :: l2 :: l3 :: l4 :: some (.int x) :: t) st M Q := px_iinc (i := 5) hd rfl (by rw [hc]) hp rfl k
theorem px_inc_6 {l0 l1 l2 l3 l4 l5 : Option Value} {t : List (Option Value)} {n : Int} {x c : Int32} (hd : decode d.co pc = .ok (.iinc 6 n, 3)) (hp : xnl l5 = true) (hc : Int32.ofInt n = c) (k : PR E d ne (pc + 3) (l0 :: l1 :: l2 :: l3 :: l4 :: l5 :: some (.int (x + c)) :: t) st M Q) : PR E d ne pc (l0 :: l1 :: l2 :: l3 :: l4 :: l5 :: some (.int x) :: t) st M Q := px_iinc (i := 6) hd rfl (by rw [hc]) hp rfl k
theorem px_inc_7 {l0 l1 l2 l3 l4 l5 l6 : Option Value} {t : List (Option Value)} {n : Int} {x c : Int32} (hd : decode d.co pc = .ok (.iinc 7 n, 3)) (hp : xnl l6 = true) (hc : Int32.ofInt n = c) (k : PR E d ne (pc + 3) (l0 :: l1 :: l2 :: l3 :: l4 :: l5 :: l6 :: some (.int (x + c)) :: t) st M Q) : PR E d ne pc (l0 :: l1 :: l2 :: l3 :: l4 :: l5 :: l6 :: some (.int x) :: t) st M Q := px_iinc (i := 7) hd rfl (by rw [hc]) hp rfl k
theorem px_inc_8 {l0 l1 l2 l3 l4 l5 l6 l7 : Option Value} {t : List (Option Value)} {n : Int} {x c : Int32} (hd : decode d.co pc = .ok (.iinc 8 n, 3)) (hp : xnl l7 = true) (hc : Int32.ofInt n = c) (k : PR E d ne (pc + 3) (l0 :: l1 :: l2 :: l3 :: l4 :: l5 :: l6 :: l7 :: some (.int (x + c)) :: t) st M Q) : PR E d ne pc (l0 :: l1 :: l2 :: l3 :: l4 :: l5 :: l6 :: l7 :: some (.int x) :: t) st M Q := px_iinc (i := 8) hd rfl (by rw [hc]) hp rfl k
theorem px_inc_9 {l0 l1 l2 l3 l4 l5 l6 l7 l8 : Option Value} {t : List (Option Value)} {n : Int} {x c : Int32} (hd : decode d.co pc = .ok (.iinc 9 n, 3)) (hp : xnl l8 = true) (hc : Int32.ofInt n = c) (k : PR E d ne (pc + 3) (l0 :: l1 :: l2 :: l3 :: l4 :: l5 :: l6 :: l7 :: l8 :: some (.int (x + c)) :: t) st M Q) : PR E d ne pc (l0 :: l1 :: l2 :: l3 :: l4 :: l5 :: l6 :: l7 :: l8 :: some (.int x) :: t) st M Q := px_iinc (i := 9) hd rfl (by rw [hc]) hp rfl k
theorem px_inc_10 {l0 l1 l2 l3 l4 l5 l6 l7 l8 l9 : Option Value} {t : List (Option Value)} {n : Int} {x c : Int32} (hd : decode d.co pc = .ok (.iinc 10 n, 3)) (hp : xnl l9 = true) (hc : Int32.ofInt n = c) (k : PR E d ne (pc + 3) (l0 :: l1 :: l2 :: l3 :: l4 :: l5 :: l6 :: l7 :: l8 :: l9 :: some (.int (x + c)) :: t) st M Q) : PR E d ne pc (l0 :: l1 :: l2 :: l3 :: l4 :: l5 :: l6 :: l7 :: l8 :: l9 :: some (.int x) :: t) st M Q := px_iinc (i := 10) hd rfl (by rw [hc]) hp rfl k
end PAT
theorem ic_m1 : Int32.ofInt (-1) = (-1) := by decide
theorem ic_0 : Int32.ofInt (0) = 0 := by decide
theorem ic_1 : Int32.ofInt (1) = 1 := by decide
theorem ic_2 : Int32.ofInt (2) = 2 := by decide
theorem ic_3 : Int32.ofInt (3) = 3 := by decide
theorem ic_4 : Int32.ofInt (4) = 4 := by decide
theorem ic_5 : Int32.ofInt (5) = 5 := by decide
theorem bp_m9 : (Int8.ofInt (-9)).toInt32 = (-9) := by decide
theorem bp_m8 : (Int8.ofInt (-8)).toInt32 = (-8) := by decide
theorem bp_m7 : (Int8.ofInt (-7)).toInt32 = (-7) := by decide
theorem bp_m6 : (Int8.ofInt (-6)).toInt32 = (-6) := by decide
theorem bp_m5 : (Int8.ofInt (-5)).toInt32 = (-5) := by decide
theorem bp_m4 : (Int8.ofInt (-4)).toInt32 = (-4) := by decide
theorem bp_m3 : (Int8.ofInt (-3)).toInt32 = (-3) := by decide
theorem bp_m2 : (Int8.ofInt (-2)).toInt32 = (-2) := by decide
theorem bp_m1 : (Int8.ofInt (-1)).toInt32 = (-1) := by decide
theorem bp_0 : (Int8.ofInt (0)).toInt32 = 0 := by decide
theorem bp_1 : (Int8.ofInt (1)).toInt32 = 1 := by decide
theorem bp_2 : (Int8.ofInt (2)).toInt32 = 2 := by decide
theorem bp_3 : (Int8.ofInt (3)).toInt32 = 3 := by decide
theorem bp_4 : (Int8.ofInt (4)).toInt32 = 4 := by decide
theorem bp_5 : (Int8.ofInt (5)).toInt32 = 5 := by decide
theorem bp_6 : (Int8.ofInt (6)).toInt32 = 6 := by decide
theorem bp_7 : (Int8.ofInt (7)).toInt32 = 7 := by decide
theorem bp_8 : (Int8.ofInt (8)).toInt32 = 8 := by decide
theorem bp_9 : (Int8.ofInt (9)).toInt32 = 9 := by decide
theorem bp_10 : (Int8.ofInt (10)).toInt32 = 10 := by decide
theorem bp_11 : (Int8.ofInt (11)).toInt32 = 11 := by decide
theorem bp_12 : (Int8.ofInt (12)).toInt32 = 12 := by decide
theorem bp_13 : (Int8.ofInt (13)).toInt32 = 13 := by decide
theorem bp_14 : (Int8.ofInt (14)).toInt32 = 14 := by decide
theorem bp_15 : (Int8.ofInt (15)).toInt32 = 15 := by decide
theorem bp_16 : (Int8.ofInt (16)).toInt32 = 16 := by decide
theorem bp_17 : (Int8.ofInt (17)).toInt32 = 17 := by decide
theorem bp_18 : (Int8.ofInt (18)).toInt32 = 18 := by decide
theorem bp_19 : (Int8.ofInt (19)).toInt32 = 19 := by decide
theorem bp_20 : (Int8.ofInt (20)).toInt32 = 20 := by decide
theorem bp_21 : (Int8.ofInt (21)).toInt32 = 21 := by decide
theorem bp_22 : (Int8.ofInt (22)).toInt32 = 22 := by decide
theorem bp_23 : (Int8.ofInt (23)).toInt32 = 23 := by decide
theorem bp_24 : (Int8.ofInt (24)).toInt32 = 24 := by decide
theorem bp_25 : (Int8.ofInt (25)).toInt32 = 25 := by decide
theorem bp_26 : (Int8.ofInt (26)).toInt32 = 26 := by decide
theorem bp_27 : (Int8.ofInt (27)).toInt32 = 27 := by decide
theorem bp_28 : (Int8.ofInt (28)).toInt32 = 28 := by decide
theorem bp_29 : (Int8.ofInt (29)).toInt32 = 29 := by decide
theorem bp_30 : (Int8.ofInt (30)).toInt32 = 30 := by decide
theorem bp_31 : (Int8.ofInt (31)).toInt32 = 31 := by decide
theorem bp_32 : (Int8.ofInt (32)).toInt32 = 32 := by decide
theorem bp_33 : (Int8.ofInt (33)).toInt32 = 33 := by decide
theorem bp_34 : (Int8.ofInt (34)).toInt32 = 34 := by decide
theorem bp_35 : (Int8.ofInt (35)).toInt32 = 35 := by decide
theorem bp_36 : (Int8.ofInt (36)).toInt32 = 36 := by decide
theorem bp_37 : (Int8.ofInt (37)).toInt32 = 37 := by decide
theorem bp_38 : (Int8.ofInt (38)).toInt32 = 38 := by decide
theorem bp_39 : (Int8.ofInt (39)).toInt32 = 39 := by decide
theorem bp_40 : (Int8.ofInt (40)).toInt32 = 40 := by decide
theorem bp_41 : (Int8.ofInt (41)).toInt32 = 41 := by decide
theorem bp_42 : (Int8.ofInt (42)).toInt32 = 42 := by decide
theorem bp_43 : (Int8.ofInt (43)).toInt32 = 43 := by decide
theorem bp_44 : (Int8.ofInt (44)).toInt32 = 44 := by decide
theorem bp_45 : (Int8.ofInt (45)).toInt32 = 45 := by decide
theorem bp_46 : (Int8.ofInt (46)).toInt32 = 46 := by decide
theorem bp_47 : (Int8.ofInt (47)).toInt32 = 47 := by decide
theorem bp_48 : (Int8.ofInt (48)).toInt32 = 48 := by decide
theorem bp_49 : (Int8.ofInt (49)).toInt32 = 49 := by decide
theorem bp_50 : (Int8.ofInt (50)).toInt32 = 50 := by decide
theorem bp_51 : (Int8.ofInt (51)).toInt32 = 51 := by decide
theorem bp_52 : (Int8.ofInt (52)).toInt32 = 52 := by decide
theorem bp_53 : (Int8.ofInt (53)).toInt32 = 53 := by decide
theorem bp_54 : (Int8.ofInt (54)).toInt32 = 54 := by decide
theorem bp_55 : (Int8.ofInt (55)).toInt32 = 55 := by decide
theorem bp_56 : (Int8.ofInt (56)).toInt32 = 56 := by decide
theorem bp_57 : (Int8.ofInt (57)).toInt32 = 57 := by decide
theorem bp_58 : (Int8.ofInt (58)).toInt32 = 58 := by decide
theorem bp_59 : (Int8.ofInt (59)).toInt32 = 59 := by decide
theorem bp_60 : (Int8.ofInt (60)).toInt32 = 60 := by decide
theorem bp_61 : (Int8.ofInt (61)).toInt32 = 61 := by decide
theorem bp_62 : (Int8.ofInt (62)).toInt32 = 62 := by decide
theorem bp_63 : (Int8.ofInt (63)).toInt32 = 63 := by decide
theorem bp_64 : (Int8.ofInt (64)).toInt32 = 64 := by decide
theorem bp_65 : (Int8.ofInt (65)).toInt32 = 65 := by decide
theorem bp_66 : (Int8.ofInt (66)).toInt32 = 66 := by decide
theorem bp_67 : (Int8.ofInt (67)).toInt32 = 67 := by decide
theorem bp_68 : (Int8.ofInt (68)).toInt32 = 68 := by decide
theorem bp_69 : (Int8.ofInt (69)).toInt32 = 69 := by decide
theorem bp_70 : (Int8.ofInt (70)).toInt32 = 70 := by decide
theorem bp_71 : (Int8.ofInt (71)).toInt32 = 71 := by decide
theorem bp_72 : (Int8.ofInt (72)).toInt32 = 72 := by decide
theorem bp_73 : (Int8.ofInt (73)).toInt32 = 73 := by decide
theorem bp_74 : (Int8.ofInt (74)).toInt32 = 74 := by decide
theorem bp_75 : (Int8.ofInt (75)).toInt32 = 75 := by decide
theorem bp_76 : (Int8.ofInt (76)).toInt32 = 76 := by decide
theorem bp_77 : (Int8.ofInt (77)).toInt32 = 77 := by decide
theorem bp_78 : (Int8.ofInt (78)).toInt32 = 78 := by decide
theorem bp_79 : (Int8.ofInt (79)).toInt32 = 79 := by decide
theorem bp_80 : (Int8.ofInt (80)).toInt32 = 80 := by decide
theorem bp_81 : (Int8.ofInt (81)).toInt32 = 81 := by decide
theorem bp_82 : (Int8.ofInt (82)).toInt32 = 82 := by decide
theorem bp_83 : (Int8.ofInt (83)).toInt32 = 83 := by decide
theorem bp_84 : (Int8.ofInt (84)).toInt32 = 84 := by decide
theorem bp_85 : (Int8.ofInt (85)).toInt32 = 85 := by decide
theorem bp_86 : (Int8.ofInt (86)).toInt32 = 86 := by decide
theorem bp_87 : (Int8.ofInt (87)).toInt32 = 87 := by decide
theorem bp_88 : (Int8.ofInt (88)).toInt32 = 88 := by decide
theorem bp_89 : (Int8.ofInt (89)).toInt32 = 89 := by decide
theorem bp_90 : (Int8.ofInt (90)).toInt32 = 90 := by decide
theorem bp_91 : (Int8.ofInt (91)).toInt32 = 91 := by decide
theorem bp_92 : (Int8.ofInt (92)).toInt32 = 92 := by decide
theorem bp_93 : (Int8.ofInt (93)).toInt32 = 93 := by decide
theorem bp_94 : (Int8.ofInt (94)).toInt32 = 94 := by decide
theorem bp_95 : (Int8.ofInt (95)).toInt32 = 95 := by decide
theorem bp_96 : (Int8.ofInt (96)).toInt32 = 96 := by decide
theorem bp_97 : (Int8.ofInt (97)).toInt32 = 97 := by decide
theorem bp_98 : (Int8.ofInt (98)).toInt32 = 98 := by decide
theorem bp_99 : (Int8.ofInt (99)).toInt32 = 99 := by decide
theorem bp_100 : (Int8.ofInt (100)).toInt32 = 100 := by decide
theorem bp_101 : (Int8.ofInt (101)).toInt32 = 101 := by decide
theorem bp_102 : (Int8.ofInt (102)).toInt32 = 102 := by decide
theorem bp_103 : (Int8.ofInt (103)).toInt32 = 103 := by decide
theorem bp_104 : (Int8.ofInt (104)).toInt32 = 104 := by decide
theorem bp_105 : (Int8.ofInt (105)).toInt32 = 105 := by decide
theorem bp_106 : (Int8.ofInt (106)).toInt32 = 106 := by decide
theorem bp_107 : (Int8.ofInt (107)).toInt32 = 107 := by decide
theorem bp_108 : (Int8.ofInt (108)).toInt32 = 108 := by decide
theorem bp_109 : (Int8.ofInt (109)).toInt32 = 109 := by decide
theorem bp_110 : (Int8.ofInt (110)).toInt32 = 110 := by decide
theorem bp_111 : (Int8.ofInt (111)).toInt32 = 111 := by decide
theorem bp_112 : (Int8.ofInt (112)).toInt32 = 112 := by decide
theorem bp_113 : (Int8.ofInt (113)).toInt32 = 113 := by decide
theorem bp_114 : (Int8.ofInt (114)).toInt32 = 114 := by decide
theorem bp_115 : (Int8.ofInt (115)).toInt32 = 115 := by decide
theorem bp_116 : (Int8.ofInt (116)).toInt32 = 116 := by decide
theorem bp_117 : (Int8.ofInt (117)).toInt32 = 117 := by decide
theorem bp_118 : (Int8.ofInt (118)).toInt32 = 118 := by decide
theorem bp_119 : (Int8.ofInt (119)).toInt32 = 119 := by decide
theorem bp_120 : (Int8.ofInt (120)).toInt32 = 120 := by decide
theorem bp_121 : (Int8.ofInt (121)).toInt32 = 121 := by decide
theorem bp_122 : (Int8.ofInt (122)).toInt32 = 122 := by decide
theorem bp_123 : (Int8.ofInt (123)).toInt32 = 123 := by decide
theorem bp_124 : (Int8.ofInt (124)).toInt32 = 124 := by decide
theorem bp_125 : (Int8.ofInt (125)).toInt32 = 125 := by decide
theorem bp_126 : (Int8.ofInt (126)).toInt32 = 126 := by decide
theorem bp_127 : (Int8.ofInt (127)).toInt32 = 127 := by decide
theorem sp_240 : (Int16.ofInt (240)).toInt32 = 240 := by decide
theorem sp_256 : (Int16.ofInt (256)).toInt32 = 256 := by decide
theorem sp_257 : (Int16.ofInt (257)).toInt32 = 257 := by decide
theorem sp_360 : (Int16.ofInt (360)).toInt32 = 360 := by decide
theorem sp_480 : (Int16.ofInt (480)).toInt32 = 480 := by decide
theorem sp_512 : (Int16.ofInt (512)).toInt32 = 512 := by decide
theorem sp_729 : (Int16.ofInt (729)).toInt32 = 729 := by decide
theorem sp_1000 : (Int16.ofInt (1000)).toInt32 = 1000 := by decide
theorem sp_1024 : (Int16.ofInt (1024)).toInt32 = 1024 := by decide
theorem sp_1320 : (Int16.ofInt (1320)).toInt32 = 1320 := by decide
theorem sp_1353 : (Int16.ofInt (1353)).toInt32 = 1353 := by decide
theorem sp_4059 : (Int16.ofInt (4059)).toInt32 = 4059 := by decide
theorem sp_4096 : (Int16.ofInt (4096)).toInt32 = 4096 := by decide
theorem sp_10000 : (Int16.ofInt (10000)).toInt32 = 10000 := by decide
