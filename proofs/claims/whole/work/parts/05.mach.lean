/-! ===== THE WRAPPER: one abstract memory for all cells of the class, the reference and the script; PR: the machine from a frame on, over that memory ===== -/
abbrev xMem : Type := (Nat → Nat → Int32) × (Nat → Nat → Nat) × (Nat → Nat → Int64) × Nat
abbrev xI (M : xMem) (a j : Nat) : Int32 := M.1 a j
abbrev xR (M : xMem) (a j : Nat) : Nat := M.2.1 a j
abbrev xL (M : xMem) (a j : Nat) : Int64 := M.2.2.1 a j
abbrev xN (M : xMem) : Nat := M.2.2.2
def wI (M : xMem) (a j : Nat) (v : Int32) : xMem := (fun b k => if b = a ∧ k = j then v else M.1 b k, M.2)
def wR (M : xMem) (a j : Nat) (v : Nat) : xMem := (M.1, fun b k => if b = a ∧ k = j then v else M.2.1 b k, M.2.2)
def wL (M : xMem) (a j : Nat) (v : Int64) : xMem := (M.1, M.2.1, fun b k => if b = a ∧ k = j then v else M.2.2.1 b k, M.2.2.2)
/-- a whole row of ints anew -/
def wF (M : xMem) (a : Nat) (f : Nat → Int32) : xMem := (fun b => if b = a then f else M.1 b, M.2)
/-- a cell more, all 0 -/
def wN (M : xMem) : xMem := (fun b => if b = M.2.2.2 + 1 then (fun _ => 0) else M.1 b, fun b => if b = M.2.2.2 + 1 then (fun _ => 0) else M.2.1 b, fun b => if b = M.2.2.2 + 1 then (fun _ => 0) else M.2.2.1 b, M.2.2.2 + 1)
theorem xI_wI (M : xMem) (a j b k : Nat) (v : Int32) : (wI M a j v).1 b k = if b = a ∧ k = j then v else M.1 b k := rfl
theorem xR_wI (M : xMem) (a j : Nat) (v : Int32) : (wI M a j v).2 = M.2 := rfl
theorem xI_wR (M : xMem) (a j : Nat) (v : Nat) : (wR M a j v).1 = M.1 := rfl
theorem xR_wR (M : xMem) (a j b k : Nat) (v : Nat) : (wR M a j v).2.1 b k = if b = a ∧ k = j then v else M.2.1 b k := rfl
theorem xL_wR (M : xMem) (a j : Nat) (v : Nat) : (wR M a j v).2.2 = M.2.2 := rfl
theorem xI_wL (M : xMem) (a j : Nat) (v : Int64) : (wL M a j v).1 = M.1 := rfl
theorem xR_wL (M : xMem) (a j : Nat) (v : Int64) : (wL M a j v).2.1 = M.2.1 := rfl
theorem xL_wL (M : xMem) (a j b k : Nat) (v : Int64) : (wL M a j v).2.2.1 b k = if b = a ∧ k = j then v else M.2.2.1 b k := rfl
theorem xN_wL (M : xMem) (a j : Nat) (v : Int64) : (wL M a j v).2.2.2 = M.2.2.2 := rfl
theorem xI_wF (M : xMem) (a b : Nat) (f : Nat → Int32) : (wF M a f).1 b = if b = a then f else M.1 b := rfl
theorem xR_wF (M : xMem) (a : Nat) (f : Nat → Int32) : (wF M a f).2 = M.2 := rfl
/-- the kinds of the cells, by their order of birth: a class (< 20), or an array (20 int, 21 byte, 22 boolean, 23 Row, 24 Text, 25 Story, 26 Frame) and its length; 0 is the script -/
def xKL : List (Nat × Nat) := [(20, 0), (10, 0), (23, 6), (24, 4), (25, 3), (22, 3), (8, 0), (1, 0), (20, 8), (20, 360), (3, 0), (7, 0), (26, 8), (0, 0), (0, 0), (0, 0), (0, 0), (0, 0), (0, 0), (0, 0), (0, 0), (21, 0), (6, 0), (21, 120), (2, 0), (4, 0), (20, 16), (20, 729), (20, 8), (1, 0), (20, 8), (20, 6), (7, 0), (26, 8), (0, 0), (0, 0), (0, 0), (0, 0), (0, 0), (0, 0), (0, 0), (0, 0), (5, 0), (20, 40), (5, 0), (20, 40), (5, 0), (20, 40), (5, 0), (20, 40), (5, 0), (20, 40), (5, 0), (20, 40), (9, 0), (21, 120), (9, 0), (21, 120), (9, 0), (21, 120), (9, 0), (21, 120), (8, 0), (1, 0), (20, 8), (20, 360), (8, 0), (1, 0), (20, 8), (20, 360), (8, 0), (1, 0), (20, 8), (20, 360), (11, 0), (20, 6), (20, 6), (20, 240), (20, 40), (20, 4), (21, 480), (20, 56), (20, 56), (20, 33), (21, 120), (20, 256), (20, 4096), (20, 4096), (20, 4096), (20, 4096), (20, 1320), (20, 3), (20, 4059), (20, 33)]
def xK (a : Nat) : Nat × Nat := xKL.getD a (99, 0)
abbrev xNT : Nat := 93
/-- the slots that the first n cells take -/
def xSlots (a : Nat) : Nat := let k := xK a; if k.1 < 20 then (match vwCl[k.1]? with | some q => q.2.2 | none => 0) else k.2
def xSZ : Nat → Nat
  | 0 => 0
  | n + 1 => xSZ n + xSlots (n + 1)
/-- a field's sort: 0 int, 1 reference, 2 long -/
def xFT : List (List Nat) := [[0, 0, 0, 0, 0, 0, 0, 0, 0, 0, 0, 0], [1, 0], [1, 1], [1, 1, 0, 0, 0, 0, 0, 0], [1, 1, 0, 0, 0], [1, 0], [1, 0], [1, 0, 0, 0, 0], [1, 1, 0], [1, 0], [1, 1, 1, 1, 1, 1, 1, 1, 1, 1, 1, 0, 0], [0, 0, 1, 1, 1, 1, 1, 1, 0, 0, 0, 0, 1, 0, 0, 0, 0, 0, 0, 0, 0, 0, 1, 1, 0, 1, 1, 0, 1, 1, 1, 1, 0, 0, 0, 0, 0, 1, 1, 1, 1, 0, 0, 0, 2]]
def xft (c j : Nat) : Nat := (xFT.getD c []).getD j 0
/-- the surroundings: launch, class numbers and slots, array classes, the first new cell, the script's cell, its length, its ints, the string constants' cells and their bytes' -/
abbrev xE : Type := Launch × va_G × (Nat → ClassId) × Nat × Nat × Nat × (Nat → Int32) × (Nat → Nat) × (Nat → Nat)
abbrev xE.l (E : xE) : Launch := E.1
abbrev xE.D (E : xE) : va_G := E.2.1
abbrev xE.cA (E : xE) : Nat → ClassId := E.2.2.1
abbrev xE.base (E : xE) : Nat := E.2.2.2.1
abbrev xE.b (E : xE) : Nat := E.2.2.2.2.1
abbrev xE.L (E : xE) : Nat := E.2.2.2.2.2.1
abbrev xE.xs (E : xE) : Nat → Int32 := E.2.2.2.2.2.2.1
abbrev xE.sk (E : xE) : Nat → Nat := E.2.2.2.2.2.2.2.1
abbrev xE.sv (E : xE) : Nat → Nat := E.2.2.2.2.2.2.2.2
def ad (E : xE) (a : Nat) : Nat := if a = 0 then E.b else if a < 1000 then E.base + (a - 1) else E.sk (a - 1000)
def cv (E : xE) : Value → Value
  | .ref a => .ref (ad E a)
  | v => v
theorem cv_cat (E : xE) (v : Value) : (cv E v).category = v.category := by cases v <;> rfl
theorem cv_sum (E : xE) (l : List Value) : ((l.map (cv E)).map fun v => v.category).sum = (l.map fun v => v.category).sum := by
  rw [List.map_map]; congr 1; exact List.map_congr_left fun v _ => cv_cat E v
def xrf (E : xE) (r : Nat) : Option Nat := if r = 0 then none else some (ad E r)
def xfv (E : xE) (M : xMem) (a c j : Nat) : Value := if xft c j = 0 then .int (M.1 a j) else if xft c j = 1 then va_rf (xrf E (M.2.1 a j)) else .long (M.2.2.1 a j)
def xnf (c : Nat) : Nat := (xFT.getD c []).length
def ent (E : xE) (M : xMem) (a : Nat) : va_E :=
  if (xK a).1 < 20 then .inr ((xK a).1, (List.range (xnf (xK a).1)).map (fun j => xfv E M a (xK a).1 j))
  else if (xK a).1 < 23 then .inl (E.cA (xK a).1, (xK a).2, .inl (fun j => M.1 a j))
  else .inl (E.cA (xK a).1, (xK a).2, .inr (.inr (.inr (.inr (fun j => xrf E (M.2.1 a j))))))
def wsOf (E : xE) (M : xMem) : va_W := (List.range (xN M)).map (fun i => (E.base + i, ent E M (i + 1)))
def xA (E : xE) : Nat → Prop := fun q => E.base ≤ q
theorem ws_at (E : xE) (M : xMem) {a : Nat} (h1 : 1 ≤ a) (h2 : a ≤ xN M) : (wsOf E M)[a - 1]? = some (E.base + (a - 1), ent E M a) := by
  unfold wsOf
  rw [List.getElem?_map, List.getElem?_range (by omega)]
  simp only [Option.map_some]
  rw [Nat.sub_add_cancel h1]
theorem ws_of {E : xE} {M : xMem} {k : Nat} {q : Nat × va_E} (h : (wsOf E M)[k]? = some q) : k < xN M ∧ q = (E.base + k, ent E M (k + 1)) := by
  unfold wsOf at h
  rw [List.getElem?_map] at h
  cases hr : (List.range (xN M))[k]? with
  | none => rw [hr] at h; cases h
  | some i =>
    rw [hr] at h
    obtain ⟨hk, e⟩ := List.getElem?_eq_some_iff.mp hr
    rw [List.getElem_range] at e
    subst e
    rw [List.length_range] at hk
    exact ⟨hk, (Option.some.inj h).symm⟩
theorem ws_D (E : xE) (M : xMem) : va_D (xA E) (wsOf E M) := by
  refine ⟨fun i j p q hi hj hpq => ?_, fun k q hk => ?_⟩
  · rw [(ws_of hi).2, (ws_of hj).2] at hpq
    exact Nat.add_left_cancel hpq
  · rw [(ws_of hk).2]
    exact Nat.le_add_right _ _
theorem ws_set {E : xE} {M M' : xMem} {a : Nat} (h1 : 1 ≤ a) (hn : xN M' = xN M) (ho : ∀ c, c ≠ a → ent E M' c = ent E M c) : (wsOf E M).set (a - 1) (E.base + (a - 1), ent E M' a) = wsOf E M' := by
  apply List.ext_getElem?
  intro k
  by_cases hk : k = a - 1
  · subst hk
    rw [List.getElem?_set_self']
    by_cases hl : a ≤ xN M
    · rw [ws_at E M h1 hl, ws_at E M' h1 (by omega)]; rfl
    · have e1 : (wsOf E M)[a - 1]? = none := by rw [List.getElem?_eq_none]; simp only [wsOf, List.length_map, List.length_range]; omega
      have e2 : (wsOf E M')[a - 1]? = none := by rw [List.getElem?_eq_none]; simp only [wsOf, List.length_map, List.length_range]; omega
      rw [e1, e2]; rfl
  · rw [List.getElem?_set_ne (Ne.symm hk)]
    by_cases hl : k + 1 ≤ xN M
    · have e1 := ws_at E M (a := k + 1) (by omega) hl
      have e2 := ws_at E M' (a := k + 1) (by omega) (by omega)
      rw [Nat.add_sub_cancel] at e1 e2
      rw [e1, e2, ho (k + 1) (by omega)]
    · have e1 : (wsOf E M)[k]? = none := by rw [List.getElem?_eq_none]; simp only [wsOf, List.length_map, List.length_range]; omega
      have e2 : (wsOf E M')[k]? = none := by rw [List.getElem?_eq_none]; simp only [wsOf, List.length_map, List.length_range]; omega
      rw [e1, e2]
theorem ws_push {E : xE} {M M' : xMem} (hn : xN M' = xN M + 1) (ho : ∀ c, c ≠ xN M + 1 → ent E M' c = ent E M c) : wsOf E M ++ [(E.base + xN M, ent E M' (xN M + 1))] = wsOf E M' := by
  unfold wsOf
  rw [hn, List.range_succ, List.map_append]
  congr 1
  refine List.map_congr_left fun i hi => ?_
  rw [ho (i + 1) (by have := List.mem_range.mp hi; omega)]
/-- the array types of the kinds 20 .. 26 -/
def xTy (k : Nat) : FieldType := match k with
  | 20 => .int
  | 21 => .byte
  | 22 => .boolean
  | 23 => .object RX5
  | 24 => .object RX9
  | 25 => .object RX8
  | _ => .object RX0
def xtys (E : xE) : List (ClassId × FieldType) := [(E.cA 20, .int), (E.cA 21, .byte), (E.cA 22, .boolean), (E.cA 23, .object RX5), (E.cA 24, .object RX9), (E.cA 25, .object RX8), (E.cA 26, .object RX0)]
/-- the private constructors and wordOf, called by a nest mate -/
def xnest : List Cond := [.methodLinkNest RX10 31 yX8_init RX10, .methodLinkNest RX10 38 yX3_init RX10, .methodLinkNest RX7 30 yX0_init RX10, .methodLinkNest RX10 45 yX6_init RX10, .methodLinkNest RX10 52 yX2_init RX10, .methodLinkNest RX2 11 yX4_init RX10, .methodLinkNest RX10 82 yX5_init RX10, .methodLinkNest RX10 83 yX9_init RX10, .methodLinkNest RX3 129 yX10_wordOf RX10, .methodLinkNest RX6 58 yX10_wordOf RX10]
/-- the string constants: who names them where, which one -/
def xstr : List (String × Nat × String × Nat) := [(RX3, 69, "page", 0), (RX3, 87, "bleed", 1), (RX10, 355, "icon", 3), (RX10, 357, "border", 4), (RX10, 359, "logo", 5), (RX10, 361, "frame", 2), (RX6, 19, "page", 0), (RX6, 43, "bleed", 1)]
def xslen : List Nat := [4, 5, 5, 4, 6, 4]
def xsbyt : List (List Int32) := [[112, 97, 103, 101], [98, 108, 101, 101, 100], [102, 114, 97, 109, 101], [105, 99, 111, 110], [98, 111, 114, 100, 101, 114], [108, 111, 103, 111]]
/-- what the tables say, in any state -/
def xKN (E : xE) (U : State) : Prop := va_K E.D vwCl (xtys E) U ∧ (∀ w ∈ xnest, va_Nw w U) ∧ (∀ C ∈ [RX5, RX9, RX8, RX0], va_AO C U) ∧ ∀ q ∈ xstr, vk_R q.1 q.2.1 q.2.2.1 (E.sk q.2.2.2) U
/-- what lies outside: the string constants, two statics -/
def xOut (E : xE) (U : State) (H : Heap) : Prop := vk_S 6 xslen xsbyt E.sk (fun i => E.sk (1000 + i)) (xA E) U H ∧ va_Z "java/lang/String" "COMPACT_STRINGS" "Z" (.int 1) (xA E) U H ∧ (va_Z "jdk/internal/util/Preconditions" "SIOOBE_FORMATTER" "Ljava/util/function/BiFunction;" .null (xA E) U H ∨ va_Z "jdk/internal/util/Preconditions" "SIOOBE_FORMATTER" "Ljava/util/function/BiFunction;" (.ref (E.sk 2000)) (xA E) U H)
/-- the heap holds the memory -/
def Hold (E : xE) (M : xMem) (U : State) (H : Heap) : Prop := (xN M < xNT → H.size = E.base + xN M) ∧ va_P E.D vwCl (wsOf E M) H ∧ va_X E.b E.L E.xs U H ∧ xOut E U H ∧ E.b < E.base ∧ E.base ≤ H.size
