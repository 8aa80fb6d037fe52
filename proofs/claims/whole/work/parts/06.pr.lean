/-- a method: its name, code, locals, answer; how many frames and words of locals what it calls takes -/
abbrev xMD : Type := MethodName × ByteArray × Nat × Option FieldType × Nat × Nat
abbrev xMD.nm (d : xMD) : MethodName := d.1
abbrev xMD.co (d : xMD) : ByteArray := d.2.1
abbrev xMD.ml (d : xMD) : Nat := d.2.2.1
abbrev xMD.rt (d : xMD) : Option FieldType := d.2.2.2.1
abbrev xMD.fr (d : xMD) : Nat := d.2.2.2.2.1
abbrev xMD.lo (d : xMD) : Nat := d.2.2.2.2.2
def xws (d : xMD) : List Cond := .code d.nm d.co d.ml d.rt :: xwl
theorem xKN.same {E : xE} {u U : State} (h : u.vm = U.vm) (k : xKN E u) : xKN E U :=
  ⟨va_K.moved (by rw [h]; exact Vm.Alike.refl _) k.1, fun w hw => va_Nw.same (by revert w; decide) h (k.2.1 w hw), fun C hC => va_AO.moved (by rw [h]; exact Vm.Alike.refl _) (k.2.2.1 C hC), fun q hq => vk_R.same h.symm (k.2.2.2 q hq)⟩
theorem xKN.warm {E : xE} {s U : State} (hW : s.WarmedH U.vm) (k : xKN E s) : xKN E U := by
  refine ⟨va_K.moved hW.alike k.1, fun w hw => ?_, fun C hC => va_AO.moved hW.alike (k.2.2.1 C hC), fun q hq => vk_R.warm hW (k.2.2.2 q hq)⟩
  have h0 := k.2.1 w hw
  have : ∃ (a : String) (i : Nat) (x : MethodName) (h : String), w = .methodLinkNest a i x h := by
    simp only [xnest, List.mem_cons, List.not_mem_nil, or_false] at hw
    rcases hw with rfl | rfl | rfl | rfl | rfl | rfl | rfl | rfl | rfl | rfl <;> exact ⟨_, _, _, _, rfl⟩
  obtain ⟨a, i, x, h, rfl⟩ := this
  exact va_Nw.warmM hW h0
theorem xOut.moved {E : xE} {u U : State} {H : Heap} (hvm : u.vm.Alike U.vm) (h : xOut E u H) : xOut E U H := ⟨h.1.moved hvm, h.2.1.moved hvm, h.2.2.imp (fun z => z.moved hvm) (fun z => z.moved hvm)⟩
theorem xOut.kept {E : xE} {U : State} {H H1 : Heap} (h : xOut E U H) (hq : ∀ a : Nat, a < E.base → H1[a]? = H[a]?) : xOut E U H1 := by
  have hq' : ∀ a : Nat, a < H.size → ¬ xA E a → H1[a]? = H[a]? := fun a _ hA => hq a (Nat.not_le.mp hA)
  exact ⟨h.1.kept hq', h.2.1.kept hq', h.2.2.imp (fun z => z.kept hq') (fun z => z.kept hq')⟩
theorem Hold.moved {E : xE} {M : xMem} {u U : State} {H : Heap} (hvm : u.vm.Alike U.vm) (h : Hold E M u H) : Hold E M U H := ⟨h.1, h.2.1, h.2.2.1.moved hvm, h.2.2.2.1.moved hvm, h.2.2.2.2⟩
/-- one cell is another now -/
theorem Hold.set {E : xE} {M M' : xMem} {U : State} {H H' : Heap} {a : Nat} (h : Hold E M U H) (h1 : 1 ≤ a) (h2 : a ≤ xN M) (hn : xN M' = xN M) (ho : ∀ c, c ≠ a → ent E M' c = ent E M c)
    (he : va_at E.D vwCl (E.base + (a - 1), ent E M' a) H') (hz : H'.size = H.size) (oq : ∀ q : Nat, q ≠ E.base + (a - 1) → H'[q]? = H[q]?) : Hold E M' U H' := by
  refine ⟨fun hl => by rw [hz, h.1 (by omega), hn], ?_, h.2.2.1.kept (oq _ (by have := h.2.2.2.2.1; omega)), h.2.2.2.1.kept (fun q hq => oq q (by omega)), h.2.2.2.2.1, by rw [hz]; exact h.2.2.2.2.2⟩
  rw [← ws_set (E := E) h1 hn ho]
  exact h.2.1.set (ws_D E M) (ws_at E M h1 h2) he oq
/-- locals -/
def lvl (E : xE) : Nat → List (Option Value) → List (Nat × Value)
  | _, [] => []
  | i, none :: t => lvl E (i + 1) t
  | i, some v :: t => (i, cv E v) :: lvl E (i + 1) t
theorem lvl_mem {E : xE} : ∀ (lo : List (Option Value)) (i : Nat) (q : Nat × Value), q ∈ lvl E i lo ↔ ∃ j v, lo[j]? = some (some v) ∧ q = (i + j, cv E v)
  | [], i, q => by simp [lvl]
  | none :: t, i, q => by
    rw [lvl, lvl_mem t (i + 1) q]
    constructor
    · rintro ⟨j, v, h1, h2⟩
      exact ⟨j + 1, v, by rw [List.getElem?_cons_succ]; exact h1, by rw [h2]; congr 1; omega⟩
    · rintro ⟨j, v, h1, h2⟩
      cases j with
      | zero => simp at h1
      | succ j => exact ⟨j, v, by rw [List.getElem?_cons_succ] at h1; exact h1, by rw [h2]; congr 1; omega⟩
  | some w :: t, i, q => by
    rw [lvl, List.mem_cons, lvl_mem t (i + 1) q]
    constructor
    · rintro (h | ⟨j, v, h1, h2⟩)
      · exact ⟨0, w, rfl, h⟩
      · exact ⟨j + 1, v, by rw [List.getElem?_cons_succ]; exact h1, by rw [h2]; congr 1; omega⟩
    · rintro ⟨j, v, h1, h2⟩
      cases j with
      | zero => simp at h1; subst h1; exact Or.inl h2
      | succ j => exact Or.inr ⟨j, v, by rw [List.getElem?_cons_succ] at h1; exact h1, by rw [h2]; congr 1; omega⟩
theorem lvl_at {E : xE} {ls : Array Slot} {n : Nat} {lo : List (Option Value)} (h : lv_has ls n (lvl E 0 lo)) {i : Nat} {v : Value} (hi : lo[i]? = some (some v)) : ls[i]? = some (.val (cv E v)) := by
  have := h.2.2 (i, cv E v) ((lvl_mem lo 0 _).mpr ⟨i, v, hi, by rw [Nat.zero_add]⟩)
  exact this
/-- what a local may not be ahead of a store: a long in the place below -/
def xnl : Option Value → Bool
  | some (.long _) => false
  | some (.double _) => false
  | _ => true
theorem lvl_set {E : xE} {ls : Array Slot} {n i : Nat} {lo : List (Option Value)} {v : Value} (hp : ∀ j, j + 1 = i → ∀ w, lo[j]? = some w → xnl w = true) (h : lv_has ls n ((i, cv E v) :: (lvl E 0 lo).filter (fun q => !(q.1 == i) && !(q.1 + 1 == i && q.2.category == 2)))) : lv_has ls n (lvl E 0 (lo.set i (some v))) := by
  refine ⟨h.1, h.2.1, fun q hq => h.2.2 q ?_⟩
  obtain ⟨j, w, h1, h2⟩ := (lvl_mem _ 0 q).mp hq
  rw [Nat.zero_add] at h2
  by_cases hj : j = i
  · subst hj
    rw [List.getElem?_set_self'] at h1
    cases hl : lo[j]? with
    | none => rw [hl] at h1; cases h1
    | some z => rw [hl] at h1; cases h1; rw [h2]; exact List.mem_cons_self
  · rw [List.getElem?_set_ne (Ne.symm hj)] at h1
    refine List.mem_cons_of_mem _ (List.mem_filter.mpr ⟨(lvl_mem lo 0 q).mpr ⟨j, w, h1, by rw [h2, Nat.zero_add]⟩, ?_⟩)
    rw [h2]
    simp only [Bool.and_eq_true, Bool.not_eq_true', beq_eq_false_iff_ne, ne_eq, Bool.and_eq_false_imp, beq_iff_eq]
    refine ⟨hj, fun he => ?_⟩
    have := hp j he (some w) h1
    rw [cv_cat]
    cases w <;> simp_all [xnl, Value.category]
theorem lvl_set2 {E : xE} {ls : Array Slot} {n i : Nat} {lo : List (Option Value)} {v : Value} (hp : ∀ j, j + 1 = i → ∀ w, lo[j]? = some w → xnl w = true) (h : lv_has ls n ((i, cv E v) :: (lvl E 0 lo).filter (fun q => !(q.1 == i) && (!(q.1 == i + 1) && !(q.1 + 1 == i && q.2.category == 2))))) : lv_has ls n (lvl E 0 ((lo.set i (some v)).set (i + 1) none)) := by
  refine ⟨h.1, h.2.1, fun q hq => h.2.2 q ?_⟩
  obtain ⟨j, w, h1, h2⟩ := (lvl_mem _ 0 q).mp hq
  rw [Nat.zero_add] at h2
  by_cases hj1 : j = i + 1
  · subst hj1
    rw [List.getElem?_set_self'] at h1
    cases hl : (lo.set i (some v))[i + 1]? with
    | none => rw [hl] at h1; cases h1
    | some z => rw [hl] at h1; cases h1
  rw [List.getElem?_set_ne (Ne.symm hj1)] at h1
  by_cases hj : j = i
  · subst hj
    rw [List.getElem?_set_self'] at h1
    cases hl : lo[j]? with
    | none => rw [hl] at h1; cases h1
    | some z => rw [hl] at h1; cases h1; rw [h2]; exact List.mem_cons_self
  · rw [List.getElem?_set_ne (Ne.symm hj)] at h1
    refine List.mem_cons_of_mem _ (List.mem_filter.mpr ⟨(lvl_mem lo 0 q).mpr ⟨j, w, h1, by rw [h2, Nat.zero_add]⟩, ?_⟩)
    rw [h2]
    simp only [Bool.and_eq_true, Bool.not_eq_true', beq_eq_false_iff_ne, ne_eq, Bool.and_eq_false_imp, beq_iff_eq]
    refine ⟨hj, hj1, fun he => ?_⟩
    have := hp j he (some w) h1
    rw [cv_cat]
    cases w <;> simp_all [xnl, Value.category]
/-- the method's own: machine, code, tables, room -/
def Cx (E : xE) (d : xMD) (p : Program) (R : Room) (s : State) (m : MethodId) (args : Array Value) (meth : Method) (c : Code) : Prop :=
  p.tables.exec = Jvm.exec ∧ c.code = d.co ∧ c.maxLocals = d.ml ∧ s.vm.findClass d.nm.cls = some m.cls ∧ (∀ w ∈ xwl, w.before args s = true) ∧ xKN E s ∧ d.fr ≤ R.frames ∧ d.lo ≤ R.locals ∧ meth.name = d.nm.name ∧ E.base ≤ s.heap.size
/-- which instruction gives an answer -/
def xrok (d : xMD) (pc : Nat) : Option Value → Prop
  | none => decode d.co pc = .ok (.return_, 1) ∧ d.rt = none
  | some (.int v) => decode d.co pc = .ok (.ireturn, 1) ∧ ∃ ty, d.rt = some ty ∧ narrow ty (.int v) = .int v
  | some (.long _) => decode d.co pc = .ok (.lreturn, 1) ∧ d.rt = some .long
  | some (.ref _) => decode d.co pc = .ok (.areturn, 1) ∧ ∃ ty, d.rt = some ty ∧ ((∃ n, ty = .object n) ∨ ∃ t, ty = .array t)
  | _ => False
/-- the way out -/
def Rt (E : xE) (d : xMD) (ne : Nat) (p : Program) (e : Env) (R : Room) (s : State) (m : MethodId) (args : Array Value) (below : List Frame) (meth : Method) (c : Code) (Z : State → Prop) (Q : Option Value → xMem → Prop) : Prop :=
  ∀ (r : Option Value) (M : xMem) (H : Heap) (ls : Array Slot) (pc : Nat) (locs : List Loc) (cells slots : Nat), Q r M → xN M = ne → xrok d pc r → Hold E M s H → va_S (xA E) s.heap H locs → cells ≤ R.cells → slots ≤ R.slots →
    W p E.l e R s m args below meth c H locs cells slots Z (F0 m pc ls (r.toList.map (cv E)))
/-- all that stands at a point of a method -/
def Sx (E : xE) (d : xMD) (ne : Nat) (lo : List (Option Value)) (M : xMem) (Q : Option Value → xMem → Prop) (p : Program) (e : Env) (R : Room) (s : State) (m : MethodId) (args : Array Value) (below : List Frame) (meth : Method) (c : Code) (H : Heap) (ls : Array Slot) (locs : List Loc) (cells slots : Nat) (Z : State → Prop) : Prop :=
  Cx E d p R s m args meth c ∧ Rt E d ne p e R s m args below meth c Z Q ∧ lv_has ls d.ml (lvl E 0 lo) ∧ lo.length = d.ml ∧ Hold E M s H ∧ va_S (xA E) s.heap H locs ∧ xN M ≤ ne ∧ cells + (ne - xN M) ≤ R.cells ∧ slots + (xSZ ne - xSZ (xN M)) ≤ R.slots
def PR (E : xE) (d : xMD) (ne pc : Nat) (lo : List (Option Value)) (st : List Value) (M : xMem) (Q : Option Value → xMem → Prop) : Prop :=
  ∀ (p : Program) (e : Env) (R : Room) (s : State) (m : MethodId) (args : Array Value) (below : List Frame) (meth : Method) (c : Code) (H : Heap) (ls : Array Slot) (locs : List Loc) (cells slots : Nat) (Z : State → Prop),
    Sx E d ne lo M Q p e R s m args below meth c H ls locs cells slots Z → W p E.l e R s m args below meth c H locs cells slots Z (F0 m pc ls (st.map (cv E)))
section RULES
variable {E : xE} {d : xMD} {ne pc : Nat} {lo : List (Option Value)} {st : List Value} {M : xMem} {Q : Option Value → xMem → Prop}
theorem px_q {Q' : Option Value → xMem → Prop} (h : ∀ r M', Q' r M' → Q r M') (k : PR E d ne pc lo st M Q') : PR E d ne pc lo st M Q := by
  intro p e R s m args below meth c H ls locs cells slots Z S
  exact k _ _ _ _ _ _ _ _ _ _ _ _ _ _ _ ⟨S.1, fun r M H ls pc locs cells slots hq => S.2.1 r M H ls pc locs cells slots (h r M hq), S.2.2⟩
theorem px_iadd {x y : Int32} (hd : decode d.co pc = .ok (.iadd, 1)) (k : PR E d ne (pc + 1) lo (.int (x + y) :: st) M Q) : PR E d ne pc lo (.int y :: .int x :: st) M Q := by
  intro p e R s m args below meth c H ls locs cells slots Z S
  exact lv_iadd S.1.1 S.1.2.1 hd (k _ _ _ _ _ _ _ _ _ _ _ _ _ _ _ S)
theorem px_isub {x y : Int32} (hd : decode d.co pc = .ok (.isub, 1)) (k : PR E d ne (pc + 1) lo (.int (x - y) :: st) M Q) : PR E d ne pc lo (.int y :: .int x :: st) M Q := by
  intro p e R s m args below meth c H ls locs cells slots Z S
  exact lv_isub S.1.1 S.1.2.1 hd (k _ _ _ _ _ _ _ _ _ _ _ _ _ _ _ S)
theorem px_imul {x y : Int32} (hd : decode d.co pc = .ok (.imul, 1)) (k : PR E d ne (pc + 1) lo (.int (x * y) :: st) M Q) : PR E d ne pc lo (.int y :: .int x :: st) M Q := by
  intro p e R s m args below meth c H ls locs cells slots Z S
  exact lv_imul S.1.1 S.1.2.1 hd (k _ _ _ _ _ _ _ _ _ _ _ _ _ _ _ S)
theorem px_iand {x y : Int32} (hd : decode d.co pc = .ok (.iand, 1)) (k : PR E d ne (pc + 1) lo (.int (x &&& y) :: st) M Q) : PR E d ne pc lo (.int y :: .int x :: st) M Q := by
  intro p e R s m args below meth c H ls locs cells slots Z S
  exact lv_iand S.1.1 S.1.2.1 hd (k _ _ _ _ _ _ _ _ _ _ _ _ _ _ _ S)
theorem px_ior {x y : Int32} (hd : decode d.co pc = .ok (.ior, 1)) (k : PR E d ne (pc + 1) lo (.int (x ||| y) :: st) M Q) : PR E d ne pc lo (.int y :: .int x :: st) M Q := by
  intro p e R s m args below meth c H ls locs cells slots Z S
  exact lv_ior S.1.1 S.1.2.1 hd (k _ _ _ _ _ _ _ _ _ _ _ _ _ _ _ S)
theorem px_ixor {x y : Int32} (hd : decode d.co pc = .ok (.ixor, 1)) (k : PR E d ne (pc + 1) lo (.int (x ^^^ y) :: st) M Q) : PR E d ne pc lo (.int y :: .int x :: st) M Q := by
  intro p e R s m args below meth c H ls locs cells slots Z S
  exact lv_ixor S.1.1 S.1.2.1 hd (k _ _ _ _ _ _ _ _ _ _ _ _ _ _ _ S)
theorem px_ishl {x y : Int32} (hd : decode d.co pc = .ok (.ishl, 1)) (k : PR E d ne (pc + 1) lo (.int (x <<< (y &&& 31)) :: st) M Q) : PR E d ne pc lo (.int y :: .int x :: st) M Q := by
  intro p e R s m args below meth c H ls locs cells slots Z S
  exact lv_ishl S.1.1 S.1.2.1 hd (k _ _ _ _ _ _ _ _ _ _ _ _ _ _ _ S)
theorem px_ishr {x y : Int32} (hd : decode d.co pc = .ok (.ishr, 1)) (k : PR E d ne (pc + 1) lo (.int (x >>> (y &&& 31)) :: st) M Q) : PR E d ne pc lo (.int y :: .int x :: st) M Q := by
  intro p e R s m args below meth c H ls locs cells slots Z S
  exact lv_ishr S.1.1 S.1.2.1 hd (k _ _ _ _ _ _ _ _ _ _ _ _ _ _ _ S)
theorem px_idiv {x y : Int32} (hd : decode d.co pc = .ok (.idiv, 1)) (h0 : ¬ y = 0) (k : PR E d ne (pc + 1) lo (.int (x / y) :: st) M Q) : PR E d ne pc lo (.int y :: .int x :: st) M Q := by
  intro p e R s m args below meth c H ls locs cells slots Z S
  exact lv_idiv S.1.1 S.1.2.1 hd h0 (k _ _ _ _ _ _ _ _ _ _ _ _ _ _ _ S)
theorem px_irem {x y : Int32} (hd : decode d.co pc = .ok (.irem, 1)) (h0 : ¬ y = 0) (k : PR E d ne (pc + 1) lo (.int (x - x / y * y) :: st) M Q) : PR E d ne pc lo (.int y :: .int x :: st) M Q := by
  intro p e R s m args below meth c H ls locs cells slots Z S
  exact lv_irem S.1.1 S.1.2.1 hd h0 (k _ _ _ _ _ _ _ _ _ _ _ _ _ _ _ S)
theorem px_ladd {x y : Int64} (hd : decode d.co pc = .ok (.ladd, 1)) (k : PR E d ne (pc + 1) lo (.long (x + y) :: st) M Q) : PR E d ne pc lo (.long y :: .long x :: st) M Q := by
  intro p e R s m args below meth c H ls locs cells slots Z S
  exact lv_ladd S.1.1 S.1.2.1 hd (k _ _ _ _ _ _ _ _ _ _ _ _ _ _ _ S)
theorem px_lsub {x y : Int64} (hd : decode d.co pc = .ok (.lsub, 1)) (k : PR E d ne (pc + 1) lo (.long (x - y) :: st) M Q) : PR E d ne pc lo (.long y :: .long x :: st) M Q := by
  intro p e R s m args below meth c H ls locs cells slots Z S
  exact lv_lsub S.1.1 S.1.2.1 hd (k _ _ _ _ _ _ _ _ _ _ _ _ _ _ _ S)
theorem px_lmul {x y : Int64} (hd : decode d.co pc = .ok (.lmul, 1)) (k : PR E d ne (pc + 1) lo (.long (x * y) :: st) M Q) : PR E d ne pc lo (.long y :: .long x :: st) M Q := by
  intro p e R s m args below meth c H ls locs cells slots Z S
  exact lv_lmul S.1.1 S.1.2.1 hd (k _ _ _ _ _ _ _ _ _ _ _ _ _ _ _ S)
theorem px_ldiv {x y : Int64} (hd : decode d.co pc = .ok (.ldiv, 1)) (h0 : ¬ y = 0) (k : PR E d ne (pc + 1) lo (.long (x / y) :: st) M Q) : PR E d ne pc lo (.long y :: .long x :: st) M Q := by
  intro p e R s m args below meth c H ls locs cells slots Z S
  exact lv_ldiv S.1.1 S.1.2.1 hd h0 (k _ _ _ _ _ _ _ _ _ _ _ _ _ _ _ S)
theorem px_lrem {x y : Int64} (hd : decode d.co pc = .ok (.lrem, 1)) (h0 : ¬ y = 0) (k : PR E d ne (pc + 1) lo (.long (x - x / y * y) :: st) M Q) : PR E d ne pc lo (.long y :: .long x :: st) M Q := by
  intro p e R s m args below meth c H ls locs cells slots Z S
  exact lv_lrem S.1.1 S.1.2.1 hd h0 (k _ _ _ _ _ _ _ _ _ _ _ _ _ _ _ S)
theorem px_ineg {x : Int32} (hd : decode d.co pc = .ok (.ineg, 1)) (k : PR E d ne (pc + 1) lo (.int (0 - x) :: st) M Q) : PR E d ne pc lo (.int x :: st) M Q := by
  intro p e R s m args below meth c H ls locs cells slots Z S
  exact lv_ineg S.1.1 S.1.2.1 hd (k _ _ _ _ _ _ _ _ _ _ _ _ _ _ _ S)
theorem px_i2l {x : Int32} (hd : decode d.co pc = .ok (.i2l, 1)) (k : PR E d ne (pc + 1) lo (.long x.toInt64 :: st) M Q) : PR E d ne pc lo (.int x :: st) M Q := by
  intro p e R s m args below meth c H ls locs cells slots Z S
  exact lv_i2l S.1.1 S.1.2.1 hd rfl (k _ _ _ _ _ _ _ _ _ _ _ _ _ _ _ S)
theorem px_l2i {x : Int64} (hd : decode d.co pc = .ok (.l2i, 1)) (k : PR E d ne (pc + 1) lo (.int x.toInt32 :: st) M Q) : PR E d ne pc lo (.long x :: st) M Q := by
  intro p e R s m args below meth c H ls locs cells slots Z S
  exact lv_l2i S.1.1 S.1.2.1 hd rfl (k _ _ _ _ _ _ _ _ _ _ _ _ _ _ _ S)
theorem px_i2b {x : Int32} (hd : decode d.co pc = .ok (.i2b, 1)) (k : PR E d ne (pc + 1) lo (.int x.toInt8.toInt32 :: st) M Q) : PR E d ne pc lo (.int x :: st) M Q := by
  intro p e R s m args below meth c H ls locs cells slots Z S
  exact lv_i2b S.1.1 S.1.2.1 hd rfl (k _ _ _ _ _ _ _ _ _ _ _ _ _ _ _ S)
theorem px_iconst {n : Int} {v : Int32} (hd : decode d.co pc = .ok (.iconst n, 1)) (hv : Int32.ofInt n = v) (k : PR E d ne (pc + 1) lo (.int v :: st) M Q) : PR E d ne pc lo (st) M Q := by
  intro p e R s m args below meth c H ls locs cells slots Z S
  exact lv_iconst S.1.1 S.1.2.1 hd hv (k _ _ _ _ _ _ _ _ _ _ _ _ _ _ _ S)
theorem px_lconst {n : Fin 2} {v : Int64} (hd : decode d.co pc = .ok (.lconst n, 1)) (hv : Int64.ofNat (n : Nat) = v) (k : PR E d ne (pc + 1) lo (.long v :: st) M Q) : PR E d ne pc lo (st) M Q := by
  intro p e R s m args below meth c H ls locs cells slots Z S
  exact lv_lconst S.1.1 S.1.2.1 hd hv (k _ _ _ _ _ _ _ _ _ _ _ _ _ _ _ S)
theorem px_bipush {n : Int} {v : Int32} (hd : decode d.co pc = .ok (.bipush n, 2)) (hv : (Int8.ofInt n).toInt32 = v) (k : PR E d ne (pc + 2) lo (.int v :: st) M Q) : PR E d ne pc lo (st) M Q := by
  intro p e R s m args below meth c H ls locs cells slots Z S
  exact lv_bipush S.1.1 S.1.2.1 hd hv (k _ _ _ _ _ _ _ _ _ _ _ _ _ _ _ S)
theorem px_sipush {n : Int} {v : Int32} (hd : decode d.co pc = .ok (.sipush n, 3)) (hv : (Int16.ofInt n).toInt32 = v) (k : PR E d ne (pc + 3) lo (.int v :: st) M Q) : PR E d ne pc lo (st) M Q := by
  intro p e R s m args below meth c H ls locs cells slots Z S
  exact lv_sipush S.1.1 S.1.2.1 hd hv (k _ _ _ _ _ _ _ _ _ _ _ _ _ _ _ S)
theorem px_dupi {x : Int32} (hd : decode d.co pc = .ok (.dup, 1)) (k : PR E d ne (pc + 1) lo (.int x :: .int x :: st) M Q) : PR E d ne pc lo (.int x :: st) M Q := by
  intro p e R s m args below meth c H ls locs cells slots Z S
  exact lv_dup S.1.1 S.1.2.1 hd rfl (k _ _ _ _ _ _ _ _ _ _ _ _ _ _ _ S)
theorem px_dupa {x : Nat} (hd : decode d.co pc = .ok (.dup, 1)) (k : PR E d ne (pc + 1) lo (.ref x :: .ref x :: st) M Q) : PR E d ne pc lo (.ref x :: st) M Q := by
  intro p e R s m args below meth c H ls locs cells slots Z S
  exact lv_dup S.1.1 S.1.2.1 hd rfl (k _ _ _ _ _ _ _ _ _ _ _ _ _ _ _ S)
theorem px_dup2 {x : Int32} {a : Nat} (hd : decode d.co pc = .ok (.dup2, 1)) (k : PR E d ne (pc + 1) lo (.int x :: .ref a :: .int x :: .ref a :: st) M Q) : PR E d ne pc lo (.int x :: .ref a :: st) M Q := by
  intro p e R s m args below meth c H ls locs cells slots Z S
  exact lv_dup2_11 S.1.1 S.1.2.1 hd rfl rfl (k _ _ _ _ _ _ _ _ _ _ _ _ _ _ _ S)
theorem px_lcmp {x y : Int64} (hd : decode d.co pc = .ok (.lcmp, 1)) (k : PR E d ne (pc + 1) lo (.int (lg_cmp x y) :: st) M Q) : PR E d ne pc lo (.long y :: .long x :: st) M Q := by
  intro p e R s m args below meth c H ls locs cells slots Z S
  exact W.lcmp S.1.1 S.1.2.1 hd (k _ _ _ _ _ _ _ _ _ _ _ _ _ _ _ S)
theorem px_iload_n {n : Fin 4} {i : Nat} {x : Int32} (hd : decode d.co pc = .ok (.iload_n n, 1)) (hi : (n : Nat) = i) (hl : lo[i]? = some (some (.int x))) (k : PR E d ne (pc + 1) lo (.int x :: st) M Q) : PR E d ne pc lo st M Q := by
  intro p e R s m args below meth c H ls locs cells slots Z S
  exact lv_iload_n S.1.1 S.1.2.1 hd hi (lvl_at S.2.2.1 hl) (k _ _ _ _ _ _ _ _ _ _ _ _ _ _ _ S)
theorem px_iload {i : Nat} {x : Int32} (hd : decode d.co pc = .ok (.iload i, 2)) (hl : lo[i]? = some (some (.int x))) (k : PR E d ne (pc + 2) lo (.int x :: st) M Q) : PR E d ne pc lo st M Q := by
  intro p e R s m args below meth c H ls locs cells slots Z S
  exact lv_iload S.1.1 S.1.2.1 hd (lvl_at S.2.2.1 hl) (k _ _ _ _ _ _ _ _ _ _ _ _ _ _ _ S)
theorem px_lload_n {n : Fin 4} {i : Nat} {x : Int64} (hd : decode d.co pc = .ok (.lload_n n, 1)) (hi : (n : Nat) = i) (hl : lo[i]? = some (some (.long x))) (k : PR E d ne (pc + 1) lo (.long x :: st) M Q) : PR E d ne pc lo st M Q := by
  intro p e R s m args below meth c H ls locs cells slots Z S
  exact lv_lload_n S.1.1 S.1.2.1 hd hi (lvl_at S.2.2.1 hl) (k _ _ _ _ _ _ _ _ _ _ _ _ _ _ _ S)
theorem px_lload {i : Nat} {x : Int64} (hd : decode d.co pc = .ok (.lload i, 2)) (hl : lo[i]? = some (some (.long x))) (k : PR E d ne (pc + 2) lo (.long x :: st) M Q) : PR E d ne pc lo st M Q := by
  intro p e R s m args below meth c H ls locs cells slots Z S
  exact lv_lload S.1.1 S.1.2.1 hd (lvl_at S.2.2.1 hl) (k _ _ _ _ _ _ _ _ _ _ _ _ _ _ _ S)
theorem px_aload_n {n : Fin 4} {i : Nat} {x : Nat} (hd : decode d.co pc = .ok (.aload_n n, 1)) (hi : (n : Nat) = i) (hl : lo[i]? = some (some (.ref x))) (k : PR E d ne (pc + 1) lo (.ref x :: st) M Q) : PR E d ne pc lo st M Q := by
  intro p e R s m args below meth c H ls locs cells slots Z S
  exact lv_aload_n S.1.1 S.1.2.1 hd hi (lvl_at S.2.2.1 hl) (k _ _ _ _ _ _ _ _ _ _ _ _ _ _ _ S)
theorem px_aload {i : Nat} {x : Nat} (hd : decode d.co pc = .ok (.aload i, 2)) (hl : lo[i]? = some (some (.ref x))) (k : PR E d ne (pc + 2) lo (.ref x :: st) M Q) : PR E d ne pc lo st M Q := by
  intro p e R s m args below meth c H ls locs cells slots Z S
  exact lv_aload S.1.1 S.1.2.1 hd (lvl_at S.2.2.1 hl) (k _ _ _ _ _ _ _ _ _ _ _ _ _ _ _ S)
/-- ahead of a store at i: no long lies in the place below -/
def xpb (lo : List (Option Value)) : Nat → Bool
  | 0 => true
  | i + 1 => match lo[i]? with
    | some w => xnl w
    | none => true
theorem xpb_use {lo : List (Option Value)} {i : Nat} (h : xpb lo i = true) : ∀ j, j + 1 = i → ∀ w, lo[j]? = some w → xnl w = true := by
  intro j hj w hw
  subst hj
  simp only [xpb, hw] at h
  exact h
theorem px_istore_n {lo' : List (Option Value)} {n : Fin 4} {i : Nat} {x : Int32} (hd : decode d.co pc = .ok (.istore_n n, 1)) (hi : (n : Nat) = i) (hp : xpb lo i = true) (hn : i < lo.length) (hl : lo.set i (some (.int x)) = lo') (k : PR E d ne (pc + 1) lo' st M Q) : PR E d ne pc lo (.int x :: st) M Q := by
  intro p e R s m args below meth c H ls locs cells slots Z S
  obtain ⟨hC, hR, hl0, hlen, hrest⟩ := S
  refine lv_istore_n hC.1 hC.2.1 hd hi hl0 (by rw [← hlen]; exact hn) rfl (fun ls' h' => ?_)
  subst hl
  exact k _ _ _ _ _ _ _ _ _ _ _ _ _ _ _ ⟨hC, hR, lvl_set (v := .int x) (xpb_use hp) h', by rw [List.length_set]; exact hlen, hrest⟩
theorem px_istore {lo' : List (Option Value)} {i : Nat} {x : Int32} (hd : decode d.co pc = .ok (.istore i, 2)) (hp : xpb lo i = true) (hn : i < lo.length) (hl : lo.set i (some (.int x)) = lo') (k : PR E d ne (pc + 2) lo' st M Q) : PR E d ne pc lo (.int x :: st) M Q := by
  intro p e R s m args below meth c H ls locs cells slots Z S
  obtain ⟨hC, hR, hl0, hlen, hrest⟩ := S
  refine lv_istore hC.1 hC.2.1 hd hl0 (by rw [← hlen]; exact hn) rfl (fun ls' h' => ?_)
  subst hl
  exact k _ _ _ _ _ _ _ _ _ _ _ _ _ _ _ ⟨hC, hR, lvl_set (v := .int x) (xpb_use hp) h', by rw [List.length_set]; exact hlen, hrest⟩
theorem px_astore_n {lo' : List (Option Value)} {n : Fin 4} {i : Nat} {x : Nat} (hd : decode d.co pc = .ok (.astore_n n, 1)) (hi : (n : Nat) = i) (hp : xpb lo i = true) (hn : i < lo.length) (hl : lo.set i (some (.ref x)) = lo') (k : PR E d ne (pc + 1) lo' st M Q) : PR E d ne pc lo (.ref x :: st) M Q := by
  intro p e R s m args below meth c H ls locs cells slots Z S
  obtain ⟨hC, hR, hl0, hlen, hrest⟩ := S
  refine lv_astore_n hC.1 hC.2.1 hd hi hl0 (by rw [← hlen]; exact hn) rfl (fun ls' h' => ?_)
  subst hl
  exact k _ _ _ _ _ _ _ _ _ _ _ _ _ _ _ ⟨hC, hR, lvl_set (v := .ref x) (xpb_use hp) h', by rw [List.length_set]; exact hlen, hrest⟩
theorem px_astore {lo' : List (Option Value)} {i : Nat} {x : Nat} (hd : decode d.co pc = .ok (.astore i, 2)) (hp : xpb lo i = true) (hn : i < lo.length) (hl : lo.set i (some (.ref x)) = lo') (k : PR E d ne (pc + 2) lo' st M Q) : PR E d ne pc lo (.ref x :: st) M Q := by
  intro p e R s m args below meth c H ls locs cells slots Z S
  obtain ⟨hC, hR, hl0, hlen, hrest⟩ := S
  refine lv_astore hC.1 hC.2.1 hd hl0 (by rw [← hlen]; exact hn) rfl (fun ls' h' => ?_)
  subst hl
  exact k _ _ _ _ _ _ _ _ _ _ _ _ _ _ _ ⟨hC, hR, lvl_set (v := .ref x) (xpb_use hp) h', by rw [List.length_set]; exact hlen, hrest⟩
theorem px_lstore_n {lo' : List (Option Value)} {n : Fin 4} {i : Nat} {x : Int64} (hd : decode d.co pc = .ok (.lstore_n n, 1)) (hi : (n : Nat) = i) (hp : xpb lo i = true) (hn : i + 1 < lo.length) (hl : (lo.set i (some (.long x))).set (i + 1) none = lo') (k : PR E d ne (pc + 1) lo' st M Q) : PR E d ne pc lo (.long x :: st) M Q := by
  intro p e R s m args below meth c H ls locs cells slots Z S
  obtain ⟨hC, hR, hl0, hlen, hrest⟩ := S
  refine lv_lstore_n hC.1 hC.2.1 hd hi hl0 (by rw [← hlen]; exact hn) rfl (fun ls' h' => ?_)
  subst hl
  exact k _ _ _ _ _ _ _ _ _ _ _ _ _ _ _ ⟨hC, hR, lvl_set2 (v := .long x) (xpb_use hp) h', by rw [List.length_set, List.length_set]; exact hlen, hrest⟩
theorem px_lstore {lo' : List (Option Value)} {i : Nat} {x : Int64} (hd : decode d.co pc = .ok (.lstore i, 2)) (hp : xpb lo i = true) (hn : i + 1 < lo.length) (hl : (lo.set i (some (.long x))).set (i + 1) none = lo') (k : PR E d ne (pc + 2) lo' st M Q) : PR E d ne pc lo (.long x :: st) M Q := by
  intro p e R s m args below meth c H ls locs cells slots Z S
  obtain ⟨hC, hR, hl0, hlen, hrest⟩ := S
  refine lv_lstore hC.1 hC.2.1 hd hl0 (by rw [← hlen]; exact hn) rfl (fun ls' h' => ?_)
  subst hl
  exact k _ _ _ _ _ _ _ _ _ _ _ _ _ _ _ ⟨hC, hR, lvl_set2 (v := .long x) (xpb_use hp) h', by rw [List.length_set, List.length_set]; exact hlen, hrest⟩
theorem px_iinc {lo' : List (Option Value)} {i : Nat} {n : Int} {x v : Int32} (hd : decode d.co pc = .ok (.iinc i n, 3)) (hv : lo[i]? = some (some (.int x))) (hx : x + Int32.ofInt n = v) (hp : xpb lo i = true) (hl : lo.set i (some (.int v)) = lo') (k : PR E d ne (pc + 3) lo' st M Q) : PR E d ne pc lo st M Q := by
  intro p e R s m args below meth c H ls locs cells slots Z S
  obtain ⟨hC, hR, hl0, hlen, hrest⟩ := S
  obtain ⟨kk, hk⟩ := List.getElem?_of_mem ((lvl_mem (E := E) lo 0 (i, .int x)).mpr ⟨i, .int x, hv, by rw [Nat.zero_add]; rfl⟩)
  refine lv_iinc hC.1 hC.2.1 hd hl0 hk hx (by rw [← hlen]; exact (List.getElem?_eq_some_iff.mp hv).1) rfl (fun ls' h' => ?_)
  subst hl
  exact k _ _ _ _ _ _ _ _ _ _ _ _ _ _ _ ⟨hC, hR, lvl_set (v := .int v) (xpb_use hp) h', by rw [List.length_set]; exact hlen, hrest⟩
theorem px_icmp_eq {x y : Int32} {off : Int} (tgt : Nat) (hd : decode d.co pc = .ok (.if_icmp .eq off, 3)) (ht : (pc : Int) + off = (tgt : Int)) (kt : x = y → PR E d ne tgt lo st M Q) (kf : ¬ (x = y) → PR E d ne (pc + 3) lo st M Q) : PR E d ne pc lo (.int y :: .int x :: st) M Q := by
  intro p e R s m args below meth c H ls locs cells slots Z S
  exact lv_icmp_eq S.1.1 S.1.2.1 hd ht (fun h => kt h _ _ _ _ _ _ _ _ _ _ _ _ _ _ _ S) (fun h => kf h _ _ _ _ _ _ _ _ _ _ _ _ _ _ _ S)
theorem px_icmp_lt {x y : Int32} {off : Int} (tgt : Nat) (hd : decode d.co pc = .ok (.if_icmp .lt off, 3)) (ht : (pc : Int) + off = (tgt : Int)) (kt : x < y → PR E d ne tgt lo st M Q) (kf : ¬ (x < y) → PR E d ne (pc + 3) lo st M Q) : PR E d ne pc lo (.int y :: .int x :: st) M Q := by
  intro p e R s m args below meth c H ls locs cells slots Z S
  exact lv_icmp_lt S.1.1 S.1.2.1 hd ht (fun h => kt h _ _ _ _ _ _ _ _ _ _ _ _ _ _ _ S) (fun h => kf h _ _ _ _ _ _ _ _ _ _ _ _ _ _ _ S)
theorem px_icmp_ge {x y : Int32} {off : Int} (tgt : Nat) (hd : decode d.co pc = .ok (.if_icmp .ge off, 3)) (ht : (pc : Int) + off = (tgt : Int)) (kt : y ≤ x → PR E d ne tgt lo st M Q) (kf : ¬ (y ≤ x) → PR E d ne (pc + 3) lo st M Q) : PR E d ne pc lo (.int y :: .int x :: st) M Q := by
  intro p e R s m args below meth c H ls locs cells slots Z S
  exact lv_icmp_ge S.1.1 S.1.2.1 hd ht (fun h => kt h _ _ _ _ _ _ _ _ _ _ _ _ _ _ _ S) (fun h => kf h _ _ _ _ _ _ _ _ _ _ _ _ _ _ _ S)
theorem px_icmp_gt {x y : Int32} {off : Int} (tgt : Nat) (hd : decode d.co pc = .ok (.if_icmp .gt off, 3)) (ht : (pc : Int) + off = (tgt : Int)) (kt : y < x → PR E d ne tgt lo st M Q) (kf : ¬ (y < x) → PR E d ne (pc + 3) lo st M Q) : PR E d ne pc lo (.int y :: .int x :: st) M Q := by
  intro p e R s m args below meth c H ls locs cells slots Z S
  exact lv_icmp_gt S.1.1 S.1.2.1 hd ht (fun h => kt h _ _ _ _ _ _ _ _ _ _ _ _ _ _ _ S) (fun h => kf h _ _ _ _ _ _ _ _ _ _ _ _ _ _ _ S)
theorem px_icmp_le {x y : Int32} {off : Int} (tgt : Nat) (hd : decode d.co pc = .ok (.if_icmp .le off, 3)) (ht : (pc : Int) + off = (tgt : Int)) (kt : x ≤ y → PR E d ne tgt lo st M Q) (kf : ¬ (x ≤ y) → PR E d ne (pc + 3) lo st M Q) : PR E d ne pc lo (.int y :: .int x :: st) M Q := by
  intro p e R s m args below meth c H ls locs cells slots Z S
  exact lv_icmp_le S.1.1 S.1.2.1 hd ht (fun h => kt h _ _ _ _ _ _ _ _ _ _ _ _ _ _ _ S) (fun h => kf h _ _ _ _ _ _ _ _ _ _ _ _ _ _ _ S)
theorem px_if_eq {x : Int32} {off : Int} (tgt : Nat) (hd : decode d.co pc = .ok (.ifCond .eq off, 3)) (ht : (pc : Int) + off = (tgt : Int)) (kt : x = 0 → PR E d ne tgt lo st M Q) (kf : ¬ (x = 0) → PR E d ne (pc + 3) lo st M Q) : PR E d ne pc lo (.int x :: st) M Q := by
  intro p e R s m args below meth c H ls locs cells slots Z S
  exact lv_if_eq S.1.1 S.1.2.1 hd ht (fun h => kt h _ _ _ _ _ _ _ _ _ _ _ _ _ _ _ S) (fun h => kf h _ _ _ _ _ _ _ _ _ _ _ _ _ _ _ S)
theorem px_if_lt {x : Int32} {off : Int} (tgt : Nat) (hd : decode d.co pc = .ok (.ifCond .lt off, 3)) (ht : (pc : Int) + off = (tgt : Int)) (kt : x < 0 → PR E d ne tgt lo st M Q) (kf : ¬ (x < 0) → PR E d ne (pc + 3) lo st M Q) : PR E d ne pc lo (.int x :: st) M Q := by
  intro p e R s m args below meth c H ls locs cells slots Z S
  exact lv_if_lt S.1.1 S.1.2.1 hd ht (fun h => kt h _ _ _ _ _ _ _ _ _ _ _ _ _ _ _ S) (fun h => kf h _ _ _ _ _ _ _ _ _ _ _ _ _ _ _ S)
theorem px_if_ge {x : Int32} {off : Int} (tgt : Nat) (hd : decode d.co pc = .ok (.ifCond .ge off, 3)) (ht : (pc : Int) + off = (tgt : Int)) (kt : 0 ≤ x → PR E d ne tgt lo st M Q) (kf : ¬ (0 ≤ x) → PR E d ne (pc + 3) lo st M Q) : PR E d ne pc lo (.int x :: st) M Q := by
  intro p e R s m args below meth c H ls locs cells slots Z S
  exact lv_if_ge S.1.1 S.1.2.1 hd ht (fun h => kt h _ _ _ _ _ _ _ _ _ _ _ _ _ _ _ S) (fun h => kf h _ _ _ _ _ _ _ _ _ _ _ _ _ _ _ S)
theorem px_if_gt {x : Int32} {off : Int} (tgt : Nat) (hd : decode d.co pc = .ok (.ifCond .gt off, 3)) (ht : (pc : Int) + off = (tgt : Int)) (kt : 0 < x → PR E d ne tgt lo st M Q) (kf : ¬ (0 < x) → PR E d ne (pc + 3) lo st M Q) : PR E d ne pc lo (.int x :: st) M Q := by
  intro p e R s m args below meth c H ls locs cells slots Z S
  exact lv_if_gt S.1.1 S.1.2.1 hd ht (fun h => kt h _ _ _ _ _ _ _ _ _ _ _ _ _ _ _ S) (fun h => kf h _ _ _ _ _ _ _ _ _ _ _ _ _ _ _ S)
theorem px_if_le {x : Int32} {off : Int} (tgt : Nat) (hd : decode d.co pc = .ok (.ifCond .le off, 3)) (ht : (pc : Int) + off = (tgt : Int)) (kt : x ≤ 0 → PR E d ne tgt lo st M Q) (kf : ¬ (x ≤ 0) → PR E d ne (pc + 3) lo st M Q) : PR E d ne pc lo (.int x :: st) M Q := by
  intro p e R s m args below meth c H ls locs cells slots Z S
  exact lv_if_le S.1.1 S.1.2.1 hd ht (fun h => kt h _ _ _ _ _ _ _ _ _ _ _ _ _ _ _ S) (fun h => kf h _ _ _ _ _ _ _ _ _ _ _ _ _ _ _ S)
theorem px_icmp_ne {x y : Int32} {off : Int} (tgt : Nat) (hd : decode d.co pc = .ok (.if_icmp .ne off, 3)) (ht : (pc : Int) + off = (tgt : Int)) (kt : ¬ x = y → PR E d ne tgt lo st M Q) (kf : x = y → PR E d ne (pc + 3) lo st M Q) : PR E d ne pc lo (.int y :: .int x :: st) M Q := by
  intro p e R s m args below meth c H ls locs cells slots Z S
  exact lv_icmp_ne S.1.1 S.1.2.1 hd ht (fun h => kt h _ _ _ _ _ _ _ _ _ _ _ _ _ _ _ S) (fun h => kf h _ _ _ _ _ _ _ _ _ _ _ _ _ _ _ S)
theorem px_if_ne {x : Int32} {off : Int} (tgt : Nat) (hd : decode d.co pc = .ok (.ifCond .ne off, 3)) (ht : (pc : Int) + off = (tgt : Int)) (kt : ¬ x = 0 → PR E d ne tgt lo st M Q) (kf : x = 0 → PR E d ne (pc + 3) lo st M Q) : PR E d ne pc lo (.int x :: st) M Q := by
  intro p e R s m args below meth c H ls locs cells slots Z S
  exact lv_if_ne S.1.1 S.1.2.1 hd ht (fun h => kt h _ _ _ _ _ _ _ _ _ _ _ _ _ _ _ S) (fun h => kf h _ _ _ _ _ _ _ _ _ _ _ _ _ _ _ S)
theorem px_goto {off : Int} (tgt : Nat) (hd : decode d.co pc = .ok (.goto off, 3)) (ht : (pc : Int) + off = (tgt : Int)) (k : PR E d ne tgt lo st M Q) : PR E d ne pc lo st M Q := by
  intro p e R s m args below meth c H ls locs cells slots Z S
  exact lv_goto S.1.1 S.1.2.1 hd ht (k _ _ _ _ _ _ _ _ _ _ _ _ _ _ _ S)
theorem px_tableOut {dflt lo' hi : Int} {offs : Array Int} {len : Nat} {x : Int32} (tgt : Nat) (hd : decode d.co pc = .ok (.tableswitch dflt lo' hi offs, len)) (h : x.toInt < lo' ∨ hi < x.toInt) (ht : (pc : Int) + dflt = (tgt : Int)) (k : PR E d ne tgt lo st M Q) : PR E d ne pc lo (.int x :: st) M Q := by
  intro p e R s m args below meth c H ls locs cells slots Z S
  exact lv_tableOut S.1.1 S.1.2.1 hd h ht (k _ _ _ _ _ _ _ _ _ _ _ _ _ _ _ S)
theorem px_tableIn {dflt lo' hi : Int} {offs : Array Int} {len : Nat} {x : Int32} {off : Int} (tgt : Nat) (hd : decode d.co pc = .ok (.tableswitch dflt lo' hi offs, len)) (h1 : ¬ x.toInt < lo') (h2 : ¬ hi < x.toInt) (ho : offs[(x.toInt - lo').toNat]? = some off) (ht : (pc : Int) + off = (tgt : Int)) (k : PR E d ne tgt lo st M Q) : PR E d ne pc lo (.int x :: st) M Q := by
  intro p e R s m args below meth c H ls locs cells slots Z S
  exact lv_tableIn S.1.1 S.1.2.1 hd h1 h2 ho ht (k _ _ _ _ _ _ _ _ _ _ _ _ _ _ _ S)
theorem px_lookup {dflt : Int} {ps : Array (Int × Int)} {len : Nat} {x : Int32} {off : Int} (tgt : Nat) (hd : decode d.co pc = .ok (.lookupswitch dflt ps, len)) (hp : (ps.toList.zip (ps.toList.drop 1)).all (fun (a, next) => a.1 < next.1) = true) (ho : Op.lookupswitch.offset ps.toList dflt x.toInt = off) (ht : (pc : Int) + off = (tgt : Int)) (k : PR E d ne tgt lo st M Q) : PR E d ne pc lo (.int x :: st) M Q := by
  intro p e R s m args below meth c H ls locs cells slots Z S
  exact lv_lookup S.1.1 S.1.2.1 hd hp ho ht (k _ _ _ _ _ _ _ _ _ _ _ _ _ _ _ S)
theorem px_ldc {index : Nat} {v : Int32} (hd : decode d.co pc = .ok (.ldc index, 2)) (hw : Cond.constant d.nm.cls index v ∈ xwl) (k : PR E d ne (pc + 2) lo (.int v :: st) M Q) : PR E d ne pc lo st M Q := by
  intro p e R s m args below meth c H ls locs cells slots Z S
  exact lv_ldc S.1.1 S.1.2.1 S.1.2.2.2.1 (S.1.2.2.2.2.1 _ hw) hd (k _ _ _ _ _ _ _ _ _ _ _ _ _ _ _ S)
theorem px_ldc2 {index : Nat} {v : Int64} (hd : decode d.co pc = .ok (.ldc2_w index, 3)) (hw : Cond.constantLong d.nm.cls index v ∈ xwl) (k : PR E d ne (pc + 3) lo (.long v :: st) M Q) : PR E d ne pc lo st M Q := by
  intro p e R s m args below meth c H ls locs cells slots Z S
  exact lv_ldc2 S.1.1 S.1.2.1 S.1.2.2.2.1 (S.1.2.2.2.2.1 _ hw) hd (k _ _ _ _ _ _ _ _ _ _ _ _ _ _ _ S)
theorem px_ldcS {index i : Nat} {tx : String} (hd : decode d.co pc = .ok (.ldc index, 2)) (hq : (d.nm.cls, index, tx, i) ∈ xstr) (k : PR E d ne (pc + 2) lo (.ref (1000 + i) :: st) M Q) : PR E d ne pc lo st M Q := by
  intro p e R s m args below meth c H ls locs cells slots Z S
  have ea : cv E (.ref (1000 + i)) = .ref (E.sk i) := by
    show Value.ref (ad E (1000 + i)) = _
    unfold ad
    rw [if_neg (by omega), if_neg (by omega), Nat.add_sub_cancel_left]
  have k1 := k p e R s m args below meth c H ls locs cells slots Z S
  rw [List.map_cons, ea] at k1
  exact va_ldcS S.1.1 S.1.2.1 S.1.2.2.2.1 (S.1.2.2.2.2.2.1.2.2.2 _ hq) hd k1
theorem px_ret (hd : decode d.co pc = .ok (.return_, 1)) (hr : d.rt = none) (hq : Q none M) (hn : xN M = ne) : PR E d ne pc lo [] M Q := by
  intro p e R s m args below meth c H ls locs cells slots Z S
  exact S.2.1 none M H ls pc locs cells slots hq hn ⟨hd, hr⟩ S.2.2.2.2.1 S.2.2.2.2.2.1 (by have := S.2.2.2.2.2.2.2.1; omega) (by have := S.2.2.2.2.2.2.2.2; omega)
theorem px_iret {v : Int32} (hd : decode d.co pc = .ok (.ireturn, 1)) (hr : d.rt = some .int) (hq : Q (some (.int v)) M) (hn : xN M = ne) : PR E d ne pc lo [.int v] M Q := by
  intro p e R s m args below meth c H ls locs cells slots Z S
  exact S.2.1 (some (.int v)) M H ls pc locs cells slots hq hn ⟨hd, .int, hr, rfl⟩ S.2.2.2.2.1 S.2.2.2.2.2.1 (by have := S.2.2.2.2.2.2.2.1; omega) (by have := S.2.2.2.2.2.2.2.2; omega)
theorem px_zret {v : Int32} (hd : decode d.co pc = .ok (.ireturn, 1)) (hr : d.rt = some .boolean) (hv : narrow .boolean (.int v) = .int v) (hq : Q (some (.int v)) M) (hn : xN M = ne) : PR E d ne pc lo [.int v] M Q := by
  intro p e R s m args below meth c H ls locs cells slots Z S
  exact S.2.1 (some (.int v)) M H ls pc locs cells slots hq hn ⟨hd, .boolean, hr, hv⟩ S.2.2.2.2.1 S.2.2.2.2.2.1 (by have := S.2.2.2.2.2.2.2.1; omega) (by have := S.2.2.2.2.2.2.2.2; omega)
theorem px_lret {v : Int64} (hd : decode d.co pc = .ok (.lreturn, 1)) (hr : d.rt = some .long) (hq : Q (some (.long v)) M) (hn : xN M = ne) : PR E d ne pc lo [.long v] M Q := by
  intro p e R s m args below meth c H ls locs cells slots Z S
  exact S.2.1 (some (.long v)) M H ls pc locs cells slots hq hn ⟨hd, hr⟩ S.2.2.2.2.1 S.2.2.2.2.2.1 (by have := S.2.2.2.2.2.2.2.1; omega) (by have := S.2.2.2.2.2.2.2.2; omega)
theorem px_aret {v : Nat} {C : String} (hd : decode d.co pc = .ok (.areturn, 1)) (hr : d.rt = some (.object C)) (hq : Q (some (.ref v)) M) (hn : xN M = ne) : PR E d ne pc lo [.ref v] M Q := by
  intro p e R s m args below meth c H ls locs cells slots Z S
  exact S.2.1 (some (.ref v)) M H ls pc locs cells slots hq hn ⟨hd, _, hr, Or.inl ⟨_, rfl⟩⟩ S.2.2.2.2.1 S.2.2.2.2.2.1 (by have := S.2.2.2.2.2.2.2.1; omega) (by have := S.2.2.2.2.2.2.2.2; omega)
/-- another name for the top -/
theorem px_top {x y : Int32} (h : x = y) (k : PR E d ne pc lo (.int y :: st) M Q) : PR E d ne pc lo (.int x :: st) M Q := h ▸ k
theorem px_topr {x y : Nat} (h : x = y) (k : PR E d ne pc lo (.ref y :: st) M Q) : PR E d ne pc lo (.ref x :: st) M Q := h ▸ k
theorem px_topl {x y : Int64} (h : x = y) (k : PR E d ne pc lo (.long y :: st) M Q) : PR E d ne pc lo (.long x :: st) M Q := h ▸ k
theorem px_mem {M' : xMem} (h : M = M') (k : PR E d ne pc lo st M' Q) : PR E d ne pc lo st M Q := h ▸ k
end RULES
