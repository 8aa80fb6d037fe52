/-! THE CLAIM OUT OF ONE WALK OF THE LAW'S BODY. Your part is whole_start (and what it stands on); all else here is the same for every law, but numbers. -/
def R_law : String := "FrameSheetsLaw"
def lw_P (b : Addr) (xs : List Int32) (args : Array Value) (s : State) : Prop := args = #[.ref b] ∧ s.IntsAt b xs ∧ xs.length ≤ 3072 ∧ (Jvm.Cond.and given_1 narrow_1).before args s = true
def lw_Q (_ : Array Value) (s : State) (o : Outcome) (t : State) : Prop := o = .returned (some (.int 1)) ∧ Framed s o t [] 600000 7302250
def lw_Z (below : List Frame) (a : Array Value) (s : State) : State → Prop := fun t => ∃ o, t.status = .running ∧ Ended t below o ∧ lw_Q a s o t
/-- the law's own end, with 1 on the stack, nothing written that was there before, its room as the claim has it -/
theorem lw_ret {p : Program} {l : Launch} {e : Env} {s : State} {m : MethodId} {below : List Frame} {meth : Method} {c : Code} {b : Nat} (hx : p.tables.exec = Jvm.exec) (hb : c.code = code) (hr : meth.sig.returnType = ret) (hlocks : meth.locks = false) {pc : Nat} {H : Heap} {ls : Array Slot} (hdg : decode code pc = .ok (.ireturn, 1)) : W p l e room_1 s m #[Value.ref b] below meth c H [] 600000 7302250 (lw_Z below #[Value.ref b] s) (F0 m pc ls [.int 1]) := by
  intro T hT X
  obtain ⟨fs, hret, hrun, hended, hW, hframe⟩ := X.leave (v := some (.int 1)) (hlocks := hlocks) (fun h => by rw [hr] at h; cases h)
  have hmeth' : T.vm.method? m = some meth := X.method'
  refine ⟨T.setFrames fs, ?_, .returned (some (.int 1)), hrun, hended, rfl, ⟨_, rfl⟩, hW, hframe⟩
  jvm_step X.here [X.here.top, hx, hb, hdg, hmeth', hr, ret, narrow_b1]
  (try refine ⟨rfl, ?_⟩); (try refine ⟨rfl, ?_⟩)
  first | (intro acts; rw [hret _ acts rfl rfl rfl]) | rw [hret _ _ rfl rfl rfl]
  exact Steps.refl _
/-- what holds at the law's entry: the machine, the code, the tables' words (any of lw_tbl by 'hts w (by decide +kernel)'), the script of L ints xs at the cell b, what the Statement gives of the start (any of its parts by flat_of_before) -/
def lw_At (p : Program) (s : State) (m : MethodId) (meth : Method) (c : Code) (b L : Nat) (xs : Nat → Int32) : Prop :=
  p.tables.exec = Jvm.exec ∧ c.code = code ∧ meth.sig.returnType = ret ∧ c.maxLocals = 4 ∧ s.vm.findClass R_law = some m.cls ∧ (∀ w ∈ lw_tbl, w.before #[Value.ref b] s = true) ∧ va_X b L xs s s.heap ∧ b < s.heap.size ∧ meth.locks = false ∧ (Jvm.Cond.and given_1 narrow_1).before #[Value.ref b] s = true ∧ meth.name = "law"
theorem lw_arr {s : State} {args : Array Value} {ty : FieldType} (hra : ∀ cA, s.vm.findClass ("[" ++ ty.toString) = some cA → va_RA s cA ty) (h : (Cond.arrayClass ty).before args s = true) : ∃ cA : ClassId, ArrOfT s cA ty ∧ va_RA s cA ty := by
  obtain ⟨c, k, comp, h1, h2, h3⟩ := Cond.arrayClass_spec h
  exact ⟨c, fun n z => ⟨fun k h => (by cases h), k, h2, comp, h3⟩, hra c h1⟩
theorem lw_arO {s : State} {args : Array Value} {C : String} (h : (Cond.arrayOver (.object C)).before args s = true) : ∃ cA : ClassId, ArrOfT s cA (.object C) ∧ va_RA s cA (.object C) := by
  obtain ⟨comp, c, k, h1, h2, h3, h4, h5⟩ := Cond.arrayOver_spec h
  exact ⟨c, fun n z => ⟨fun k h => (by cases h), k, h3, comp, h4⟩, k, comp, h3, h4, h1, h5⟩
theorem lw_kn {s : State} {args : Array Value} {d : xMD} {idx c : Nat} (hts : ∀ w ∈ xwl, w.before args s = true) (h : xNW d idx c) : ∃ q : ClassId × (Nat → Nat), u_Kn s (xcl c).1 (xcl c).2.1 (xcl c).2.2 q.1 q.2 := by
  obtain ⟨cC, iS, hq⟩ := u_known (C := (xcl c).1) (T := (xcl c).2.1) (N := (xcl c).2.2) (n := (xcl c).2.2) hts h.2.2.2.2.2.2.1 (hts _ h.2.1)
  exact ⟨(cC, iS), hq⟩
theorem vw_len : vwCl.length = 12 := by decide +kernel
/-- the classes' numbers and slots -/
theorem lw_D {s : State} {args : Array Value} (hts : ∀ w ∈ xwl, w.before args s = true) : ∃ D : va_G, ∀ (c : Nat) (q : vw_C), vwCl[c]? = some q → u_Kn s q.1 q.2.1 q.2.2 (D.1 c) (D.2 c) := by
  have h0 : ∀ c : Nat, ∃ q : ClassId × (Nat → Nat), c < 12 → u_Kn s (xcl c).1 (xcl c).2.1 (xcl c).2.2 q.1 q.2 := by
    intro c
    by_cases hc : c < 12
    · have : ∃ q : ClassId × (Nat → Nat), u_Kn s (xcl c).1 (xcl c).2.1 (xcl c).2.2 q.1 q.2 := by
        rcases (show c = 0 ∨ c = 1 ∨ c = 2 ∨ c = 3 ∨ c = 4 ∨ c = 5 ∨ c = 6 ∨ c = 7 ∨ c = 8 ∨ c = 9 ∨ c = 10 ∨ c = 11 by omega) with rfl | rfl | rfl | rfl | rfl | rfl | rfl | rfl | rfl | rfl | rfl | rfl
        · exact lw_kn hts nX7_init_9
        · exact lw_kn hts nX8_init_9
        · exact lw_kn hts nX10_init_50
        · exact lw_kn hts nX10_init_36
        · exact lw_kn hts nX2_init_9
        · exact lw_kn hts nX10_init_9
        · exact lw_kn hts nX10_init_43
        · exact lw_kn hts nX3_init_9
        · exact lw_kn hts nX10_init_21
        · exact lw_kn hts nX10_init_15
        · exact lw_kn hts nL_law_7
        · exact lw_kn hts nL_law_10
      obtain ⟨q, hq⟩ := this
      exact ⟨q, fun _ => hq⟩
    · obtain ⟨q, _⟩ := lw_kn hts nX7_init_9
      exact ⟨q, fun h => absurd h hc⟩
  obtain ⟨f, hf⟩ := Classical.axiomOfChoice h0
  refine ⟨(fun c => (f c).1, fun c => (f c).2), fun c q hq => ?_⟩
  have hc : c < 12 := by rw [← vw_len]; exact (List.getElem?_eq_some_iff.mp hq).1
  have e : xcl c = q := by unfold xcl; rw [List.getD_eq_getElem?_getD, hq]; rfl
  rw [← e]
  exact hf c hc
/-- the array classes -/
theorem lw_A {s : State} {args : Array Value} (hts : ∀ w ∈ lw_tbl, w.before args s = true) : ∃ cA : Nat → ClassId, ∀ k, 20 ≤ k → k < 27 → ArrOfT s (cA k) (xTy k) ∧ va_RA s (cA k) (xTy k) := by
  have h0 : ∀ k : Nat, ∃ cA : ClassId, 20 ≤ k → k < 27 → ArrOfT s cA (xTy k) ∧ va_RA s cA (xTy k) := by
    intro k
    by_cases hk : 20 ≤ k ∧ k < 27
    · have : ∃ cA : ClassId, ArrOfT s cA (xTy k) ∧ va_RA s cA (xTy k) := by
        rcases (show k = 20 ∨ k = 21 ∨ k = 22 ∨ k = 23 ∨ k = 24 ∨ k = 25 ∨ k = 26 by omega) with rfl | rfl | rfl | rfl | rfl | rfl | rfl
        · exact lw_arr (ty := .int) (fun _ h => h) (hts (.arrayClass .int) (by decide +kernel))
        · exact lw_arr (ty := .byte) (fun _ h => h) (hts (.arrayClass .byte) (by decide +kernel))
        · exact lw_arr (ty := .boolean) (fun _ h => h) (hts (.arrayClass .boolean) (by decide +kernel))
        · exact lw_arO (hts (.arrayOver (.object RX5)) (by decide +kernel))
        · exact lw_arO (hts (.arrayOver (.object RX9)) (by decide +kernel))
        · exact lw_arO (hts (.arrayOver (.object RX8)) (by decide +kernel))
        · exact lw_arO (hts (.arrayOver (.object RX0)) (by decide +kernel))
      obtain ⟨cA, h⟩ := this
      exact ⟨cA, fun _ _ => h⟩
    · obtain ⟨cA, _⟩ := lw_arr (ty := .int) (fun _ h => h) (hts (.arrayClass .int) (by decide +kernel))
      exact ⟨cA, fun h1 h2 => absurd ⟨h1, h2⟩ hk⟩
  obtain ⟨f, hf⟩ := Classical.axiomOfChoice h0
  exact ⟨f, hf⟩
def lw_tms : List Term := [.string RX3 69, .string RX3 87, .string RX10 361, .string RX10 355, .string RX10 357, .string RX10 359]
def lw_tm (i : Nat) : Term := lw_tms.getD i (.int 0)
theorem lw_m1 : ∀ i, i < 6 → Cond.exactly (lw_tm i) "java/lang/String" ∈ flatC (Jvm.Cond.and given_1 narrow_1) := by decide +kernel
theorem lw_m2 : ∀ i, i < 6 → Cond.eq (.field (lw_tm i) "java/lang/String" "coder" "B") (.int 0) ∈ flatC (Jvm.Cond.and given_1 narrow_1) := by decide +kernel
theorem lw_m3 : ∀ i, i < 6 → Cond.arrayOf (.field (lw_tm i) "java/lang/String" "value" "[B") .byte ∈ flatC (Jvm.Cond.and given_1 narrow_1) := by decide +kernel
theorem lw_m4 : ∀ i, i < 6 → Cond.eq (.length (.field (lw_tm i) "java/lang/String" "value" "[B")) (.int (Int32.ofNat (xslen.getD i 0))) ∈ flatC (Jvm.Cond.and given_1 narrow_1) := by decide +kernel
theorem lw_m5 : ∀ i, i < 6 → ∀ j, j < xslen.getD i 0 → Cond.eq (.elem (.field (lw_tm i) "java/lang/String" "value" "[B") (.int (Int32.ofNat j))) (.int ((xsbyt.getD i []).getD j 0)) ∈ flatC (Jvm.Cond.and given_1 narrow_1) := by decide +kernel
theorem lw_m6 : ∀ i, i < 6 → ∀ j, j < 6 → i ≠ j → Cond.not (Cond.eq (lw_tm i) (lw_tm j)) ∈ flatC (Jvm.Cond.and given_1 narrow_1) ∨ Cond.not (Cond.eq (lw_tm j) (lw_tm i)) ∈ flatC (Jvm.Cond.and given_1 narrow_1) := by decide +kernel
theorem lw_slt : ∀ i, i < 6 → xslen.getD i 0 < 2 ^ 31 := by decide
theorem vk_S_c {N : Nat} {len : List Nat} {byt : List (List Int32)} {k k' v v' : Nat → Nat} {A : Nat → Prop} {U : State} {H : Heap} (h : vk_S N len byt k v A U H) (e1 : ∀ i, i < N → k' i = k i) (e2 : ∀ i, i < N → v' i = v i) : vk_S N len byt k' v' A U H := by
  refine ⟨fun i hi => ?_, fun i j hi hj => ?_⟩
  · rw [e1 i hi, e2 i hi]; exact h.1 i hi
  · rw [e1 i hi, e1 j hj]; exact h.2 i j hi hj
/-- the string constants and the statics -/
theorem lw_str {s : State} {b : Nat} (hts : ∀ w ∈ lw_tbl, w.before #[Value.ref b] s = true) (hgv : (Jvm.Cond.and given_1 narrow_1).before #[Value.ref b] s = true) : ∃ sk : Nat → Nat, (vk_S 6 xslen xsbyt sk (fun i => sk (1000 + i)) (fun q => s.heap.size ≤ q) s s.heap ∧ va_Z "java/lang/String" "COMPACT_STRINGS" "Z" (.int 1) (fun q => s.heap.size ≤ q) s s.heap ∧ (va_Z "jdk/internal/util/Preconditions" "SIOOBE_FORMATTER" "Ljava/util/function/BiFunction;" .null (fun q => s.heap.size ≤ q) s s.heap ∨ va_Z "jdk/internal/util/Preconditions" "SIOOBE_FORMATTER" "Ljava/util/function/BiFunction;" (.ref (sk 2000)) (fun q => s.heap.size ≤ q) s s.heap)) ∧ ∀ q ∈ xstr, vk_R q.1 q.2.1 q.2.2.1 (sk q.2.2.2) s := by
  have hs := flat_of_before _ hgv
  have hA : ∀ a : Nat, a < s.heap.size → ¬ (fun q => s.heap.size ≤ q) a := fun a h => Nat.not_le.mpr h
  obtain ⟨adK, adV, hS, hev⟩ := vk_Sof (args := #[Value.ref b]) (s := s) (N := 6) (tm := lw_tm) (len := xslen) (byt := xsbyt) (A := fun q => s.heap.size ≤ q) lw_slt (fun i hi => hs _ (lw_m1 i hi)) (fun i hi => hs _ (lw_m2 i hi)) (fun i hi => hs _ (lw_m3 i hi)) (fun i hi => hs _ (lw_m4 i hi)) (fun i hi j hj => hs _ (lw_m5 i hi j hj)) (fun i j hi hj hij => (lw_m6 i hi j hj hij).imp (fun z => hs _ z) (fun z => hs _ z)) hA
  have hcs : va_Z "java/lang/String" "COMPACT_STRINGS" "Z" (.int 1) (fun q => s.heap.size ≤ q) s s.heap := va_Zof (hts (.laysStatic "java/lang/String" "COMPACT_STRINGS" "Z") (by decide +kernel)) (hts (.initialized "java/lang/String") (by decide +kernel)) (va_eqt (hs (.eq (.static "java/lang/String" "COMPACT_STRINGS" "Z") (.int 1)) (by decide +kernel))) hA
  obtain ⟨v, hv, hvr⟩ := Cond.isRef_spec (hs (.isRef (.static "jdk/internal/util/Preconditions" "SIOOBE_FORMATTER" "Ljava/util/function/BiFunction;")) (by decide +kernel))
  have hz : va_Z "jdk/internal/util/Preconditions" "SIOOBE_FORMATTER" "Ljava/util/function/BiFunction;" v (fun q => s.heap.size ≤ q) s s.heap := va_Zof (hts (.laysStatic "jdk/internal/util/Preconditions" "SIOOBE_FORMATTER" "Ljava/util/function/BiFunction;") (by decide +kernel)) (hts (.initialized "jdk/internal/util/Preconditions") (by decide +kernel)) hv hA
  have hvv : ∃ t : Nat, v = .null ∨ v = .ref t := by
    cases v with
    | null => exact ⟨0, Or.inl rfl⟩
    | ref t => exact ⟨t, Or.inr rfl⟩
    | int _ => cases hvr
    | long _ => cases hvr
    | float _ => cases hvr
    | double _ => cases hvr
    | retAddr _ => cases hvr
  obtain ⟨t, ht⟩ := hvv
  refine ⟨fun i => if i < 1000 then adK i else if i < 2000 then adV (i - 1000) else t, ⟨vk_S_c hS (fun i hi => if_pos (by omega)) (fun i hi => ?_), hcs, ?_⟩, ?_⟩
  · show (if 1000 + i < 1000 then adK (1000 + i) else if 1000 + i < 2000 then adV (1000 + i - 1000) else t) = adV i
    rw [if_neg (by omega), if_pos (by omega), Nat.add_sub_cancel_left]
  · rcases ht with rfl | rfl
    · exact Or.inl hz
    · exact Or.inr hz
  · have e0 := hev 0 (by decide)
    have e1 := hev 1 (by decide)
    intro q hq
    simp only [xstr, List.mem_cons, List.not_mem_nil, or_false] at hq
    rcases hq with rfl | rfl | rfl | rfl | rfl | rfl | rfl | rfl
    · exact vk_R.of (hts (.stringRef RX3 69 "page") (by decide +kernel)) e0
    · exact vk_R.of (hts (.stringRef RX3 87 "bleed") (by decide +kernel)) e1
    · exact vk_R.of (hts (.stringRef RX10 355 "icon") (by decide +kernel)) (hev 3 (by decide))
    · exact vk_R.of (hts (.stringRef RX10 357 "border") (by decide +kernel)) (hev 4 (by decide))
    · exact vk_R.of (hts (.stringRef RX10 359 "logo") (by decide +kernel)) (hev 5 (by decide))
    · exact vk_R.of (hts (.stringRef RX10 361 "frame") (by decide +kernel)) (hev 2 (by decide))
    · exact vk_R.of (hts (.stringRef RX6 19 "page") (by decide +kernel)) (va_eqR (hs (.eq (.string RX3 69) (.string RX6 19)) (by decide +kernel)) e0)
    · exact vk_R.of (hts (.stringRef RX6 43 "bleed") (by decide +kernel)) (va_eqR (hs (.eq (.string RX3 87) (.string RX6 43)) (by decide +kernel)) e1)
theorem lw_nest : ∀ w ∈ xnest, w ∈ lw_tbl ∧ w.onTables = true := by decide +kernel
theorem lw_over : ∀ C ∈ [RX5, RX9, RX8, RX0], Cond.arrayOver (.object C) ∈ lw_tbl := by decide +kernel
/-- YOUR PART: from the entry, for every script of at most 3072 ints, the law comes to its end with true -/
theorem whole_start {p : Program} {e : Env} {s : State} {m : MethodId} {below : List Frame} {meth : Method} {c : Code} (l : Launch) {b L : Nat} {xs : Nat → Int32} (hL : L ≤ 3072) (C0 : lw_At p s m meth c b L xs) : W p l e room_1 s m #[Value.ref b] below meth c s.heap [] 0 0 (lw_Z below #[Value.ref b] s) (entryFrame m ([Value.ref b] : List Value).toArray 4) := by
  obtain ⟨hx, hb, hr, hml, hown, hts, hX, hbl, hlocks, hgv, hnm⟩ := id C0
  have htx : ∀ w ∈ xwl, w.before #[Value.ref b] s = true := fun w hw => hts w (List.mem_filter.mp hw).1
  obtain ⟨D, hD⟩ := lw_D htx
  obtain ⟨cA, hcA⟩ := lw_A hts
  obtain ⟨sk, hO, hStr⟩ := lw_str hts hgv
  have hl := lv_entry ([.ref b]) (n := 4) (Nat.le_of_ble_eq_true rfl)
  rw [lg_entry_eq]
  generalize (lg_sl ([.ref b]) ++ List.replicate (4 - (lg_sl ([.ref b])).length) Slot.unset).toArray = ls at hl ⊢
  have hl : lv_has ls 4 [(0, .ref b)] := hl
  let E : xE := (l, D, cA, s.heap.size, b, L, xs, sk, sk)
  have hK : xKN E s := by
    refine ⟨⟨hD, fun k q hq => ?_⟩, fun w hw => va_Nw.of (lw_nest w hw).2 (hts w (lw_nest w hw).1), fun C hC => va_AO.of (hts _ (lw_over C hC)), hStr⟩
    have hk : k < 7 := (List.getElem?_eq_some_iff.mp hq).1
    rcases (show k = 0 ∨ k = 1 ∨ k = 2 ∨ k = 3 ∨ k = 4 ∨ k = 5 ∨ k = 6 by omega) with rfl | rfl | rfl | rfl | rfl | rfl | rfl
    · cases hq; exact hcA 20 (by decide) (by decide)
    · cases hq; exact hcA 21 (by decide) (by decide)
    · cases hq; exact hcA 22 (by decide) (by decide)
    · cases hq; exact hcA 23 (by decide) (by decide)
    · cases hq; exact hcA 24 (by decide) (by decide)
    · cases hq; exact hcA 25 (by decide) (by decide)
    · cases hq; exact hcA 26 (by decide) (by decide)
  let M0 : xMem := (fun _ _ => 0, fun _ _ => 0, fun _ _ => 0, 0)
  have hH : Hold E M0 s s.heap := ⟨fun _ => rfl, fun k q hq => absurd (ws_of hq).1 (Nat.not_lt_zero _), hX, hO, hbl, Nat.le_refl _⟩
  refine lw_all (E := E) (M := M0) hL rfl p e room_1 s m #[Value.ref b] below meth c s.heap ls [] 0 0 _ ⟨⟨hx, hb, hml, hown, htx, hK, Nat.le_of_ble_eq_true rfl, Nat.le_of_ble_eq_true rfl, hnm, Nat.le_refl _⟩, ?_, hl, rfl, hH, va_S.rf, Nat.zero_le _, Nat.le_of_ble_eq_true rfl, by decide +kernel⟩
  intro r M' H' ls' pc' locs' cells' slots' hq hn hok hH' hS' hc' hs'
  cases hq
  refine va_forget (fun q hq => hS'.2.2 q hq) ?_
  refine W.widen (k := 600000) (n := 7302250) hc' hs' ?_
  exact lw_ret hx hb hr hlocks hok.1
set_option maxHeartbeats 4000000 in
theorem lw_walk (l : Launch) (b : Addr) (xs : List Int32) : MetFree l x (headSpec (Jvm.Cond.code x code maxLocals ret :: tables_1) room_1) (lw_P b xs) (fun _ _ _ _ _ => True) lw_Q := by
  refine MetFree.of_bodyS (code := code) (maxLocals := maxLocals) (ret := ret) (by decide) ?_ ?_
  · intro args s m h hn
    obtain ⟨meth, c, h1, h2, h3, h4, h5, h6, -, -⟩ := Cond.code_spec hn (atoms_spec (ws := Jvm.Cond.code x code maxLocals ret :: tables_1) h _ List.mem_cons_self)
    exact ⟨meth, c, h1, h2, h3, h4, h5, h6⟩
  · intro p e s m args below meth c s₁ B hml0 hP _
    obtain ⟨rfl, hx, hbd, hgv⟩ := hP
    obtain ⟨scr, harrAt, hlist, hof, hsmall⟩ := hx
    obtain ⟨hcb, hkn, -, -⟩ := State.arrayAt?_spec harrAt
    have hown : s.vm.findClass R_law = some m.cls := findClass_of_methodNamed B.named
    have hts0 : ∀ c ∈ (Jvm.Cond.code x code maxLocals ret :: tables_1), c.before #[Value.ref b] s = true := atoms_spec (ws := Jvm.Cond.code x code maxLocals ret :: tables_1) B.pre
    have hts : ∀ w ∈ lw_tbl, w.before #[Value.ref b] s = true := k2_hts_sels lw_privs (fun w hw => hts0 w (List.mem_cons_of_mem _ hw)) lw_privs_ok
    have hml : c.maxLocals = 4 := B.maxLocals_eq (hts0 _ List.mem_cons_self)
    have X₀ : Stand p l e room_1 s m #[Value.ref b] below meth c s₁ [] 0 0 := Stand.of_body B
    have hh0 : s₁.heap = s.heap := by rw [B.state]; rfl
    have hsz : scr.slots.size = xs.length := by rw [← Array.length_toList, hlist, List.length_map]
    have hval : ∀ j : Nat, j < xs.length → scr.slots[j]? = some (.int (xs.getD j 0)) := fun j hj => by
      rw [← Array.getElem?_toList, hlist]
      simp [hj]
    have hbl : b < s.heap.size := (Array.getElem?_eq_some_iff.mp hcb).1
    have hX : va_X b xs.length (fun j => xs.getD j 0) s s.heap := ⟨scr, hcb, hof, hkn, hsz, hval⟩
    have K : W p l e room_1 s m #[Value.ref b] below meth c s₁.heap [] 0 0 (lw_Z below #[Value.ref b] s) (entryFrame m ([Value.ref b] : List Value).toArray 4) := by
      rw [hh0]
      exact whole_start l hbd ⟨B.exec, B.bytes, B.returns, hml, hown, hts, hX, hbl, B.notSynchronized, hgv, (name_of_methodNamed B.named B.method).1⟩
    obtain ⟨t, a1, o, b1, b2, b3⟩ := K s₁ rfl X₀
    exact ⟨t, o, a1, b1, b2, b3⟩
theorem lw_pre_spec {args : Array Value} {s : State} (h : (Jvm.Cond.and given_1 narrow_1).before args s = true) (hr : rest_1_c.before args s = true) : ∃ (b : Addr) (xs : List Int32), lw_P b xs args s := by
  have hs := flat_of_before _ h
  have hq := flat_of_before _ hr
  have hc : (Cond.count 1).before args s = true := hs _ (by decide +kernel)
  have harr : (Cond.arrayOf (.arg 0) .int).before args s = true := hs _ (by decide +kernel)
  have hle : (Cond.le (.length (.arg 0)) (.int 3072)).before args s = true := hs _ (by decide +kernel)
  have hlen : (Cond.isInt (.length (.arg 0))).before args s = true := hq _ (by decide +kernel)
  have hall : (Cond.all (.arg 0) (.isInt (.elem (.arg 0) (.index 0)))).before args s = true := hq _ (by decide +kernel)
  obtain ⟨b, xs, hb, hx⟩ := State.ints_of_pre rfl harr hlen hall
  have hsm : xs.length < 2 ^ 31 := hx.choose_spec.2.2.2
  have hev : (Term.length (.arg 0)).eval args s none [] s = some (.int xs.length.toInt32) := hx.length_eval hb
  have hv := Cond.le_ints hev (show (Term.int 3072).eval args s none [] s = some (.int 3072) from rfl)
  have hd : xs.length.toInt32 ≤ 3072 := by
    simpa [Cond.before, Cond.holds, hv] using hle
  have hN : xs.length ≤ 3072 := (Int32.ofNat_le_ofNat hsm (by decide)).mp (show Int32.ofNat xs.length ≤ Int32.ofNat 3072 from hd)
  exact ⟨b, xs, Cond.one_arg hc (show args[0]? = some (.ref b) from hb), hx, hN, h⟩
theorem lw_comes (l : Launch) : Comes l x (Jvm.Cond.code x code maxLocals ret :: tables_1) room_1 (fun tb e args s => Calls_1 tb e args s ∧ rest_1 tb e args s ∧ Pre_1 tb e args s)
    (fun _ _ args s o t => lw_Q args s o t) := by
  intro p e ha hc hk s m args below hf hfit hheap happ hpre
  obtain ⟨b, xs, hP⟩ := lw_pre_spec hpre.2.2 hpre.2.1
  obtain ⟨k, o, h1, h2, h3, hQ⟩ := lw_walk l b xs p e ha hc hk s m args below hf ((Spec.applies_iff_loose hf).mp happ).1 hP trivial
  exact ⟨k, o, h1, h2, h3, hQ⟩
theorem lw_frame {s t : State} {o : Outcome} {args : Array Value} (h : Framed s o t [] 600000 7302250) :
    Framed s o t (fieldLocs frame_1_writes args s ++ arrayLocs frame_1_arrays args s ++ staticLocs frame_1_statics s) 600000 7302250 := h
theorem lw_limb (L : Cond) (hL : ∀ (args : Array Value) (s t : State), L.after args s (.returned (some (.int 1))) t = true) :
    ArmFor flags0 classFile x code maxLocals ret World_1 tables_1 room_1 Calls_1 rest_1 Pre_1
      (fun tb e a s o t => postC L tb e a s o t ∧ Framed s o t (fieldLocs frame_1_writes a s ++ arrayLocs frame_1_arrays a s ++ staticLocs frame_1_statics s) 600000 7302250) := by
  intro l _ _ _ p e ha hc hk s m args below hf hfit hheap happ hpre
  obtain ⟨k, o, h1, h2, h3, rfl, hF⟩ := lw_comes l p e ha hc hk s m args below hf hfit hheap happ hpre
  exact ⟨k, _, h1, h2, h3, hL args s _, lw_frame hF⟩
theorem i_vc : Claimed_1_1 ∧ Claimed_1_2 := ⟨lw_limb limb_1_1 (fun args s t => by simp [limb_1_1, Cond.after, Cond.holds, Cond.value]), lw_limb limb_1_2 (fun args s t => Cond.after_iff.mpr (by
  first | (rw [show limb_1_2 = Cond.eq .result (.int 1) from rfl, Cond.eq_ints (x := 1) (y := 1) rfl rfl]; simp; done) | (simp [limb_1_2, Cond.value, Term.eval]; done)))⟩
