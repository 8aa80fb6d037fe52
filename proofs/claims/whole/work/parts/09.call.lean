/-! ===== contracts and calls ===== -/
theorem xSZ_mono {m n : Nat} (h : m ≤ n) : xSZ m ≤ xSZ n := by
  induction n with
  | zero => have : m = 0 := by omega
            subst this; exact Nat.le_refl _
  | succ n ih =>
    by_cases hm : m = n + 1
    · subst hm; exact Nat.le_refl _
    · exact Nat.le_trans (ih (by omega)) (Nat.le_add_right _ _)
def Pc0 (E : xE) (args : List Value) (M : xMem) : Array Value → State → Prop := fun v U => v = (args.map (cv E)).toArray ∧ Hold E M U U.heap ∧ xKN E U
def Qc0 (E : xE) (ne : Nat) (Q : Option Value → xMem → Prop) : Array Value → State → Outcome → State → Prop := fun _ st o t => (∃ (r : Option Value) (M : xMem), o = .returned (r.map (cv E)) ∧ Q r M ∧ xN M = ne ∧ Hold E M t t.heap) ∧ va_F (xA E) st t
/-- a method's contract: from the memory M, with these arguments, it comes back with Q; ne cells are there then -/
def Ct (E : xE) (d : xMD) (args : List Value) (M : xMem) (ne : Nat) (Q : Option Value → xMem → Prop) : Prop :=
  Met E.l d.nm (xws d) { frames := d.fr, cells := ne - xN M, slots := xSZ ne - xSZ (xN M), locals := d.lo } (Pc0 E args M) (Qc0 E ne Q) (ne - xN M) (xSZ ne - xSZ (xN M)) (xA E)
/-- the same, with one answer and one memory -/
def Cf (E : xE) (d : xMD) (args : List Value) (M : xMem) (r : Option Value) (M' : xMem) : Prop := Ct E d args M (xN M) (fun r' m => r' = r ∧ m = M')
def xargs : List Value → List (Option Value)
  | [] => []
  | .long x :: t => some (.long x) :: none :: xargs t
  | .double x :: t => some (.double x) :: none :: xargs t
  | v :: t => some v :: xargs t
theorem xargs_lv (E : xE) : ∀ (vs : List Value) (i n : Nat), ∀ q ∈ lvl E i (xargs vs ++ List.replicate n none), q ∈ lv_args i (vs.map (cv E))
  | [], i, n, q, h => by
    obtain ⟨j, v, h1, -⟩ := (lvl_mem _ i q).mp h
    rw [xargs, List.nil_append] at h1
    have := List.mem_of_getElem? h1
    have := List.eq_of_mem_replicate this
    cases this
  | v :: t, i, n, q, h => by
    cases v with
    | long x =>
      simp only [xargs, List.cons_append, lvl, List.mem_cons] at h
      rcases h with h | h
      · rw [h]; simp [lv_args, cv]
      · have := xargs_lv E t (i + 1 + 1) n q h
        simp only [List.map_cons, lv_args, List.mem_cons]
        right
        simpa [cv, Value.category] using this
    | double x =>
      simp only [xargs, List.cons_append, lvl, List.mem_cons] at h
      rcases h with h | h
      · rw [h]; simp [lv_args, cv]
      · have := xargs_lv E t (i + 1 + 1) n q h
        simp only [List.map_cons, lv_args, List.mem_cons]
        right
        simpa [cv, Value.category] using this
    | _ =>
      simp only [xargs, List.cons_append, lvl, List.mem_cons] at h
      rcases h with h | h
      · rw [h]; simp [lv_args, cv]
      · have := xargs_lv E t (i + 1) n q h
        simp only [List.map_cons, lv_args, List.mem_cons]
        right
        simpa [cv, Value.category] using this
theorem xargs_len (E : xE) : ∀ (vs : List Value), (lg_sl (vs.map (cv E))).length = (xargs vs).length
  | [] => rfl
  | v :: t => by
    have := xargs_len E t
    cases v <;> simp [lg_sl, xargs, cv, Value.category] at this ⊢ <;> exact this
theorem Ct.of {E : xE} {d : xMD} {args : List Value} {lo : List (Option Value)} {M : xMem} {ne : Nat} {Q : Option Value → xMem → Prop} (hy : plainName d.nm.cls = true) (hn : (xargs args).length ≤ d.ml) (hlo : xargs args ++ List.replicate (d.ml - (xargs args).length) none = lo) (hne : xN M ≤ ne) (h : PR E d ne 0 lo [] M Q) : Ct E d args M ne Q := by
  refine Met.ofW (cc := d.co) (maxL := d.ml) (ret := d.rt) hy rfl ?_
  intro p e s m args' below meth c s₁ B hml hv
  obtain ⟨rfl, hH, hKN⟩ := hv
  have hts := atoms_spec (ws := xws d) B.pre
  have hown : s.vm.findClass d.nm.cls = some m.cls := findClass_of_methodNamed B.named
  have hnm : meth.name = d.nm.name := (name_of_methodNamed B.named B.method).1
  have hlocks := B.notSynchronized
  have hl := lv_entry (args.map (cv E)) (n := d.ml) (by rw [xargs_len]; exact hn)
  rw [lg_entry_eq]
  generalize (lg_sl (args.map (cv E)) ++ List.replicate (d.ml - (lg_sl (args.map (cv E))).length) Slot.unset).toArray = ls at hl ⊢
  subst hlo
  refine h p e _ s m _ below meth c s.heap ls [] 0 0 _ ⟨⟨B.exec, B.bytes, hml, hown, fun w hw => hts w (List.mem_cons_of_mem _ hw), hKN, Nat.le_refl _, Nat.le_refl _, hnm, hH.2.2.2.2.2⟩, ?_, ⟨hl.1, hl.2.1, fun q hq => hl.2.2 q (xargs_lv E args 0 _ q hq)⟩, by rw [List.length_append, List.length_replicate]; omega, hH, va_S.rf, hne, by rw [Nat.zero_add]; exact Nat.le_refl _, by rw [Nat.zero_add]; exact Nat.le_refl _⟩
  intro r M' H' ls' pc' locs' cells' slots' hq hnn hok hH' hS' hc' hs'
  refine W.widen hc' hs' ?_
  have fin : ∀ t : State, t.heap = H' → s.WarmedH t.vm → Qc0 E ne Q (args.map (cv E)).toArray s (.returned (r.map (cv E))) t := fun t ht hW => ⟨⟨r, M', rfl, hq, hnn, by rw [ht]; exact hH'.moved hW.alike⟩, hS'.F ht⟩
  cases r with
  | none => exact W.vret B.exec B.bytes (B.returns.trans hok.2) fin hS'.2.2 hok.1
  | some v =>
    cases v with
    | int x =>
      obtain ⟨h1, ty, h2, h3⟩ := hok
      exact W.zret B.exec B.bytes (B.returns.trans h2) h3 fin hS'.2.2 h1
    | long x => exact W.lret B.exec B.bytes (B.returns.trans hok.2) fin hS'.2.2 hok.1
    | ref x =>
      obtain ⟨h1, ty, h2, h3⟩ := hok
      exact W.aret B.exec B.bytes (B.returns.trans h2) h3 (Or.inr ⟨_, rfl⟩) fin hS'.2.2 h1
    | null => exact hok.elim
    | float x => exact hok.elim
    | double x => exact hok.elim
    | retAddr x => exact hok.elim
theorem Pc0.blind (E : xE) (args : List Value) (M : xMem) : FrameBlind (Pc0 E args M) := by
  intro a U g mk h
  exact ⟨h.1, h.2.1.moved (u := U) (U := U.calling g mk a) (Vm.Alike.refl U.vm), xKN.same (u := U) (U := U.calling g mk a) rfl h.2.2⟩
/-- what a call asks of the tables and the room -/
def xC0 (d : xMD) (d' : xMD) (n : Nat) : Prop := Cond.initialized d'.nm.cls ∈ xwl ∧ Cond.code d'.nm d'.co d'.ml d'.rt ∈ xwl ∧ (d'.nm.cls ≠ "java/lang/invoke/MethodHandle" ∧ d'.nm.cls ≠ "java/lang/invoke/VarHandle") ∧ (parseMethodDescriptor d'.nm.desc).map (fun q => q.parameters.length) = some n ∧ d'.fr + 1 ≤ d.fr ∧ 8 + (d'.ml + 11) + d'.lo ≤ d.lo
def xCV (d : xMD) (idx : Nat) (d' : xMD) (n c : Nat) : Prop := xC0 d d' n ∧ Cond.methodLink d.nm.cls idx d'.nm ∈ xwl ∧ Cond.instanceMethod d'.nm ∈ xwl ∧ Cond.selects d'.nm.cls d'.nm d'.nm ∈ xwl ∧ vwCl[c]? = some (xcl c) ∧ (xcl c).1 = d'.nm.cls ∧ c < 20
def xCS (d : xMD) (idx : Nat) (d' : xMD) (n : Nat) : Prop := xC0 d d' n ∧ Cond.methodLink d.nm.cls idx d'.nm ∈ xwl ∧ Cond.static d'.nm ∈ xwl
def xCI (d : xMD) (idx : Nat) (d' : xMD) (n : Nat) : Prop := xC0 d d' n ∧ Cond.methodLink d.nm.cls idx d'.nm ∈ xwl ∧ Cond.instanceMethod d'.nm ∈ xwl ∧ d'.nm.name = "<init>" ∧ d'.rt = none
def xCIN (d : xMD) (idx : Nat) (d' : xMD) (n : Nat) (host : String) : Prop := xC0 d d' n ∧ Cond.methodLinkNest d.nm.cls idx d'.nm host ∈ xnest ∧ Cond.instanceMethod d'.nm ∈ xwl ∧ d'.nm.name = "<init>" ∧ d'.rt = none
def xCSN (d : xMD) (idx : Nat) (d' : xMD) (n : Nat) (host : String) : Prop := xC0 d d' n ∧ Cond.methodLinkNest d.nm.cls idx d'.nm host ∈ xnest ∧ Cond.static d'.nm ∈ xwl
theorem xwl_good {w : Cond} (h : w ∈ xwl) : (w.onTables && w.keeps) = true ∨ ∃ ty, w = .arrayClass ty := good_of_word (List.mem_filter.mp h).2
theorem xws_warm {d' : xMD} {args : Array Value} {s : State} (hts : ∀ w ∈ xwl, w.before args s = true) (hc : Cond.code d'.nm d'.co d'.ml d'.rt ∈ xwl) : ∀ w ∈ xws d', ∀ (a' : Array Value) (U : State), s.WarmedH U.vm → w.before a' U = true := by
  intro w hw a' U hW
  rcases List.mem_cons.mp hw with rfl | h
  · exact word_at hW (xwl_good hc) (hts _ hc)
  · exact word_at hW (xwl_good h) (hts _ h)
section CALL
variable {E : xE} {d : xMD} {ne pc : Nat} {lo : List (Option Value)} {st : List Value} {M : xMem} {Q : Option Value → xMem → Prop}
variable {p : Program} {e : Env} {R : Room} {s : State} {m : MethodId} {args : Array Value} {below : List Frame} {meth : Method} {c : Code} {H : Heap} {ls : Array Slot} {locs : List Loc} {cells slots : Nat} {Z : State → Prop}
theorem px_after {ne' mc ms : Nat} {Q' : Option Value → xMem → Prop} {a' : Array Value} {st0 rest : List Value} (hr : va_Run p E.l e R s m args below meth c H locs cells slots mc ms (F0 m pc ls st0) rest (Qc0 E ne' Q' a') (xA E)) (hS : va_S (xA E) s.heap H locs)
    (kk : ∀ (r : Option Value) (M' : xMem) (H1 : Heap) (locs1 : List Loc), Q' r M' → xN M' = ne' → Hold E M' s H1 → va_S (xA E) s.heap H1 locs1 → W p E.l e R s m args below meth c H1 locs1 (cells + mc) (slots + ms) Z (F0 m (pc + 3) ls ((r.map (cv E)).toList ++ rest))) :
    W p E.l e R s m args below meth c H locs cells slots Z (F0 m pc ls st0) := by
  intro T hT X
  obtain ⟨v, st₀, t, T', L, h0, X', hL, e1, e2, ⟨⟨r, M', hv, hq, hn, hH⟩, hz, hk⟩, st⟩ := hr T hT X
  cases hv
  rw [h0] at hz hk
  obtain ⟨t2, a1, b1⟩ := kk r M' T'.heap (locs ++ L) hq hn (by rw [e1]; exact hH.moved (by rw [← e2]; exact X'.warmed.alike.symm))
    ⟨Nat.le_trans hS.1 (by rw [e1]; exact hz), fun q h1 h2 => by rw [e1, hk q (Nat.lt_of_lt_of_le h1 hS.1) h2]; exact hS.2.1 q h1 h2, fun q hq => by
      rcases List.mem_append.mp hq with h | h
      · exact hS.2.2 q h
      · exact hL q h⟩ T' rfl X'
  exact ⟨t2, st t2 a1, b1⟩
theorem xC0.b {d' : xMD} {n own : Nat} {idx : Nat} {mc ms : Nat} (h : xC0 d d' n) (hts : ∀ w ∈ xwl, w.before args s = true) (hfr : d.fr ≤ R.frames) (hlo : d.lo ≤ R.locals) (hl : Cond.methodLink d.nm.cls idx d'.nm ∈ xwl) : CallB R s args d.nm.cls idx d'.nm d'.co d'.ml d'.rt (xws d') { frames := d'.fr, cells := mc, slots := ms, locals := d'.lo } mc ms n := by
  obtain ⟨h1, h2, h3, h4, h5, h6⟩ := h
  refine ⟨rfl, rfl, Nat.le_trans h5 hfr, Nat.le_trans h6 hlo, xws_warm hts h2, List.mem_cons_self, hts _ h2, hts _ h1, h3, fun sig hs => ?_, hts _ hl⟩
  rw [hs] at h4
  exact (Option.some.inj h4).symm
theorem xC0.n {d' : xMD} {n own : Nat} {idx : Nat} {host : String} {mc ms : Nat} (h : xC0 d d' n) (hts : ∀ w ∈ xwl, w.before args s = true) (hfr : d.fr ≤ R.frames) (hlo : d.lo ≤ R.locals) (hK : xKN E s) (hl : Cond.methodLinkNest d.nm.cls idx d'.nm host ∈ xnest) : va_CN R s args d.nm.cls idx d'.nm host d'.co d'.ml d'.rt (xws d') { frames := d'.fr, cells := mc, slots := ms, locals := d'.lo } mc ms n := by
  obtain ⟨h1, h2, h3, h4, h5, h6⟩ := h
  refine ⟨⟨rfl, rfl, Nat.le_trans h5 hfr, Nat.le_trans h6 hlo, xws_warm hts h2, List.mem_cons_self⟩, hts _ h2, hts _ h1, h3, fun sig hs => ?_, va_Nw.use rfl (hK.2.1 _ hl)⟩
  rw [hs] at h4
  exact (Option.some.inj h4).symm
end CALL
section CALL2
variable {E : xE} {d : xMD} {ne pc : Nat} {lo : List (Option Value)} {st : List Value} {M : xMem} {Q : Option Value → xMem → Prop}
theorem px_cV {d' : xMD} {idx a cc : Nat} {As : List Value} {ne' : Nat} {Q' : Option Value → xMem → Prop} (hd : decode d.co pc = .ok (.invokevirtual idx, 3)) (hw : xCV d idx d' As.length cc) (h1 : 1 ≤ a) (h2 : a ≤ xN M) (h3 : a < 1000) (hk : (xK a).1 = cc) (hn1 : xN M ≤ ne') (hn2 : ne' ≤ ne) (hW : (st.map fun v => v.category).sum ≤ 8)
    (h : Ct E d' (.ref a :: As) M ne' Q') (k : ∀ r M', Q' r M' → xN M' = ne' → PR E d ne (pc + 3) lo (r.toList ++ st) M' Q) : PR E d ne pc lo (As.reverse ++ .ref a :: st) M Q := by
  intro p e R s m args below meth c H ls locs cells slots Z S
  obtain ⟨hC, hR, hl0, hlen, hH, hS, hb1, hb2, hb3⟩ := id S
  obtain ⟨hx, hb, hml, hown, hts, hKN, hfr, hlo, hnm, hbs⟩ := id hC
  have g1 := xSZ_mono hn1
  have g2 := xSZ_mono hn2
  rw [List.map_append, List.map_reverse, List.map_cons]
  refine px_after (va_runV (C := d'.nm.cls) (As := As.map (cv E)) (rest := st.map (cv E)) (b := ad E a) ⟨hx, hb, hml, hown, hts⟩ h ⟨xC0.b (own := 0) hw.1 hts hfr hlo hw.2.1, hts _ hw.2.2.1, hts _ hw.2.2.2.1⟩ ⟨Pc0.blind _ _ _, ?_, fun U hU hWm => ⟨rfl, by rw [hU]; exact hH.moved hWm.alike, hKN.warm hWm⟩⟩ rfl (by rw [List.length_map]) hl0.1 rfl (lv_room (by rw [cv_sum]; exact hW)) hd ⟨by omega, by omega⟩) hS (fun r M' H1 locs1 hq hn hH1 hS1 => ?_)
  · have he := ws_at E M h1 h2
    rw [ent_ob hk hw.2.2.2.2.2.2] at he
    obtain ⟨r, g1, cell, q1, q2, q3, q4⟩ := hH.2.1 (a - 1) _ he
    obtain ⟨-, hfc, -⟩ := hKN.1.1 cc _ hw.2.2.2.2.1
    refine ⟨cell, by rw [ad_in h1 h3]; exact q1, by rw [q3]; rfl, ?_⟩
    rw [q2, ← hw.2.2.2.2.2.1]; exact hfc
  · have e1 : (r.map (cv E)).toList ++ st.map (cv E) = (r.toList ++ st).map (cv E) := by cases r <;> rfl
    rw [e1]
    exact k r M' hq hn p e R s m args below meth c H1 ls locs1 _ _ Z ⟨hC, hR, hl0, hlen, hH1, hS1, by omega, by rw [hn]; omega, by rw [hn]; omega⟩
theorem px_cS {d' : xMD} {idx : Nat} {As : List Value} {ne' : Nat} {Q' : Option Value → xMem → Prop} (hd : decode d.co pc = .ok (.invokestatic idx, 3)) (hw : xCS d idx d' As.length) (hn1 : xN M ≤ ne') (hn2 : ne' ≤ ne) (hW : (st.map fun v => v.category).sum ≤ 8)
    (h : Ct E d' As M ne' Q') (k : ∀ r M', Q' r M' → xN M' = ne' → PR E d ne (pc + 3) lo (r.toList ++ st) M' Q) : PR E d ne pc lo (As.reverse ++ st) M Q := by
  intro p e R s m args below meth c H ls locs cells slots Z S
  obtain ⟨hC, hR, hl0, hlen, hH, hS, hb1, hb2, hb3⟩ := id S
  obtain ⟨hx, hb, hml, hown, hts, hKN, hfr, hlo, hnm, hbs⟩ := id hC
  have g1 := xSZ_mono hn1
  have g2 := xSZ_mono hn2
  rw [List.map_append, List.map_reverse]
  refine px_after (va_runS (As := As.map (cv E)) (rest := st.map (cv E)) ⟨hx, hb, hml, hown, hts⟩ h ⟨xC0.b (own := 0) hw.1 hts hfr hlo hw.2.1, hts _ hw.2.2⟩ ⟨Pc0.blind _ _ _, fun U hU hWm => ⟨rfl, by rw [hU]; exact hH.moved hWm.alike, hKN.warm hWm⟩⟩ rfl (by rw [List.length_map]) hl0.1 rfl (lv_room (by rw [cv_sum]; exact hW)) hd ⟨by omega, by omega⟩) hS (fun r M' H1 locs1 hq hn hH1 hS1 => ?_)
  have e1 : (r.map (cv E)).toList ++ st.map (cv E) = (r.toList ++ st).map (cv E) := by cases r <;> rfl
  rw [e1]
  exact k r M' hq hn p e R s m args below meth c H1 ls locs1 _ _ Z ⟨hC, hR, hl0, hlen, hH1, hS1, by omega, by rw [hn]; omega, by rw [hn]; omega⟩
theorem px_cSN {d' : xMD} {idx : Nat} {host : String} {As : List Value} {ne' : Nat} {Q' : Option Value → xMem → Prop} (hd : decode d.co pc = .ok (.invokestatic idx, 3)) (hw : xCSN d idx d' As.length host) (hn1 : xN M ≤ ne') (hn2 : ne' ≤ ne) (hW : (st.map fun v => v.category).sum ≤ 8)
    (h : Ct E d' As M ne' Q') (k : ∀ r M', Q' r M' → xN M' = ne' → PR E d ne (pc + 3) lo (r.toList ++ st) M' Q) : PR E d ne pc lo (As.reverse ++ st) M Q := by
  intro p e R s m args below meth c H ls locs cells slots Z S
  obtain ⟨hC, hR, hl0, hlen, hH, hS, hb1, hb2, hb3⟩ := id S
  obtain ⟨hx, hb, hml, hown, hts, hKN, hfr, hlo, hnm, hbs⟩ := id hC
  have g1 := xSZ_mono hn1
  have g2 := xSZ_mono hn2
  rw [List.map_append, List.map_reverse]
  refine px_after (va_runSN (As := As.map (cv E)) (rest := st.map (cv E)) ⟨hx, hb, hml, hown, hts⟩ h ⟨xC0.n (own := 0) hw.1 hts hfr hlo hKN hw.2.1, hts _ hw.2.2, trivial⟩ ⟨Pc0.blind _ _ _, fun U hU hWm => ⟨rfl, by rw [hU]; exact hH.moved hWm.alike, hKN.warm hWm⟩⟩ rfl (by rw [List.length_map]) hl0.1 rfl (lv_room (by rw [cv_sum]; exact hW)) hd ⟨by omega, by omega⟩) hS (fun r M' H1 locs1 hq hn hH1 hS1 => ?_)
  have e1 : (r.map (cv E)).toList ++ st.map (cv E) = (r.toList ++ st).map (cv E) := by cases r <;> rfl
  rw [e1]
  exact k r M' hq hn p e R s m args below meth c H1 ls locs1 _ _ Z ⟨hC, hR, hl0, hlen, hH1, hS1, by omega, by rw [hn]; omega, by rw [hn]; omega⟩
theorem px_cI {d' : xMD} {idx a : Nat} {As : List Value} {ne' : Nat} {Q' : Option Value → xMem → Prop} (hd : decode d.co pc = .ok (.invokespecial idx, 3)) (hw : xCI d idx d' As.length) (hn1 : xN M ≤ ne') (hn2 : ne' ≤ ne) (hW : (st.map fun v => v.category).sum ≤ 8)
    (h : Ct E d' (.ref a :: As) M ne' Q') (k : ∀ r M', Q' r M' → xN M' = ne' → PR E d ne (pc + 3) lo (r.toList ++ st) M' Q) : PR E d ne pc lo (As.reverse ++ .ref a :: st) M Q := by
  intro p e R s m args below meth c H ls locs cells slots Z S
  obtain ⟨hC, hR, hl0, hlen, hH, hS, hb1, hb2, hb3⟩ := id S
  obtain ⟨hx, hb, hml, hown, hts, hKN, hfr, hlo, hnm, hbs⟩ := id hC
  have g1 := xSZ_mono hn1
  have g2 := xSZ_mono hn2
  rw [List.map_append, List.map_reverse, List.map_cons]
  have cb := xC0.b (R := R) (s := s) (args := args) (own := 0) (mc := ne' - xN M) (ms := xSZ ne' - xSZ (xN M)) hw.1 hts hfr hlo hw.2.1
  rw [hw.2.2.2.2] at cb
  refine px_after (va_runI (As := As.map (cv E)) (rest := st.map (cv E)) (b := ad E a) ⟨hx, hb, hml, hown, hts⟩ h ⟨cb, hw.2.2.2.1, hts _ hw.2.2.1⟩ ⟨Pc0.blind _ _ _, fun U hU hWm => ⟨rfl, by rw [hU]; exact hH.moved hWm.alike, hKN.warm hWm⟩⟩ rfl (by rw [List.length_map]) hl0.1 rfl (lv_room (by rw [cv_sum]; exact hW)) hd ⟨by omega, by omega⟩) hS (fun r M' H1 locs1 hq hn hH1 hS1 => ?_)
  have e1 : (r.map (cv E)).toList ++ st.map (cv E) = (r.toList ++ st).map (cv E) := by cases r <;> rfl
  rw [e1]
  exact k r M' hq hn p e R s m args below meth c H1 ls locs1 _ _ Z ⟨hC, hR, hl0, hlen, hH1, hS1, by omega, by rw [hn]; omega, by rw [hn]; omega⟩
theorem px_cIN {d' : xMD} {idx a : Nat} {host : String} {As : List Value} {ne' : Nat} {Q' : Option Value → xMem → Prop} (hd : decode d.co pc = .ok (.invokespecial idx, 3)) (hw : xCIN d idx d' As.length host) (hn1 : xN M ≤ ne') (hn2 : ne' ≤ ne) (hW : (st.map fun v => v.category).sum ≤ 8)
    (h : Ct E d' (.ref a :: As) M ne' Q') (k : ∀ r M', Q' r M' → xN M' = ne' → PR E d ne (pc + 3) lo (r.toList ++ st) M' Q) : PR E d ne pc lo (As.reverse ++ .ref a :: st) M Q := by
  intro p e R s m args below meth c H ls locs cells slots Z S
  obtain ⟨hC, hR, hl0, hlen, hH, hS, hb1, hb2, hb3⟩ := id S
  obtain ⟨hx, hb, hml, hown, hts, hKN, hfr, hlo, hnm, hbs⟩ := id hC
  have g1 := xSZ_mono hn1
  have g2 := xSZ_mono hn2
  rw [List.map_append, List.map_reverse, List.map_cons]
  have cb := xC0.n (R := R) (s := s) (args := args) (own := 0) (mc := ne' - xN M) (ms := xSZ ne' - xSZ (xN M)) hw.1 hts hfr hlo hKN hw.2.1
  rw [hw.2.2.2.2] at cb
  refine px_after (va_runIN (As := As.map (cv E)) (rest := st.map (cv E)) (b := ad E a) ⟨hx, hb, hml, hown, hts⟩ h ⟨cb, hw.2.2.2.1, hts _ hw.2.2.1⟩ ⟨Pc0.blind _ _ _, fun U hU hWm => ⟨rfl, by rw [hU]; exact hH.moved hWm.alike, hKN.warm hWm⟩⟩ rfl (by rw [List.length_map]) hl0.1 rfl (lv_room (by rw [cv_sum]; exact hW)) hd ⟨by omega, by omega⟩) hS (fun r M' H1 locs1 hq hn hH1 hS1 => ?_)
  have e1 : (r.map (cv E)).toList ++ st.map (cv E) = (r.toList ++ st).map (cv E) := by cases r <;> rfl
  rw [e1]
  exact k r M' hq hn p e R s m args below meth c H1 ls locs1 _ _ Z ⟨hC, hR, hl0, hlen, hH1, hS1, by omega, by rw [hn]; omega, by rw [hn]; omega⟩
end CALL2
