/-! ===== births ===== -/
def xdv (k : Nat) : Value := if k = 0 then .int 0 else if k = 1 then .null else .long 0
theorem Hold.push {E : xE} {M : xMem} {U : State} {H H' : Heap} (h : Hold E M U H) (hlt : xN M < xNT) (he : va_at E.D vwCl (E.base + xN M, ent E (wN M) (xN M + 1)) H') (hz : H'.size = E.base + xN M + 1) (oq : ∀ q : Nat, q < E.base + xN M → H'[q]? = H[q]?) : Hold E (wN M) U H' := by
  have hsz := h.1 hlt
  refine ⟨fun _ => hz, ?_, h.2.2.1.kept (oq _ (by have := h.2.2.2.2.1; omega)), h.2.2.2.1.kept (fun q hq => oq q (by omega)), h.2.2.2.2.1, by omega⟩
  rw [← ws_push (E := E) (M := M) (M' := wN M) rfl (fun b hb => ent_wN hb)]
  refine (h.2.1.kept (fun k q hq => oq _ ?_)).app (fun k q hq => ?_)
  · have := (ws_of hq)
    rw [this.2]; show E.base + k < _; omega
  · have hk : k < 1 := (List.getElem?_eq_some_iff.mp hq).1
    have hk0 : k = 0 := by omega
    subst hk0
    cases hq
    exact he
theorem xS.push {E : xE} {s : State} {H H' : Heap} {locs : List Loc} {n : Nat} (hS : va_S (xA E) s.heap H locs) (hn : H.size = n) (hz : H'.size = n + 1) (oq : ∀ q : Nat, q < n → H'[q]? = H[q]?) : va_S (xA E) s.heap H' locs :=
  ⟨Nat.le_trans hS.1 (by omega), fun x h1 h2 => (oq x (by have := hS.1; omega)).trans (hS.2.1 x h1 h2), hS.2.2⟩
theorem wN_cell (M : xMem) (j : Nat) : (wN M).1 (xN M + 1) j = 0 ∧ (wN M).2.1 (xN M + 1) j = 0 ∧ (wN M).2.2.1 (xN M + 1) j = 0 := by
  refine ⟨?_, ?_, ?_⟩
  · show (if xN M + 1 = M.2.2.2 + 1 then (fun _ => (0 : Int32)) else M.1 (xN M + 1)) j = 0; rw [if_pos rfl]
  · show (if xN M + 1 = M.2.2.2 + 1 then (fun _ => (0 : Nat)) else M.2.1 (xN M + 1)) j = 0; rw [if_pos rfl]
  · show (if xN M + 1 = M.2.2.2 + 1 then (fun _ => (0 : Int64)) else M.2.2.1 (xN M + 1)) j = 0; rw [if_pos rfl]
/-- what the tables say of making an object of class c -/
def xNW (d : xMD) (idx c : Nat) : Prop := Cond.classLink d.nm.cls idx (xcl c).1 ∈ xwl ∧ Cond.instantiable (xcl c).1 (xcl c).2.2 ∈ xwl ∧ Cond.initialized (xcl c).1 ∈ xwl ∧ vwCl[c]? = some (xcl c) ∧ c < 20 ∧ (xcl c).2.2 = xnf c ∧ (∀ w ∈ u_ws (xcl c).1 (xcl c).2.1 (xcl c).2.2, w ∈ xwl) ∧ ∃ ty : Nat → FieldType, (∀ k, k < (xcl c).2.2 → parseFieldDescriptor ((xcl c).2.1 k).2.2.1 = some (ty k)) ∧ ∀ k, k < (xcl c).2.2 → defaultValue (ty k) = xdv (xft c k)
section NEW
variable {E : xE} {d : xMD} {ne pc : Nat} {lo : List (Option Value)} {st : List Value} {M : xMem} {Q : Option Value → xMem → Prop}
theorem px_new {idx c : Nat} (hd : decode d.co pc = .ok (.new idx, 3)) (hw : xNW d idx c) (hk : (xK (xN M + 1)).1 = c) (hn : xN M < ne) (hT : ne ≤ xNT) (k : PR E d ne (pc + 3) lo (.ref (xN M + 1) :: st) (wN M) Q) : PR E d ne pc lo st M Q := by
  intro p e R s m args below meth c' H ls locs cells slots Z S
  obtain ⟨hC, hR, hl0, hlen, hH, hS, hb1, hb2, hb3⟩ := id S
  obtain ⟨hx, hb, hml, hown, hts, hKN, hfr, hlo, hnm, hbs⟩ := id hC
  obtain ⟨w1, w2, w3, hcl, hc, hnf, hin, ty, hty, hdf⟩ := hw
  have hsz := hH.1 (by omega)
  have hsl : xSlots (xN M + 1) = (xcl c).2.2 := by
    unfold xSlots; simp only [hk, hcl]; rw [if_pos hc]
  have hs1 : xSZ (xN M + 1) = xSZ (xN M) + (xcl c).2.2 := by rw [← hsl]; rfl
  have hm1 := xSZ_mono (show xN M + 1 ≤ ne by omega)
  refine W.newcK hx hb hown (hts _ w1) (hts _ w2) (hts _ w3) rfl hd (by omega) (by omega) (hKN.1.1 c _ hcl).2.1 hsz fun H' kC hkC e1 z oq => ?_
  have hk1 := k p e R s m args below meth c' H' ls locs (cells + 1) (slots + (xcl c).2.2) Z ⟨hC, hR, hl0, hlen, hH.push (by omega) ?_ z oq, xS.push hS hsz z oq, by show xN M + 1 ≤ ne; omega, by show cells + 1 + (ne - (xN M + 1)) ≤ _; omega, by show slots + _ + (xSZ ne - xSZ (xN M + 1)) ≤ _; omega⟩
  · have e2 : cv E (.ref (xN M + 1)) = .ref (E.base + xN M) := cv_ref (by omega) (by have : xNT < 999 := (by decide); omega)
    rw [List.map_cons, e2] at hk1
    exact hk1
  · rw [ent_ob hk hc]
    refine ⟨_, hcl, ?_⟩
    refine t_OB.to (V := fun j => defaultValue (ty j)) (u_born ty hts hin (hKN.1.1 c _ hcl) hkC e1 hty) (fun j hj => ?_)
    have hj' : j < xnf c := by rw [← hnf]; exact hj
    show defaultValue (ty j) = vp_V _ j
    rw [hdf j hj]
    unfold vp_V
    rw [List.getD_eq_getElem?_getD, List.getElem?_map, List.getElem?_range hj']
    obtain ⟨q1, q2, q3⟩ := wN_cell M j
    simp only [Option.map_some, Option.getD_some, xfv, q1, q2, q3, xdv]
    rfl
theorem px_newa0 {N kk t0 : Nat} {n : Int32} {atype : ArrayType} (hd : decode d.co pc = .ok (.newarray atype, 2)) (hw : Cond.arrayClass (newarray.typeOf atype) ∈ xwl) (ht : ∀ E : xE, (xtys E)[t0]? = some (E.cA kk, newarray.typeOf atype)) (hra : ∀ U cA, va_RA U cA (newarray.typeOf atype) → U.vm.findClass ("[" ++ (newarray.typeOf atype).toString) = some cA) (hdv : defaultValue (newarray.typeOf atype) = .int 0) (h20 : 20 ≤ kk) (h23 : kk < 23) (hk : xK (xN M + 1) = (kk, N)) (h0 : ¬ n < 0) (hN : n.toNatClampNeg = N) (hby : N * componentBytes (newarray.typeOf atype) ≤ 536870912) (hn : xN M < ne) (hT : ne ≤ xNT)
    (k : PR E d ne (pc + 2) lo (.ref (xN M + 1) :: st) (wN M) Q) : PR E d ne pc lo (.int n :: st) M Q := by
  intro p e R s m args below meth c' H ls locs cells slots Z S
  obtain ⟨hC, hR, hl0, hlen, hH, hS, hb1, hb2, hb3⟩ := id S
  obtain ⟨hx, hb, hml, hown, hts, hKN, hfr, hlo, hnm, hbs⟩ := id hC
  have hsz := hH.1 (by omega)
  have hsl : xSlots (xN M + 1) = N := by
    unfold xSlots; simp only [hk]; rw [if_neg (by omega)]
  have hs1 : xSZ (xN M + 1) = xSZ (xN M) + N := by rw [← hsl]; rfl
  have hm1 := xSZ_mono (show xN M + 1 ≤ ne by omega)
  refine va_newaK (n := n) (N := N) hx hb (hts _ hw) rfl hd rfl h0 hN hby (by omega) (by omega) hsz fun H' cA e1 z oq hA hfc => ?_
  have hcA : cA = E.cA kk := by
    have := hra _ _ (hKN.1.2 t0 _ (ht E)).2
    exact Option.some.inj (hfc.symm.trans this)
  subst hcA
  have hk1 := k p e R s m args below meth c' H' ls locs (cells + 1) (slots + N) Z ⟨hC, hR, hl0, hlen, hH.push (by omega) ?_ z oq, xS.push hS hsz z oq, by show xN M + 1 ≤ ne; omega, by show cells + 1 + (ne - (xN M + 1)) ≤ _; omega, by show slots + _ + (xSZ ne - xSZ (xN M + 1)) ≤ _; omega⟩
  · have e2 : cv E (.ref (xN M + 1)) = .ref (E.base + xN M) := cv_ref (by omega) (by have : xNT < 999 := (by decide); omega)
    rw [List.map_cons, e2] at hk1
    exact hk1
  · rw [ent_ia hk h20 h23]
    show H'[E.base + xN M]? = some (vp_cell _ _)
    rw [e1, vp_cell_i]
    congr 2
    funext j
    rw [(wN_cell M j).1, hdv]
theorem px_newq {N kk t0 idx : Nat} {n : Int32} {C : String} (hd : decode d.co pc = .ok (.anewarray idx, 3)) (hw : Cond.classLink d.nm.cls idx C ∈ xwl) (hC4 : C ∈ [RX5, RX9, RX8, RX0]) (ht : ∀ E : xE, (xtys E)[t0]? = some (E.cA kk, .object C)) (h23 : 23 ≤ kk) (hk : xK (xN M + 1) = (kk, N)) (h0 : ¬ n < 0) (hN : n.toNatClampNeg = N) (hby : N * 4 ≤ 536870912) (hn : xN M < ne) (hT : ne ≤ xNT)
    (k : PR E d ne (pc + 3) lo (.ref (xN M + 1) :: st) (wN M) Q) : PR E d ne pc lo (.int n :: st) M Q := by
  intro p e R s m args below meth c' H ls locs cells slots Z S
  obtain ⟨hC, hR, hl0, hlen, hH, hS, hb1, hb2, hb3⟩ := id S
  obtain ⟨hx, hb, hml, hown, hts, hKN, hfr, hlo, hnm, hbs⟩ := id hC
  have hsz := hH.1 (by omega)
  have hsl : xSlots (xN M + 1) = N := by
    unfold xSlots; simp only [hk]; rw [if_neg (by omega)]
  have hs1 : xSZ (xN M + 1) = xSZ (xN M) + N := by rw [← hsl]; rfl
  have hm1 := xSZ_mono (show xN M + 1 ≤ ne by omega)
  subst hN
  refine W.anew hx hb hown (hts _ hw) (va_AO.use (hKN.2.2.1 C hC4)) rfl hd rfl h0 hby (by omega) (by omega) fun cA kA comp f1 f2 f3 f4 => ?_
  generalize hH1 : H.push ({ cls := cA, slots := Array.replicate n.toNatClampNeg .null, vm := .none } : Cell) = H1
  have z1 : H1.size = E.base + xN M + 1 := by rw [← hH1, Array.size_push, hsz]
  have e1 : H1[E.base + xN M]? = some (arrV cA n.toNatClampNeg (fun _ => .null)) := by rw [← hH1, ← hsz, Array.getElem?_push_size, ← arrV_new]
  have o1 : ∀ q : Nat, q < E.base + xN M → H1[q]? = H[q]? := fun q hq => by rw [← hH1, Array.getElem?_push, if_neg (by omega)]
  have hcA : cA = E.cA kk := by
    obtain ⟨_, _, _, _, _, g4⟩ := (hKN.1.2 t0 _ (ht E)).2
    exact Option.some.inj (f1.symm.trans g4)
  subst hcA
  have hk1 := k p e R s m args below meth c' H1 ls locs (cells + 1) (slots + n.toNatClampNeg) Z ⟨hC, hR, hl0, hlen, hH.push (by omega) ?_ z1 o1, xS.push hS hsz z1 o1, by show xN M + 1 ≤ ne; omega, by show cells + 1 + (ne - (xN M + 1)) ≤ _; omega, by show slots + _ + (xSZ ne - xSZ (xN M + 1)) ≤ _; omega⟩
  · have e2 : cv E (.ref (xN M + 1)) = .ref (E.base + xN M) := cv_ref (by omega) (by have : xNT < 999 := (by decide); omega)
    rw [List.map_cons, e2, ← hsz] at hk1
    exact hk1
  · rw [ent_ra hk h23]
    show H1[E.base + xN M]? = some (vp_cell _ _)
    rw [e1, vp_cell_q]
    congr 2
    funext j
    rw [(wN_cell M j).2.1]
    rfl
theorem px_obj {idx a : Nat} (hd : decode d.co pc = .ok (.invokespecial idx, 3)) (hw : Cond.methodLink d.nm.cls idx Lib.objectInit ∈ xwl ∧ Cond.instanceMethod Lib.objectInit ∈ xwl ∧ Cond.code Lib.objectInit ⟨#[0xb1]⟩ 1 none ∈ xwl) (hfr0 : 1 ≤ d.fr) (hlo0 : (st.map fun v => v.category).sum + 12 ≤ d.lo) (k : PR E d ne (pc + 3) lo st M Q) : PR E d ne pc lo (.ref a :: st) M Q := by
  intro p e R s m args below meth c' H ls locs cells slots Z S
  obtain ⟨hC, hR, hl0, hlen, hH, hS, hb1, hb2, hb3⟩ := id S
  obtain ⟨hx, hb, hml, hown, hts, hKN, hfr, hlo, hnm, hbs⟩ := id hC
  exact W.objInit hx hb hown (hts _ hw.1) (hts _ hw.2.1) (hts _ hw.2.2) rfl (by rw [hml]; exact hl0.1) rfl hd (Nat.le_trans hfr0 hfr) (by show 2 * 0 + _ + 12 ≤ _; rw [cv_sum]; omega) (k _ _ _ _ _ _ _ _ _ _ _ _ _ _ _ S)
end NEW
