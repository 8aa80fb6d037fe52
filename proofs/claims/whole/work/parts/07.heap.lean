/-! ===== fields and arrays ===== -/
/-- a class of the tables by its number: name, fields, how many -/
def xcl (c : Nat) : vw_C := vwCl.getD c ("", fun _ => ("", "", "", false), 0)
/-- the constant idx of class own names field j of class c -/
def xFL (own : String) (idx c j : Nat) : Prop := vwCl[c]? = some (xcl c) ∧ j < (xcl c).2.2 ∧ (xcl c).2.2 = xnf c ∧ (∀ w ∈ u_ws (xcl c).1 (xcl c).2.1 (xcl c).2.2, w ∈ xwl) ∧ Cond.fieldLink own idx ((xcl c).2.1 j).1 ((xcl c).2.1 j).2.1 ((xcl c).2.1 j).2.2.1 ∈ xwl
/-- and how it is stored: its type, no two of one name -/
def xFP (c j : Nat) (ty : FieldType) (fin : Bool) : Prop := (∃ ty0 : Nat → FieldType, ∀ k, k < (xcl c).2.2 → parseFieldDescriptor ((xcl c).2.1 k).2.2.1 = some (ty0 k)) ∧ (∀ a, a < (xcl c).2.2 → ∀ b, b < (xcl c).2.2 → a ≠ b → ((xcl c).2.1 a).2.1 ≠ ((xcl c).2.1 b).2.1) ∧ parseFieldDescriptor ((xcl c).2.1 j).2.2.1 = some ty ∧ ((xcl c).2.1 j).2.2.2 = fin
def xob (a c : Nat) : Prop := 1 ≤ a ∧ a ≤ xNT ∧ (xK a).1 = c
def xar (a k n : Nat) : Prop := 1 ≤ a ∧ a ≤ xNT ∧ xK a = (k, n)
theorem ad_in {E : xE} {a : Nat} (h1 : 1 ≤ a) (h2 : a < 1000) : ad E a = E.base + (a - 1) := by
  unfold ad; rw [if_neg (by omega), if_pos h2]
theorem cv_ref {E : xE} {a : Nat} (h1 : 1 ≤ a) (h2 : a < 1000) : cv E (.ref a) = .ref (E.base + (a - 1)) := by
  show Value.ref (ad E a) = _; rw [ad_in h1 h2]
theorem ent_ob {E : xE} {M : xMem} {a c : Nat} (hk : (xK a).1 = c) (hc : c < 20) : ent E M a = .inr (c, (List.range (xnf c)).map (fun j => xfv E M a c j)) := by
  unfold ent; rw [hk, if_pos hc]
theorem ent_ia {E : xE} {M : xMem} {a k n : Nat} (hk : xK a = (k, n)) (h1 : 20 ≤ k) (h2 : k < 23) : ent E M a = .inl (E.cA k, n, .inl (fun j => M.1 a j)) := by
  unfold ent; rw [hk]; rw [if_neg (by show ¬ k < 20; omega), if_pos h2]
theorem ent_ra {E : xE} {M : xMem} {a k n : Nat} (hk : xK a = (k, n)) (h1 : 23 ≤ k) : ent E M a = .inl (E.cA k, n, .inr (.inr (.inr (.inr (fun j => xrf E (M.2.1 a j)))))) := by
  unfold ent; rw [hk]; rw [if_neg (by show ¬ k < 20; omega), if_neg (by show ¬ k < 23; omega)]
theorem ent_congr {E : xE} {M M' : xMem} {c : Nat} (h1 : ∀ j, M'.1 c j = M.1 c j) (h2 : ∀ j, M'.2.1 c j = M.2.1 c j) (h3 : ∀ j, M'.2.2.1 c j = M.2.2.1 c j) : ent E M' c = ent E M c := by
  have e1 : M'.1 c = M.1 c := funext h1
  have e2 : M'.2.1 c = M.2.1 c := funext h2
  have e3 : M'.2.2.1 c = M.2.2.1 c := funext h3
  unfold ent xfv
  rw [e1, e2, e3]
theorem map_set_range {n j : Nat} {f g : Nat → Value} {v : Value} (hj : g j = v) (ho : ∀ k, k ≠ j → g k = f k) : ((List.range n).map f).set j v = (List.range n).map g := by
  apply List.ext_getElem?
  intro k
  by_cases hk : k = j
  · subst hk
    rw [List.getElem?_set_self', List.getElem?_map, List.getElem?_map]
    cases hr : (List.range n)[k]? with
    | none => rfl
    | some i =>
      obtain ⟨hl, e⟩ := List.getElem?_eq_some_iff.mp hr
      rw [List.getElem_range] at e
      subst e
      rw [← hj]; rfl
  · rw [List.getElem?_set_ne (Ne.symm hk), List.getElem?_map, List.getElem?_map]
    cases hr : (List.range n)[k]? with
    | none => rfl
    | some i =>
      obtain ⟨hl, e⟩ := List.getElem?_eq_some_iff.mp hr
      rw [List.getElem_range] at e
      subst e
      show some (f k) = some (g k)
      rw [ho k hk]
section HEAP
variable {E : xE} {d : xMD} {ne pc : Nat} {lo : List (Option Value)} {st : List Value} {M : xMem} {Q : Option Value → xMem → Prop}
/-- getfield, whatever its sort -/
theorem px_get0 {a idx c j : Nat} {v : Value} (hd : decode d.co pc = .ok (.getfield idx, 3)) (hf : xFL d.nm.cls idx c j) (h1 : 1 ≤ a) (h2 : a ≤ xN M) (h3 : a < 1000) (hk : (xK a).1 = c) (hc : c < 20) (hv : xfv E M a c j = cv E v)
    (k : PR E d ne (pc + 3) lo (v :: st) M Q) : PR E d ne pc lo (.ref a :: st) M Q := by
  intro p e R s m args below meth c' H ls locs cells slots Z S
  obtain ⟨hC, hR, hl0, hlen, hH, hrest⟩ := id S
  have hP := hH.2.1
  have he := ws_at E M h1 h2
  rw [ent_ob hk hc] at he
  rw [List.map_cons, cv_ref h1 h3]
  exact va_get hC.1 hC.2.1 (Ts := xwl) hC.2.2.2.2.1 hf.2.2.2.1 hC.2.2.2.1 hC.2.2.2.2.2.1.1 hP (a - 1) he hf.1 j hf.2.1 (hC.2.2.2.2.1 _ hf.2.2.2.2) (fun _ h => h) (v := cv E v) (by rw [List.getElem?_map, List.getElem?_range (by rw [← hf.2.2.1]; exact hf.2.1)]; rw [← hv]; rfl) hd (k _ _ _ _ _ _ _ _ _ _ _ _ _ _ _ S)
theorem px_getI {a idx c j : Nat} (hd : decode d.co pc = .ok (.getfield idx, 3)) (hf : xFL d.nm.cls idx c j) (ho : xob a c) (hM : xNT ≤ xN M) (hc : (decide (c < 20) && decide (xft c j = 0)) = true)
    (k : PR E d ne (pc + 3) lo (.int (M.1 a j) :: st) M Q) : PR E d ne pc lo (.ref a :: st) M Q := by
  simp only [Bool.and_eq_true, decide_eq_true_eq] at hc
  refine px_get0 hd hf ho.1 (Nat.le_trans ho.2.1 hM) (Nat.lt_of_le_of_lt ho.2.1 (by decide)) ho.2.2 hc.1 ?_ k
  unfold xfv; rw [if_pos hc.2]; rfl
theorem px_getR {a idx c j r : Nat} (hd : decode d.co pc = .ok (.getfield idx, 3)) (hf : xFL d.nm.cls idx c j) (ho : xob a c) (hM : xNT ≤ xN M) (hc : (decide (c < 20) && decide (xft c j = 1)) = true) (hr : M.2.1 a j = r) (h0 : 0 < r)
    (k : PR E d ne (pc + 3) lo (.ref r :: st) M Q) : PR E d ne pc lo (.ref a :: st) M Q := by
  simp only [Bool.and_eq_true, decide_eq_true_eq] at hc
  refine px_get0 hd hf ho.1 (Nat.le_trans ho.2.1 hM) (Nat.lt_of_le_of_lt ho.2.1 (by decide)) ho.2.2 hc.1 ?_ k
  unfold xfv; rw [if_neg (by rw [hc.2]; decide), if_pos hc.2, hr]
  unfold xrf; rw [if_neg (by omega)]; rfl
theorem px_getL {a idx c j : Nat} (hd : decode d.co pc = .ok (.getfield idx, 3)) (hf : xFL d.nm.cls idx c j) (ho : xob a c) (hM : xNT ≤ xN M) (hc : (decide (c < 20) && decide (xft c j = 2)) = true)
    (k : PR E d ne (pc + 3) lo (.long (M.2.2.1 a j) :: st) M Q) : PR E d ne pc lo (.ref a :: st) M Q := by
  simp only [Bool.and_eq_true, decide_eq_true_eq] at hc
  refine px_get0 hd hf ho.1 (Nat.le_trans ho.2.1 hM) (Nat.lt_of_le_of_lt ho.2.1 (by decide)) ho.2.2 hc.1 ?_ k
  unfold xfv; rw [if_neg (by rw [hc.2]; decide), if_neg (by rw [hc.2]; decide)]; rfl
/-- putfield, whatever its sort: M' is M with the one field -/
theorem px_put0 {a idx c j : Nat} {v : Value} {ty : FieldType} {fin : Bool} {M' : xMem} (hd : decode d.co pc = .ok (.putfield idx, 3)) (hf : xFL d.nm.cls idx c j) (hp : xFP c j ty fin) (hfin : fin = true → d.nm.name = "<init>" ∧ ((xcl c).2.1 j).1 = d.nm.cls) (h1 : 1 ≤ a) (h2 : a ≤ xN M) (h3 : a < 1000) (hk : (xK a).1 = c) (hc : c < 20)
    (hn : narrow ty (cv E v) = cv E v) (hfit : fits ty (cv E v) = true) (hN : xN M' = xN M) (ho : ∀ b, b ≠ a → ent E M' b = ent E M b) (hv : xfv E M' a c j = cv E v) (hv2 : ∀ i, i ≠ j → xfv E M' a c i = xfv E M a c i)
    (k : PR E d ne (pc + 3) lo st M' Q) : PR E d ne pc lo (v :: .ref a :: st) M Q := by
  intro p e R s m args below meth c' H ls locs cells slots Z S
  obtain ⟨hC, hR, hl0, hlen, hH, hS, hb1, hb2, hb3⟩ := id S
  obtain ⟨hx, hb, hml, hown, hts, hKN, hfr, hlo, hnm, hbs⟩ := id hC
  have hP := hH.2.1
  have he := ws_at E M h1 h2
  rw [ent_ob hk hc] at he
  obtain ⟨ty0, hty⟩ := hp.1
  have hap := va_apart (own := d.nm.cls) hts hf.2.2.2.1 ty0 hty hp.2.1 hKN.1 hf.1
  obtain ⟨r, g1, cell, q1, q2, q3, q4⟩ := hP (a - 1) _ he
  have hr : r = xcl c := Option.some.inj (g1.symm.trans hf.1)
  subst hr
  obtain ⟨hSl, hfc, kC, hkC, hkind⟩ := hKN.1.1 c _ hf.1
  obtain ⟨cf, kf, fi, f, hi, hsl⟩ := hSl j hf.2.1
  have hlay := hts _ (hf.2.2.2.1 _ (u_in_lay hf.2.1))
  unfold u_lay at hlay
  have hst := (u_facts hfc hkC (u_lays hts hf.2.2.2.1 hf.2.1) hi).1
  have hlen' : j < ((List.range (xnf c)).map (fun j => xfv E M a c j)).length := by rw [List.length_map, List.length_range, ← hf.2.2.1]; exact hf.2.1
  have fin' : ∀ H' : Heap, H'[E.base + (a - 1)]? = some (cell.setSlot f.slot (cv E v)) → H'.size = H.size → (∀ q, q ≠ E.base + (a - 1) → H'[q]? = H[q]?) → W p E.l e R s m args below meth c' H' (locs ++ [⟨E.base + (a - 1), f.slot⟩]) cells slots Z (F0 m (pc + 3) ls (st.map (cv E))) := by
    intro H' e1 e2 e3
    rw [hsl] at e1
    refine k p e R s m args below meth c' H' ls _ cells slots Z ⟨hC, hR, hl0, hlen, ?_, hS.put e2 e3 (Nat.le_add_right _ _), by rw [hN]; exact hb1, by rw [hN]; exact hb2, by rw [hN]; exact hb3⟩
    refine hH.set h1 h2 hN ho ?_ e2 e3
    rw [ent_ob hk hc]
    refine ⟨_, hf.1, t_OB.to (V := updV (vp_V ((List.range (xnf c)).map (fun j => xfv E M a c j))) j (cv E v)) ⟨_, e1, q2, q3, t_set q4 hap hf.2.1 (cv E v)⟩ (fun i _ => ?_)⟩
    rw [vp_updV_set hlen' (cv E v) i, map_set_range (g := fun i => xfv E M' a c i) hv hv2]
  rw [List.map_cons, List.map_cons, cv_ref h1 h3]
  cases hfb : fin with
  | false =>
    rw [hfb] at hp
    rw [if_neg (by rw [hp.2.2.2]; decide)] at hlay
    have h6 := u_store hfc hkC hkind hlay hi hp.2.2.1 hn hfit
    exact W.putK hx hb (f := f) ⟨hown, hts _ hf.2.2.2.2, ⟨_, _, _, hi⟩, hst⟩ (by rw [q2]; exact h6) q1 q3 (by rw [hsl]; exact k2_hasslot (q4 j hf.2.1)) rfl rfl hd fin'
  | true =>
    obtain ⟨hini, hdecl⟩ := hfin hfb
    have h6 := u_fits hfc hkC hkind (u_lays hts hf.2.2.2.1 hf.2.1) hi hp.2.2.1 hn hfit
    rw [hfb] at hp
    rw [if_pos hp.2.2.2] at hlay
    have hcf : m.cls = cf := by
      obtain ⟨_, _, c2, _, _, _, -, -, hf', -, -, -, hown2, -⟩ := Cond.laysFinal_spec hlay
      have e1 : c2 = cf := by have := hi.symm.trans hf'; simp at this; exact this.1.symm
      rw [hdecl] at hown2
      rw [← e1]; exact Option.some.inj (hown.symm.trans hown2)
    exact W.putFinK hx hb hown (hts _ hf.2.2.2.2) hi hst hcf (by rw [hnm]; exact hini) (by rw [q2]; exact h6) q1 q3 (by rw [hsl]; exact k2_hasslot (q4 j hf.2.1)) rfl rfl hd fin'
end HEAP
