theorem ent_wI {E : xE} {M : xMem} {a j : Nat} {v : Int32} {b : Nat} (h : b ≠ a) : ent E (wI M a j v) b = ent E M b :=
  ent_congr (fun k => by rw [xI_wI, if_neg (fun q => h q.1)]) (fun _ => rfl) (fun _ => rfl)
theorem ent_wR {E : xE} {M : xMem} {a j v b : Nat} (h : b ≠ a) : ent E (wR M a j v) b = ent E M b :=
  ent_congr (fun _ => rfl) (fun k => by rw [xR_wR, if_neg (fun q => h q.1)]) (fun _ => rfl)
theorem ent_wL {E : xE} {M : xMem} {a j : Nat} {v : Int64} {b : Nat} (h : b ≠ a) : ent E (wL M a j v) b = ent E M b :=
  ent_congr (fun _ => rfl) (fun _ => rfl) (fun k => by rw [xL_wL, if_neg (fun q => h q.1)])
theorem ent_wF {E : xE} {M : xMem} {a : Nat} {f : Nat → Int32} {b : Nat} (h : b ≠ a) : ent E (wF M a f) b = ent E M b :=
  ent_congr (fun k => by rw [xI_wF, if_neg h]) (fun _ => rfl) (fun _ => rfl)
theorem ent_wN {E : xE} {M : xMem} {b : Nat} (h : b ≠ xN M + 1) : ent E (wN M) b = ent E M b :=
  ent_congr (fun k => by show (if b = M.2.2.2 + 1 then _ else M.1 b) k = _; rw [if_neg h]) (fun k => by show (if b = M.2.2.2 + 1 then _ else M.2.1 b) k = _; rw [if_neg h]) (fun k => by show (if b = M.2.2.2 + 1 then _ else M.2.2.1 b) k = _; rw [if_neg h])
theorem wI_self (M : xMem) (a j : Nat) (v : Int32) : (wI M a j v).1 a j = v := by rw [xI_wI, if_pos ⟨rfl, rfl⟩]
theorem wI_other (M : xMem) {a j i : Nat} (v : Int32) (h : i ≠ j) : (wI M a j v).1 a i = M.1 a i := by rw [xI_wI, if_neg (fun q => h q.2)]
section HEAP2
variable {E : xE} {d : xMD} {ne pc : Nat} {lo : List (Option Value)} {st : List Value} {M : xMem} {Q : Option Value → xMem → Prop}
/-- an int field, whatever the cell's age; nar: what the field's type makes of it -/
theorem px_putI0 {a idx c j : Nat} {x : Int32} {ty : FieldType} {fin : Bool} (hd : decode d.co pc = .ok (.putfield idx, 3)) (hf : xFL d.nm.cls idx c j) (hp : xFP c j ty fin) (hfin : fin = true → d.nm.name = "<init>" ∧ ((xcl c).2.1 j).1 = d.nm.cls) (h1 : 1 ≤ a) (h2 : a ≤ xN M) (h3 : a < 1000) (hk : (xK a).1 = c) (hc : (decide (c < 20) && decide (xft c j = 0)) = true)
    (hn : narrow ty (.int x) = .int x) (hfit : fits ty (.int x) = true) (k : PR E d ne (pc + 3) lo st (wI M a j x) Q) : PR E d ne pc lo (.int x :: .ref a :: st) M Q := by
  simp only [Bool.and_eq_true, decide_eq_true_eq] at hc
  refine px_put0 (v := .int x) (M' := wI M a j x) hd hf hp hfin h1 h2 h3 hk hc.1 hn hfit rfl (fun b hb => ent_wI hb) ?_ (fun i hi => ?_) k
  · unfold xfv; rw [if_pos hc.2, wI_self]; rfl
  · unfold xfv; rw [wI_other M x hi]; rfl
theorem px_putI {a idx c j : Nat} {x : Int32} (hd : decode d.co pc = .ok (.putfield idx, 3)) (hf : xFL d.nm.cls idx c j) (hp : xFP c j .int false) (ho : xob a c) (hM : xNT ≤ xN M) (hc : (decide (c < 20) && decide (xft c j = 0)) = true)
    (k : PR E d ne (pc + 3) lo st (wI M a j x) Q) : PR E d ne pc lo (.int x :: .ref a :: st) M Q :=
  px_putI0 hd hf hp (fun h => by cases h) ho.1 (Nat.le_trans ho.2.1 hM) (Nat.lt_of_le_of_lt ho.2.1 (by decide)) ho.2.2 hc rfl rfl k
theorem px_putZ {a idx c j : Nat} {x : Int32} (hd : decode d.co pc = .ok (.putfield idx, 3)) (hf : xFL d.nm.cls idx c j) (hp : xFP c j .boolean false) (ho : xob a c) (hM : xNT ≤ xN M) (hc : (decide (c < 20) && decide (xft c j = 0)) = true) (hn : narrow .boolean (.int x) = .int x) (hfit : fits .boolean (.int x) = true)
    (k : PR E d ne (pc + 3) lo st (wI M a j x) Q) : PR E d ne pc lo (.int x :: .ref a :: st) M Q :=
  px_putI0 hd hf hp (fun h => by cases h) ho.1 (Nat.le_trans ho.2.1 hM) (Nat.lt_of_le_of_lt ho.2.1 (by decide)) ho.2.2 hc hn hfit k
theorem px_putL0 {a idx c j : Nat} {x : Int64} {fin : Bool} (hd : decode d.co pc = .ok (.putfield idx, 3)) (hf : xFL d.nm.cls idx c j) (hp : xFP c j .long fin) (hfin : fin = true → d.nm.name = "<init>" ∧ ((xcl c).2.1 j).1 = d.nm.cls) (h1 : 1 ≤ a) (h2 : a ≤ xN M) (h3 : a < 1000) (hk : (xK a).1 = c) (hc : (decide (c < 20) && decide (xft c j = 2)) = true)
    (k : PR E d ne (pc + 3) lo st (wL M a j x) Q) : PR E d ne pc lo (.long x :: .ref a :: st) M Q := by
  simp only [Bool.and_eq_true, decide_eq_true_eq] at hc
  refine px_put0 (v := .long x) (M' := wL M a j x) hd hf hp hfin h1 h2 h3 hk hc.1 rfl rfl rfl (fun b hb => ent_wL hb) ?_ (fun i hi => ?_) k
  · unfold xfv; rw [if_neg (by rw [hc.2]; decide), if_neg (by rw [hc.2]; decide), xL_wL, if_pos ⟨rfl, rfl⟩]; rfl
  · have e : (wL M a j x).2.2.1 a i = M.2.2.1 a i := by rw [xL_wL, if_neg (fun q => hi q.2)]
    unfold xfv; rw [e]; rfl
theorem px_putL {a idx c j : Nat} {x : Int64} (hd : decode d.co pc = .ok (.putfield idx, 3)) (hf : xFL d.nm.cls idx c j) (hp : xFP c j .long false) (ho : xob a c) (hM : xNT ≤ xN M) (hc : (decide (c < 20) && decide (xft c j = 2)) = true)
    (k : PR E d ne (pc + 3) lo st (wL M a j x) Q) : PR E d ne pc lo (.long x :: .ref a :: st) M Q :=
  px_putL0 hd hf hp (fun h => by cases h) ho.1 (Nat.le_trans ho.2.1 hM) (Nat.lt_of_le_of_lt ho.2.1 (by decide)) ho.2.2 hc k
theorem px_putR0 {a idx c j r : Nat} {ty : FieldType} {fin : Bool} (hd : decode d.co pc = .ok (.putfield idx, 3)) (hf : xFL d.nm.cls idx c j) (hp : xFP c j ty fin) (hfin : fin = true → d.nm.name = "<init>" ∧ ((xcl c).2.1 j).1 = d.nm.cls) (h1 : 1 ≤ a) (h2 : a ≤ xN M) (h3 : a < 1000) (hk : (xK a).1 = c) (hc : (decide (c < 20) && decide (xft c j = 1)) = true) (h0 : 0 < r)
    (hn : ∀ q : Nat, narrow ty (.ref q) = .ref q) (hfit : ∀ q : Nat, fits ty (.ref q) = true) (k : PR E d ne (pc + 3) lo st (wR M a j r) Q) : PR E d ne pc lo (.ref r :: .ref a :: st) M Q := by
  simp only [Bool.and_eq_true, decide_eq_true_eq] at hc
  refine px_put0 (v := .ref r) (M' := wR M a j r) hd hf hp hfin h1 h2 h3 hk hc.1 (hn _) (hfit _) rfl (fun b hb => ent_wR hb) ?_ (fun i hi => ?_) k
  · unfold xfv; rw [if_neg (by rw [hc.2]; decide), if_pos hc.2, xR_wR, if_pos ⟨rfl, rfl⟩]; unfold xrf; rw [if_neg (by omega)]; rfl
  · have e : (wR M a j r).2.1 a i = M.2.1 a i := by rw [xR_wR, if_neg (fun q => hi q.2)]
    unfold xfv; rw [e]; rfl
theorem px_putR {a idx c j r : Nat} {ty : FieldType} (hd : decode d.co pc = .ok (.putfield idx, 3)) (hf : xFL d.nm.cls idx c j) (hp : xFP c j ty false) (ho : xob a c) (hM : xNT ≤ xN M) (hc : (decide (c < 20) && decide (xft c j = 1)) = true) (h0 : 0 < r)
    (hn : ∀ q : Nat, narrow ty (.ref q) = .ref q) (hfit : ∀ q : Nat, fits ty (.ref q) = true) (k : PR E d ne (pc + 3) lo st (wR M a j r) Q) : PR E d ne pc lo (.ref r :: .ref a :: st) M Q :=
  px_putR0 hd hf hp (fun h => by cases h) ho.1 (Nat.le_trans ho.2.1 hM) (Nat.lt_of_le_of_lt ho.2.1 (by decide)) ho.2.2 hc h0 hn hfit k
-- arrays of ints, bytes, booleans
theorem px_iald0 {a n : Nat} {i : Int32} (hd : decode d.co pc = .ok (.iaload, 1)) (h1 : 1 ≤ a) (h2 : a ≤ xN M) (h3 : a < 1000) (hk : xK a = (20, n)) (hin : vp_in i n) (k : PR E d ne (pc + 1) lo (.int (M.1 a i.toNatClampNeg) :: st) M Q) : PR E d ne pc lo (.int i :: .ref a :: st) M Q := by
  intro p e R s m args below meth c' H ls locs cells slots Z S
  obtain ⟨hC, hR, hl0, hlen, hH, hrest⟩ := id S
  have he := ws_at E M h1 h2
  rw [ent_ia hk (by decide) (by decide)] at he
  rw [List.map_cons, List.map_cons, cv_ref h1 h3]
  exact va_iald (i := i) hC.1 hC.2.1 hC.2.2.2.2.2.1.1 hH.2.1 (a - 1) 0 he rfl hin hd (k _ _ _ _ _ _ _ _ _ _ _ _ _ _ _ S)
theorem px_iald {a n : Nat} {i : Int32} (hd : decode d.co pc = .ok (.iaload, 1)) (ho : xar a 20 n) (hM : xNT ≤ xN M) (hin : vp_in i n) (k : PR E d ne (pc + 1) lo (.int (M.1 a i.toNatClampNeg) :: st) M Q) : PR E d ne pc lo (.int i :: .ref a :: st) M Q :=
  px_iald0 hd ho.1 (Nat.le_trans ho.2.1 hM) (Nat.lt_of_le_of_lt ho.2.1 (by decide)) ho.2.2 hin k
theorem px_iast0 {a n : Nat} {i x : Int32} (hd : decode d.co pc = .ok (.iastore, 1)) (h1 : 1 ≤ a) (h2 : a ≤ xN M) (h3 : a < 1000) (hk : xK a = (20, n)) (hin : vp_in i n) (k : PR E d ne (pc + 1) lo st (wI M a i.toNatClampNeg x) Q) : PR E d ne pc lo (.int x :: .int i :: .ref a :: st) M Q := by
  intro p e R s m args below meth c' H ls locs cells slots Z S
  obtain ⟨hC, hR, hl0, hlen, hH, hS, hb1, hb2, hb3⟩ := id S
  have hP := hH.2.1
  have he := ws_at E M h1 h2
  rw [ent_ia hk (by decide) (by decide)] at he
  rw [List.map_cons, List.map_cons, List.map_cons, cv_ref h1 h3]
  refine W.iast (j := i) (x := x) hC.1 hC.2.1 (hP (a - 1) _ he) ((hC.2.2.2.2.2.1.1.2 0 _ rfl).1 n (fun j => .int (M.1 a j))) (fun q => by cases q) (by show ¬ (i < 0 ∨ (arrV _ _ _).slots.size ≤ _); rw [arrV_size]; exact hin) rfl rfl hd fun H1 e1 z oq => ?_
  refine k p e R s m args below meth c' H1 ls _ cells slots Z ⟨hC, hR, hl0, hlen, hH.set h1 h2 (M' := wI M a i.toNatClampNeg x) rfl (fun b hb => ent_wI hb) ?_ z oq, hS.put z oq (Nat.le_add_right _ _), hb1, hb2, hb3⟩
  rw [ent_ia hk (by decide) (by decide)]
  show H1[E.base + (a - 1)]? = some (vp_cell _ _)
  rw [e1]
  rw [vp_cell_i, vp_cell_i, arrV_store]
  congr 2
  funext q
  rw [xI_wI]
  by_cases hq : q = i.toNatClampNeg
  · subst hq
    rw [if_pos ⟨rfl, rfl⟩]
    simp [updV]
  · rw [if_neg (fun z => hq z.2)]
    simp [updV, hq]
theorem px_iast {a n : Nat} {i x : Int32} (hd : decode d.co pc = .ok (.iastore, 1)) (ho : xar a 20 n) (hM : xNT ≤ xN M) (hin : vp_in i n) (k : PR E d ne (pc + 1) lo st (wI M a i.toNatClampNeg x) Q) : PR E d ne pc lo (.int x :: .int i :: .ref a :: st) M Q :=
  px_iast0 hd ho.1 (Nat.le_trans ho.2.1 hM) (Nat.lt_of_le_of_lt ho.2.1 (by decide)) ho.2.2 hin k
theorem px_bald0 {a n : Nat} {i : Int32} (hd : decode d.co pc = .ok (.baload, 1)) (h1 : 1 ≤ a) (h2 : a ≤ xN M) (h3 : a < 1000) (hk : xK a = (21, n)) (hin : vp_in i n) (k : PR E d ne (pc + 1) lo (.int (M.1 a i.toNatClampNeg) :: st) M Q) : PR E d ne pc lo (.int i :: .ref a :: st) M Q := by
  intro p e R s m args below meth c' H ls locs cells slots Z S
  obtain ⟨hC, hR, hl0, hlen, hH, hrest⟩ := id S
  have he := ws_at E M h1 h2
  rw [ent_ia hk (by decide) (by decide)] at he
  rw [List.map_cons, List.map_cons, cv_ref h1 h3]
  exact va_bald (i := i) hC.1 hC.2.1 hC.2.2.2.2.2.1.1 hH.2.1 (a - 1) 1 he rfl hin hd (k _ _ _ _ _ _ _ _ _ _ _ _ _ _ _ S)
theorem px_bald {a n : Nat} {i : Int32} (hd : decode d.co pc = .ok (.baload, 1)) (ho : xar a 21 n) (hM : xNT ≤ xN M) (hin : vp_in i n) (k : PR E d ne (pc + 1) lo (.int (M.1 a i.toNatClampNeg) :: st) M Q) : PR E d ne pc lo (.int i :: .ref a :: st) M Q :=
  px_bald0 hd ho.1 (Nat.le_trans ho.2.1 hM) (Nat.lt_of_le_of_lt ho.2.1 (by decide)) ho.2.2 hin k
theorem px_bast0 {a n : Nat} {i x : Int32} (hd : decode d.co pc = .ok (.bastore, 1)) (h1 : 1 ≤ a) (h2 : a ≤ xN M) (h3 : a < 1000) (hk : xK a = (21, n)) (hin : vp_in i n) (k : PR E d ne (pc + 1) lo st (wI M a i.toNatClampNeg (vp_nar .byte x)) Q) : PR E d ne pc lo (.int x :: .int i :: .ref a :: st) M Q := by
  intro p e R s m args below meth c' H ls locs cells slots Z S
  obtain ⟨hC, hR, hl0, hlen, hH, hS, hb1, hb2, hb3⟩ := id S
  have hP := hH.2.1
  have he := ws_at E M h1 h2
  rw [ent_ia hk (by decide) (by decide)] at he
  rw [List.map_cons, List.map_cons, List.map_cons, cv_ref h1 h3]
  refine W.bast (j := i) (x := x) hC.1 hC.2.1 (hP (a - 1) _ he) ((hC.2.2.2.2.2.1.1.2 1 _ rfl).1 n (fun j => .int (M.1 a j))) (fun q => by cases q) (by show ¬ (i < 0 ∨ (arrV _ _ _).slots.size ≤ _); rw [arrV_size]; exact hin) rfl rfl hd fun H1 e1 z oq => ?_
  refine k p e R s m args below meth c' H1 ls _ cells slots Z ⟨hC, hR, hl0, hlen, hH.set h1 h2 (M' := wI M a i.toNatClampNeg (vp_nar .byte x)) rfl (fun b hb => ent_wI hb) ?_ z oq, hS.put z oq (Nat.le_add_right _ _), hb1, hb2, hb3⟩
  rw [ent_ia hk (by decide) (by decide)]
  show H1[E.base + (a - 1)]? = some (vp_cell _ _)
  rw [e1]
  rw [vp_cell_i, vp_cell_i, arrV_store]
  congr 2
  funext q
  rw [xI_wI]
  by_cases hq : q = i.toNatClampNeg
  · subst hq
    rw [if_pos ⟨rfl, rfl⟩]
    simp [updV, vp_nar, narrow]
  · rw [if_neg (fun z => hq z.2)]
    simp [updV, hq]
theorem px_bast {a n : Nat} {i x : Int32} (hd : decode d.co pc = .ok (.bastore, 1)) (ho : xar a 21 n) (hM : xNT ≤ xN M) (hin : vp_in i n) (k : PR E d ne (pc + 1) lo st (wI M a i.toNatClampNeg (vp_nar .byte x)) Q) : PR E d ne pc lo (.int x :: .int i :: .ref a :: st) M Q :=
  px_bast0 hd ho.1 (Nat.le_trans ho.2.1 hM) (Nat.lt_of_le_of_lt ho.2.1 (by decide)) ho.2.2 hin k
theorem px_zald0 {a n : Nat} {i : Int32} (hd : decode d.co pc = .ok (.baload, 1)) (h1 : 1 ≤ a) (h2 : a ≤ xN M) (h3 : a < 1000) (hk : xK a = (22, n)) (hin : vp_in i n) (k : PR E d ne (pc + 1) lo (.int (M.1 a i.toNatClampNeg) :: st) M Q) : PR E d ne pc lo (.int i :: .ref a :: st) M Q := by
  intro p e R s m args below meth c' H ls locs cells slots Z S
  obtain ⟨hC, hR, hl0, hlen, hH, hrest⟩ := id S
  have he := ws_at E M h1 h2
  rw [ent_ia hk (by decide) (by decide)] at he
  rw [List.map_cons, List.map_cons, cv_ref h1 h3]
  exact va_zald (i := i) hC.1 hC.2.1 hC.2.2.2.2.2.1.1 hH.2.1 (a - 1) 2 he rfl hin hd (k _ _ _ _ _ _ _ _ _ _ _ _ _ _ _ S)
theorem px_zald {a n : Nat} {i : Int32} (hd : decode d.co pc = .ok (.baload, 1)) (ho : xar a 22 n) (hM : xNT ≤ xN M) (hin : vp_in i n) (k : PR E d ne (pc + 1) lo (.int (M.1 a i.toNatClampNeg) :: st) M Q) : PR E d ne pc lo (.int i :: .ref a :: st) M Q :=
  px_zald0 hd ho.1 (Nat.le_trans ho.2.1 hM) (Nat.lt_of_le_of_lt ho.2.1 (by decide)) ho.2.2 hin k
theorem px_zast0 {a n : Nat} {i x : Int32} (hd : decode d.co pc = .ok (.bastore, 1)) (h1 : 1 ≤ a) (h2 : a ≤ xN M) (h3 : a < 1000) (hk : xK a = (22, n)) (hin : vp_in i n) (k : PR E d ne (pc + 1) lo st (wI M a i.toNatClampNeg (vp_nar .boolean x)) Q) : PR E d ne pc lo (.int x :: .int i :: .ref a :: st) M Q := by
  intro p e R s m args below meth c' H ls locs cells slots Z S
  obtain ⟨hC, hR, hl0, hlen, hH, hS, hb1, hb2, hb3⟩ := id S
  have hP := hH.2.1
  have he := ws_at E M h1 h2
  rw [ent_ia hk (by decide) (by decide)] at he
  rw [List.map_cons, List.map_cons, List.map_cons, cv_ref h1 h3]
  refine W.zast (j := i) (x := x) hC.1 hC.2.1 (hP (a - 1) _ he) ((hC.2.2.2.2.2.1.1.2 2 _ rfl).1 n (fun j => .int (M.1 a j))) (fun q => by cases q) (by show ¬ (i < 0 ∨ (arrV _ _ _).slots.size ≤ _); rw [arrV_size]; exact hin) rfl rfl hd fun H1 e1 z oq => ?_
  refine k p e R s m args below meth c' H1 ls _ cells slots Z ⟨hC, hR, hl0, hlen, hH.set h1 h2 (M' := wI M a i.toNatClampNeg (vp_nar .boolean x)) rfl (fun b hb => ent_wI hb) ?_ z oq, hS.put z oq (Nat.le_add_right _ _), hb1, hb2, hb3⟩
  rw [ent_ia hk (by decide) (by decide)]
  show H1[E.base + (a - 1)]? = some (vp_cell _ _)
  rw [e1]
  rw [vp_cell_i, vp_cell_i, arrV_store]
  congr 2
  funext q
  rw [xI_wI]
  by_cases hq : q = i.toNatClampNeg
  · subst hq
    rw [if_pos ⟨rfl, rfl⟩]
    simp [updV, vp_nar, narrow]
  · rw [if_neg (fun z => hq z.2)]
    simp [updV, hq]
theorem px_zast {a n : Nat} {i x : Int32} (hd : decode d.co pc = .ok (.bastore, 1)) (ho : xar a 22 n) (hM : xNT ≤ xN M) (hin : vp_in i n) (k : PR E d ne (pc + 1) lo st (wI M a i.toNatClampNeg (vp_nar .boolean x)) Q) : PR E d ne pc lo (.int x :: .int i :: .ref a :: st) M Q :=
  px_zast0 hd ho.1 (Nat.le_trans ho.2.1 hM) (Nat.lt_of_le_of_lt ho.2.1 (by decide)) ho.2.2 hin k
theorem px_alen {a kk n : Nat} (hd : decode d.co pc = .ok (.arraylength, 1)) (ho : xar a kk n) (hk : (decide (20 ≤ kk) && decide (kk < 27)) = true) (hM : xNT ≤ xN M) (k : PR E d ne (pc + 1) lo (.int (Int32.ofNat n) :: st) M Q) : PR E d ne pc lo (.ref a :: st) M Q := by
  intro p e R s m args below meth c' H ls locs cells slots Z S
  obtain ⟨hC, hR, hl0, hlen, hH, hrest⟩ := id S
  simp only [Bool.and_eq_true, decide_eq_true_eq] at hk
  have he := ws_at E M ho.1 (Nat.le_trans ho.2.1 hM)
  rw [List.map_cons, cv_ref ho.1 (Nat.lt_of_le_of_lt ho.2.1 (by decide))]
  have ht : ∃ (t0 : Nat) (ty : FieldType), (xtys E)[t0]? = some (E.cA kk, ty) := by
    obtain ⟨g1, g2⟩ := hk
    have : kk = 20 ∨ kk = 21 ∨ kk = 22 ∨ kk = 23 ∨ kk = 24 ∨ kk = 25 ∨ kk = 26 := by omega
    rcases this with rfl | rfl | rfl | rfl | rfl | rfl | rfl
    · exact ⟨0, _, rfl⟩
    · exact ⟨1, _, rfl⟩
    · exact ⟨2, _, rfl⟩
    · exact ⟨3, _, rfl⟩
    · exact ⟨4, _, rfl⟩
    · exact ⟨5, _, rfl⟩
    · exact ⟨6, _, rfl⟩
  obtain ⟨t0, ty, ht⟩ := ht
  by_cases h23 : kk < 23
  · rw [ent_ia ho.2.2 hk.1 h23] at he
    exact va_alen hC.1 hC.2.1 hC.2.2.2.2.2.1.1 hH.2.1 (a - 1) t0 he ht rfl hd (k _ _ _ _ _ _ _ _ _ _ _ _ _ _ _ S)
  · rw [ent_ra ho.2.2 (by omega)] at he
    exact va_alen hC.1 hC.2.1 hC.2.2.2.2.2.1.1 hH.2.1 (a - 1) t0 he ht rfl hd (k _ _ _ _ _ _ _ _ _ _ _ _ _ _ _ S)
theorem px_sld {i : Int32} (hd : decode d.co pc = .ok (.iaload, 1)) (hin : vp_in i E.L) (k : PR E d ne (pc + 1) lo (.int (E.xs i.toNatClampNeg) :: st) M Q) : PR E d ne pc lo (.int i :: .ref 0 :: st) M Q := by
  intro p e R s m args below meth c' H ls locs cells slots Z S
  obtain ⟨hC, hR, hl0, hlen, hH, hrest⟩ := id S
  obtain ⟨scr, q1, q2, q3, q4, q5⟩ := hH.2.2.1
  have hlt : i.toNatClampNeg < E.L := Nat.not_le.mp fun q => hin (Or.inr q)
  exact W.iald (a := E.b) (j := i) (v := .int (E.xs i.toNatClampNeg)) hC.1 hC.2.1 q1 q2 q3 (by rw [q4]; exact hin) (q5 _ hlt) rfl rfl hd (k _ _ _ _ _ _ _ _ _ _ _ _ _ _ _ S)
theorem px_slen (hd : decode d.co pc = .ok (.arraylength, 1)) (k : PR E d ne (pc + 1) lo (.int (Int32.ofNat E.L) :: st) M Q) : PR E d ne pc lo (.ref 0 :: st) M Q := by
  intro p e R s m args below meth c' H ls locs cells slots Z S
  obtain ⟨hC, hR, hl0, hlen, hH, hrest⟩ := id S
  obtain ⟨scr, q1, q2, q3, q4, q5⟩ := hH.2.2.1
  exact W.alen (a := E.b) (n := Int32.ofNat E.L) hC.1 hC.2.1 q1 q2 (by rw [q4]) rfl rfl hd (k _ _ _ _ _ _ _ _ _ _ _ _ _ _ _ S)
/-- aaload -/
theorem px_aald0 {a kk n r t0 : Nat} {C : String} {i : Int32} (hd : decode d.co pc = .ok (.aaload, 1)) (h1 : 1 ≤ a) (h2 : a ≤ xN M) (h3 : a < 1000) (hk : xK a = (kk, n)) (h23 : 23 ≤ kk) (ht : ∀ E : xE, (xtys E)[t0]? = some (E.cA kk, .object C)) (hin : vp_in i n) (hr : M.2.1 a i.toNatClampNeg = r) (h0 : 0 < r)
    (k : PR E d ne (pc + 1) lo (.ref r :: st) M Q) : PR E d ne pc lo (.int i :: .ref a :: st) M Q := by
  intro p e R s m args below meth c' H ls locs cells slots Z S
  obtain ⟨hC, hR, hl0, hlen, hH, hrest⟩ := id S
  have he := ws_at E M h1 h2
  rw [ent_ra hk h23] at he
  rw [List.map_cons, List.map_cons, cv_ref h1 h3]
  refine va_aldq (i := i) hC.1 hC.2.1 hC.2.2.2.2.2.1.1 hH.2.1 (a - 1) t0 he (ht E) hin hd ?_
  rw [hr]
  unfold xrf
  rw [if_neg (by omega)]
  exact k _ _ _ _ _ _ _ _ _ _ _ _ _ _ _ S
theorem px_aald {a kk n r t0 : Nat} {C : String} {i : Int32} (hd : decode d.co pc = .ok (.aaload, 1)) (ho : xar a kk n) (h23 : 23 ≤ kk) (ht : ∀ E : xE, (xtys E)[t0]? = some (E.cA kk, .object C)) (hM : xNT ≤ xN M) (hin : vp_in i n) (hr : M.2.1 a i.toNatClampNeg = r) (h0 : 0 < r)
    (k : PR E d ne (pc + 1) lo (.ref r :: st) M Q) : PR E d ne pc lo (.int i :: .ref a :: st) M Q :=
  px_aald0 hd ho.1 (Nat.le_trans ho.2.1 hM) (Nat.lt_of_le_of_lt ho.2.1 (by decide)) ho.2.2 h23 ht hin hr h0 k
/-- aastore of an object of class c -/
theorem px_aast0 {a kk n r t0 c : Nat} {i : Int32} (hd : decode d.co pc = .ok (.aastore, 1)) (h1 : 1 ≤ a) (h2 : a ≤ xN M) (h3 : a < 1000) (hk : xK a = (kk, n)) (h23 : 23 ≤ kk) (hcl : vwCl[c]? = some (xcl c)) (ht : ∀ E : xE, (xtys E)[t0]? = some (E.cA kk, .object (xcl c).1)) (hin : vp_in i n) (r1 : 1 ≤ r) (r2 : r ≤ xN M) (r3 : r < 1000) (hrk : (xK r).1 = c) (hc : c < 20)
    (k : PR E d ne (pc + 1) lo st (wR M a i.toNatClampNeg r) Q) : PR E d ne pc lo (.ref r :: .int i :: .ref a :: st) M Q := by
  intro p e R s m args below meth c' H ls locs cells slots Z S
  obtain ⟨hC, hR, hl0, hlen, hH, hS, hb1, hb2, hb3⟩ := id S
  have hP := hH.2.1
  have hK := hC.2.2.2.2.2.1.1
  have he := ws_at E M h1 h2
  rw [ent_ra hk h23] at he
  have hv := ws_at E M r1 r2
  rw [ent_ob hrk hc] at hv
  rw [List.map_cons, List.map_cons, List.map_cons, cv_ref h1 h3, cv_ref r1 r3]
  have hlt : i.toNatClampNeg < n := Nat.not_le.mp fun q => hin (Or.inr q)
  have h0 : ¬ i < 0 := fun q => hin (Or.inl q)
  obtain ⟨r', hr', cellV, g1, g2, g3, -⟩ := hP (r - 1) _ hv
  have hcls := (hK.1 c _ hcl).2
  obtain ⟨kA, comp, k1, k2, k3, -⟩ := (hK.2 t0 _ (ht E)).2
  have hcomp : comp = E.D.1 c := Option.some.inj (k3.symm.trans hcls.1)
  subst hcomp
  obtain ⟨kC, hkC, -⟩ := hcls.2
  refine W.aast hC.1 hC.2.1 (hP (a - 1) _ he) (fun q h => by cases h) (fun h => by cases h) k1 k2 rfl hkC ⟨h0, by show _ < (arrV _ _ _).slots.size; rw [arrV_size]; exact hlt⟩ g1 (fun q h => by rw [g3] at h; cases h) (by rw [g2]; exact hkC) (by rw [g2]; exact va_assign hcls) rfl rfl hd fun H1 e1 z oq => ?_
  refine k p e R s m args below meth c' H1 ls _ cells slots Z ⟨hC, hR, hl0, hlen, hH.set h1 h2 (M' := wR M a i.toNatClampNeg r) rfl (fun b hb => ent_wR hb) ?_ z oq, hS.put z oq (Nat.le_add_right _ _), hb1, hb2, hb3⟩
  rw [ent_ra hk h23]
  show H1[E.base + (a - 1)]? = some (vp_cell _ _)
  rw [e1]
  rw [vp_cell_q, vp_cell_q, arrV_store]
  congr 2
  funext q
  rw [xR_wR]
  by_cases hq : q = i.toNatClampNeg
  · subst hq
    rw [if_pos ⟨rfl, rfl⟩]
    unfold xrf
    rw [if_neg (by omega), ad_in r1 r3]
    simp [updV, va_rf]
  · rw [if_neg (fun z => hq z.2)]
    simp [updV, hq]
end HEAP2
