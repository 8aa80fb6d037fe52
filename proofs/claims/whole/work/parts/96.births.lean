/-! ===== births: rules with the new cell's number named ===== -/
theorem xN_wI (M : xMem) (a j : Nat) (v : Int32) : xN (wI M a j v) = xN M := rfl
theorem xN_wR (M : xMem) (a j v : Nat) : xN (wR M a j v) = xN M := rfl
theorem xN_wN (M : xMem) : xN (wN M) = xN M + 1 := rfl
theorem wN_1 {M : xMem} {b : Nat} (h : b ≠ xN M + 1) : (wN M).1 b = M.1 b := if_neg h
theorem wN_2 {M : xMem} {b : Nat} (h : b ≠ xN M + 1) : (wN M).2.1 b = M.2.1 b := if_neg h
/-- the cells below a are as they were -/
def bel (a : Nat) (M m : xMem) : Prop := ∀ b, b < a → m.1 b = M.1 b ∧ m.2.1 b = M.2.1 b
theorem bel_rf (a : Nat) (M : xMem) : bel a M M := fun _ _ => ⟨rfl, rfl⟩
theorem bel_wI {a c j : Nat} {v : Int32} {M m : xMem} (h : bel a M m) (hc : a ≤ c) : bel a M (wI m c j v) := fun b hb => ⟨by funext k; rw [xI_wI, if_neg (fun z => by omega), (h b hb).1], (h b hb).2⟩
theorem bel_wR {a c j v : Nat} {M m : xMem} (h : bel a M m) (hc : a ≤ c) : bel a M (wR m c j v) := fun b hb => ⟨(h b hb).1, by funext k; rw [xR_wR, if_neg (fun z => by omega), (h b hb).2]⟩
theorem bel_wN {a : Nat} {M m : xMem} (h : bel a M m) (hc : a ≤ xN m + 1) : bel a M (wN m) := fun b hb => ⟨by rw [wN_1 (by omega)]; exact (h b hb).1, by rw [wN_2 (by omega)]; exact (h b hb).2⟩
theorem bel_tr {a b : Nat} {M m m' : xMem} (h : bel a M m) (h2 : bel b m m') (hc : a ≤ b) : bel a M m' := fun c hc' => ⟨((h2 c (by omega)).1).trans (h c hc').1, ((h2 c (by omega)).2).trans (h c hc').2⟩
section BIRTH
variable {E : xE} {d : xMD} {ne pc : Nat} {lo : List (Option Value)} {st : List Value} {M : xMem} {Q : Option Value → xMem → Prop}
theorem px_newA {idx c b : Nat} (hd : decode d.co pc = .ok (.new idx, 3)) (hw : xNW d idx c) (hb : xN M + 1 = b) (hk : (xK b).1 = c) (hn : b ≤ ne) (hT : ne ≤ xNT) (k : PR E d ne (pc + 3) lo (.ref b :: st) (wN M) Q) : PR E d ne pc lo st M Q := by
  subst hb
  exact px_new hd hw hk (by omega) hT k
theorem px_newaA {N kk t0 b : Nat} {n : Int32} {atype : ArrayType} (hd : decode d.co pc = .ok (.newarray atype, 2)) (hw : Cond.arrayClass (newarray.typeOf atype) ∈ xwl) (ht : ∀ E : xE, (xtys E)[t0]? = some (E.cA kk, newarray.typeOf atype)) (hra : ∀ U cA, va_RA U cA (newarray.typeOf atype) → U.vm.findClass ("[" ++ (newarray.typeOf atype).toString) = some cA) (hdv : defaultValue (newarray.typeOf atype) = .int 0) (h20 : 20 ≤ kk) (h23 : kk < 23) (hb : xN M + 1 = b) (hk : xK b = (kk, N)) (h0 : ¬ n < 0) (hN : n.toNatClampNeg = N) (hby : N * componentBytes (newarray.typeOf atype) ≤ 536870912) (hn : b ≤ ne) (hT : ne ≤ xNT)
    (k : PR E d ne (pc + 2) lo (.ref b :: st) (wN M) Q) : PR E d ne pc lo (.int n :: st) M Q := by
  subst hb
  exact px_newa0 hd hw ht hra hdv h20 h23 hk h0 hN hby (by omega) hT k
theorem px_newqA {N kk t0 idx b : Nat} {n : Int32} {C : String} (hd : decode d.co pc = .ok (.anewarray idx, 3)) (hw : Cond.classLink d.nm.cls idx C ∈ xwl) (hC4 : C ∈ [RX5, RX9, RX8, RX0]) (ht : ∀ E : xE, (xtys E)[t0]? = some (E.cA kk, .object C)) (h23 : 23 ≤ kk) (hb : xN M + 1 = b) (hk : xK b = (kk, N)) (h0 : ¬ n < 0) (hN : n.toNatClampNeg = N) (hby : N * 4 ≤ 536870912) (hn : b ≤ ne) (hT : ne ≤ xNT)
    (k : PR E d ne (pc + 3) lo (.ref b :: st) (wN M) Q) : PR E d ne pc lo (.int n :: st) M Q := by
  subst hb
  exact px_newq hd hw hC4 ht h23 hk h0 hN hby (by omega) hT k
theorem px_cI0 {d' : xMD} {idx a ne' : Nat} {Q' : Option Value → xMem → Prop} (hd : decode d.co pc = .ok (.invokespecial idx, 3)) (hw : xCI d idx d' 0) (hn1 : xN M ≤ ne') (hn2 : ne' ≤ ne) (hW : (st.map fun v => v.category).sum ≤ 8) (h : Ct E d' [.ref a] M ne' Q') (k : ∀ r M', Q' r M' → xN M' = ne' → PR E d ne (pc + 3) lo (r.toList ++ st) M' Q) : PR E d ne pc lo (.ref a :: st) M Q := px_cI (As := []) hd hw hn1 hn2 hW h k
theorem px_cIN0 {d' : xMD} {idx a ne' : Nat} {host : String} {Q' : Option Value → xMem → Prop} (hd : decode d.co pc = .ok (.invokespecial idx, 3)) (hw : xCIN d idx d' 0 host) (hn1 : xN M ≤ ne') (hn2 : ne' ≤ ne) (hW : (st.map fun v => v.category).sum ≤ 8) (h : Ct E d' [.ref a] M ne' Q') (k : ∀ r M', Q' r M' → xN M' = ne' → PR E d ne (pc + 3) lo (r.toList ++ st) M' Q) : PR E d ne pc lo (.ref a :: st) M Q := px_cIN (As := []) hd hw hn1 hn2 hW h k
theorem px_getRA {a idx c j r : Nat} (hd : decode d.co pc = .ok (.getfield idx, 3)) (hf : xFL d.nm.cls idx c j) (h1 : 1 ≤ a) (h2 : a ≤ xN M) (h3 : a < 1000) (hk : (xK a).1 = c) (hc : (decide (c < 20) && decide (xft c j = 1)) = true) (hr : M.2.1 a j = r) (h0 : 0 < r)
    (k : PR E d ne (pc + 3) lo (.ref r :: st) M Q) : PR E d ne pc lo (.ref a :: st) M Q := by
  simp only [Bool.and_eq_true, decide_eq_true_eq] at hc
  refine px_get0 hd hf h1 h2 h3 hk hc.1 ?_ k
  unfold xfv; rw [if_neg (by rw [hc.2]; decide), if_pos hc.2, hr]
  unfold xrf; rw [if_neg (by omega)]; rfl
end BIRTH
/-- a layout, a story, a row or a text, a sheet as they are born -/
def layN (a : Nat) (m : xMem) : Prop := m.2.1 a 0 = a + 1 ∧ m.1 a 1 = 0 ∧ ∀ k, k < 8 → m.1 (a + 1) k = -9
def stoN (a : Nat) (m : xMem) : Prop := m.2.1 a 0 = a + 1 ∧ m.2.1 a 1 = a + 3 ∧ m.1 a 2 = 0 ∧ layN (a + 1) m
def rowN (a : Nat) (m : xMem) : Prop := m.2.1 a 0 = a + 1 ∧ m.1 a 1 = -1
def sheN (a : Nat) (m : xMem) : Prop := m.2.1 a 0 = a + 1 ∧ (m.1 a 1 = 0 ∧ m.1 a 2 = 0 ∧ m.1 a 3 = 0 ∧ m.1 a 4 = 0) ∧ ∀ j, j < 8 → m.2.1 (a + 1) j = a + 1 + 1 + j
theorem layN_k {a : Nat} {M m : xMem} (h : layN a M) (e : ∀ b, a ≤ b → b ≤ a + 1 → m.1 b = M.1 b ∧ m.2.1 b = M.2.1 b) : layN a m := by
  unfold layN at h ⊢
  rw [(e a (by omega) (by omega)).1, (e a (by omega) (by omega)).2, (e (a + 1) (by omega) (by omega)).1]
  exact h
theorem stoN_k {a : Nat} {M m : xMem} (h : stoN a M) (e : ∀ b, a ≤ b → b ≤ a + 3 → m.1 b = M.1 b ∧ m.2.1 b = M.2.1 b) : stoN a m := by
  obtain ⟨h1, h2, h3, h4⟩ := h
  refine ⟨?_, ?_, ?_, layN_k h4 (fun b b1 b2 => e b (by omega) (by omega))⟩
  · rw [(e a (by omega) (by omega)).2]; exact h1
  · rw [(e a (by omega) (by omega)).2]; exact h2
  · rw [(e a (by omega) (by omega)).1]; exact h3
theorem rowN_k {a : Nat} {M m : xMem} (h : rowN a M) (e : m.1 a = M.1 a ∧ m.2.1 a = M.2.1 a) : rowN a m := by
  unfold rowN at h ⊢
  rw [e.1, e.2]
  exact h
theorem sheN_k {a : Nat} {M m : xMem} (h : sheN a M) (e : ∀ b, a ≤ b → b ≤ a + 1 → m.1 b = M.1 b ∧ m.2.1 b = M.2.1 b) : sheN a m := by
  unfold sheN at h ⊢
  rw [(e a (by omega) (by omega)).1, (e a (by omega) (by omega)).2, (e (a + 1) (by omega) (by omega)).2]
  exact h
set_option maxRecDepth 100000 in
theorem n_X5 {E : xE} {M : xMem} {a : Nat} (ha : xN M = a) (h1 : 1 ≤ a) (hT : a + 1 ≤ xNT) (k0 : (xK a).1 = 5) (k1 : xK (a + 1) = (20, 40)) : Ct E mX5_init [.ref a] M (a + 1) (fun r m => r = none ∧ bel a M m ∧ rowN a m) := by
  refine Ct.of (lo := [some (.ref a)]) pln_X5 (Nat.le_of_ble_eq_true rfl) rfl (by first | omega | (simp only [xN_wI, xN_wR, xN_wN]; omega)) ?_
  refine px_aload_n dX5_init_0 rfl rfl ?_
  refine px_obj dX5_init_1 kX5_init_3 (Nat.le_of_ble_eq_true rfl) (Nat.le_of_ble_eq_true rfl) ?_
  refine px_aload_n dX5_init_4 rfl rfl ?_
  refine px_bipush dX5_init_5 bp_40 ?_
  refine px_newaA (b := a + 1) (N := 40) (kk := 20) (t0 := 0) dX5_init_7 xw147 (fun _ => rfl) (fun _ _ h => h) rfl (by decide) (by decide) (by first | omega | (simp only [xN_wI, xN_wR, xN_wN]; omega)) k1 (by decide) rfl (by decide) (by first | omega | (simp only [xN_wI, xN_wR, xN_wN]; omega)) hT ?_
  refine px_putR0 dX5_init_9 fX5_9 p5_0 (fun _ => ⟨rfl, rfl⟩) h1 (by first | omega | (simp only [xN_wI, xN_wR, xN_wN]; omega)) (by have : xNT = 93 := rfl; omega) k0 rfl (by first | omega | (simp only [xN_wI, xN_wR, xN_wN]; omega)) (fun _ => rfl) (fun _ => rfl) ?_
  refine px_aload_n dX5_init_12 rfl rfl ?_
  refine px_iconst dX5_init_13 ic_m1 ?_
  refine px_putI0 dX5_init_14 fX5_15 p5_1 (fun _ => ⟨rfl, rfl⟩) h1 (by first | omega | (simp only [xN_wI, xN_wR, xN_wN]; omega)) (by have : xNT = 93 := rfl; omega) k0 rfl rfl rfl ?_
  exact px_ret dX5_init_17 rfl ⟨rfl, (by repeat (first | exact bel_rf _ _ | (refine bel_wI ?_ (by first | omega | (simp only [xN_wI, xN_wR, xN_wN]; omega))) | (refine bel_wR ?_ (by first | omega | (simp only [xN_wI, xN_wR, xN_wN]; omega))) | (refine bel_wN ?_ (by first | omega | (simp only [xN_wI, xN_wR, xN_wN]; omega))))), by (repeat (first | rfl | omega | rw [if_neg (by omega)] | rw [if_pos (by omega)] | rw [xI_wI] | rw [xR_wI] | rw [xR_wR] | rw [xI_wR] | rw [wN_1 (by first | omega | (simp only [xN_wI, xN_wR, xN_wN]; omega))] | rw [wN_2 (by first | omega | (simp only [xN_wI, xN_wR, xN_wN]; omega))])), by (repeat (first | rfl | omega | rw [if_neg (by omega)] | rw [if_pos (by omega)] | rw [xI_wI] | rw [xR_wI] | rw [xR_wR] | rw [xI_wR] | rw [wN_1 (by first | omega | (simp only [xN_wI, xN_wR, xN_wN]; omega))] | rw [wN_2 (by first | omega | (simp only [xN_wI, xN_wR, xN_wN]; omega))]))⟩ (by first | omega | (simp only [xN_wI, xN_wR, xN_wN]; omega))
set_option maxRecDepth 100000 in
theorem n_X9 {E : xE} {M : xMem} {a : Nat} (ha : xN M = a) (h1 : 1 ≤ a) (hT : a + 1 ≤ xNT) (k0 : (xK a).1 = 9) (k1 : xK (a + 1) = (21, 120)) : Ct E mX9_init [.ref a] M (a + 1) (fun r m => r = none ∧ bel a M m ∧ rowN a m) := by
  refine Ct.of (lo := [some (.ref a)]) pln_X9 (Nat.le_of_ble_eq_true rfl) rfl (by first | omega | (simp only [xN_wI, xN_wR, xN_wN]; omega)) ?_
  refine px_aload_n dX9_init_0 rfl rfl ?_
  refine px_obj dX9_init_1 kX9_init_3 (Nat.le_of_ble_eq_true rfl) (Nat.le_of_ble_eq_true rfl) ?_
  refine px_aload_n dX9_init_4 rfl rfl ?_
  refine px_bipush dX9_init_5 bp_120 ?_
  refine px_newaA (b := a + 1) (N := 120) (kk := 21) (t0 := 1) dX9_init_7 xw299 (fun _ => rfl) (fun _ _ h => h) rfl (by decide) (by decide) (by first | omega | (simp only [xN_wI, xN_wR, xN_wN]; omega)) k1 (by decide) rfl (by decide) (by first | omega | (simp only [xN_wI, xN_wR, xN_wN]; omega)) hT ?_
  refine px_putR0 dX9_init_9 fX9_9 p9_0 (fun _ => ⟨rfl, rfl⟩) h1 (by first | omega | (simp only [xN_wI, xN_wR, xN_wN]; omega)) (by have : xNT = 93 := rfl; omega) k0 rfl (by first | omega | (simp only [xN_wI, xN_wR, xN_wN]; omega)) (fun _ => rfl) (fun _ => rfl) ?_
  refine px_aload_n dX9_init_12 rfl rfl ?_
  refine px_iconst dX9_init_13 ic_m1 ?_
  refine px_putI0 dX9_init_14 fX9_15 p9_1 (fun _ => ⟨rfl, rfl⟩) h1 (by first | omega | (simp only [xN_wI, xN_wR, xN_wN]; omega)) (by have : xNT = 93 := rfl; omega) k0 rfl rfl rfl ?_
  exact px_ret dX9_init_17 rfl ⟨rfl, (by repeat (first | exact bel_rf _ _ | (refine bel_wI ?_ (by first | omega | (simp only [xN_wI, xN_wR, xN_wN]; omega))) | (refine bel_wR ?_ (by first | omega | (simp only [xN_wI, xN_wR, xN_wN]; omega))) | (refine bel_wN ?_ (by first | omega | (simp only [xN_wI, xN_wR, xN_wN]; omega))))), by (repeat (first | rfl | omega | rw [if_neg (by omega)] | rw [if_pos (by omega)] | rw [xI_wI] | rw [xR_wI] | rw [xR_wR] | rw [xI_wR] | rw [wN_1 (by first | omega | (simp only [xN_wI, xN_wR, xN_wN]; omega))] | rw [wN_2 (by first | omega | (simp only [xN_wI, xN_wR, xN_wN]; omega))])), by (repeat (first | rfl | omega | rw [if_neg (by omega)] | rw [if_pos (by omega)] | rw [xI_wI] | rw [xR_wI] | rw [xR_wR] | rw [xI_wR] | rw [wN_1 (by first | omega | (simp only [xN_wI, xN_wR, xN_wN]; omega))] | rw [wN_2 (by first | omega | (simp only [xN_wI, xN_wR, xN_wN]; omega))]))⟩ (by first | omega | (simp only [xN_wI, xN_wR, xN_wN]; omega))
set_option maxRecDepth 100000 in
theorem n_X6 {E : xE} {M : xMem} {a : Nat} (ha : xN M = a) (h1 : 1 ≤ a) (hT : a + 1 ≤ xNT) (k0 : (xK a).1 = 6) (k1 : xK (a + 1) = (21, 120)) : Ct E mX6_init [.ref a] M (a + 1) (fun r m => r = none ∧ bel a M m ∧ m.2.1 a 0 = a + 1) := by
  refine Ct.of (lo := [some (.ref a)]) pln_X6 (Nat.le_of_ble_eq_true rfl) rfl (by first | omega | (simp only [xN_wI, xN_wR, xN_wN]; omega)) ?_
  refine px_aload_n dX6_init_0 rfl rfl ?_
  refine px_obj dX6_init_1 kX6_init_3 (Nat.le_of_ble_eq_true rfl) (Nat.le_of_ble_eq_true rfl) ?_
  refine px_aload_n dX6_init_4 rfl rfl ?_
  refine px_bipush dX6_init_5 bp_120 ?_
  refine px_newaA (b := a + 1) (N := 120) (kk := 21) (t0 := 1) dX6_init_7 xw299 (fun _ => rfl) (fun _ _ h => h) rfl (by decide) (by decide) (by first | omega | (simp only [xN_wI, xN_wR, xN_wN]; omega)) k1 (by decide) rfl (by decide) (by first | omega | (simp only [xN_wI, xN_wR, xN_wN]; omega)) hT ?_
  refine px_putR0 dX6_init_9 fX6_9 p6_0 (fun _ => ⟨rfl, rfl⟩) h1 (by first | omega | (simp only [xN_wI, xN_wR, xN_wN]; omega)) (by have : xNT = 93 := rfl; omega) k0 rfl (by first | omega | (simp only [xN_wI, xN_wR, xN_wN]; omega)) (fun _ => rfl) (fun _ => rfl) ?_
  refine px_aload_n dX6_init_12 rfl rfl ?_
  refine px_iconst dX6_init_13 ic_0 ?_
  refine px_putI0 dX6_init_14 fX6_15 p6_1 (fun _ => ⟨rfl, rfl⟩) h1 (by first | omega | (simp only [xN_wI, xN_wR, xN_wN]; omega)) (by have : xNT = 93 := rfl; omega) k0 rfl rfl rfl ?_
  exact px_ret dX6_init_17 rfl ⟨rfl, (by repeat (first | exact bel_rf _ _ | (refine bel_wI ?_ (by first | omega | (simp only [xN_wI, xN_wR, xN_wN]; omega))) | (refine bel_wR ?_ (by first | omega | (simp only [xN_wI, xN_wR, xN_wN]; omega))) | (refine bel_wN ?_ (by first | omega | (simp only [xN_wI, xN_wR, xN_wN]; omega))))), by (repeat (first | rfl | omega | rw [if_neg (by omega)] | rw [if_pos (by omega)] | rw [xI_wI] | rw [xR_wI] | rw [xR_wR] | rw [xI_wR] | rw [wN_1 (by first | omega | (simp only [xN_wI, xN_wR, xN_wN]; omega))] | rw [wN_2 (by first | omega | (simp only [xN_wI, xN_wR, xN_wN]; omega))]))⟩ (by first | omega | (simp only [xN_wI, xN_wR, xN_wN]; omega))
set_option maxRecDepth 100000 in
theorem n_X4 {E : xE} {M : xMem} {a : Nat} (ha : xN M = a) (h1 : 1 ≤ a) (hT : a + 2 ≤ xNT) (k0 : (xK a).1 = 4) (k1 : xK (a + 1) = (20, 16)) (k2 : xK (a + 2) = (20, 729)) : Ct E mX4_init [.ref a] M (a + 2) (fun r m => r = none ∧ bel a M m ∧ (m.2.1 a 0 = a + 1 ∧ m.2.1 a 1 = a + 2)) := by
  refine Ct.of (lo := [some (.ref a)]) pln_X4 (Nat.le_of_ble_eq_true rfl) rfl (by first | omega | (simp only [xN_wI, xN_wR, xN_wN]; omega)) ?_
  refine px_aload_n dX4_init_0 rfl rfl ?_
  refine px_obj dX4_init_1 kX4_init_3 (Nat.le_of_ble_eq_true rfl) (Nat.le_of_ble_eq_true rfl) ?_
  refine px_aload_n dX4_init_4 rfl rfl ?_
  refine px_bipush dX4_init_5 bp_16 ?_
  refine px_newaA (b := a + 1) (N := 16) (kk := 20) (t0 := 0) dX4_init_7 xw147 (fun _ => rfl) (fun _ _ h => h) rfl (by decide) (by decide) (by first | omega | (simp only [xN_wI, xN_wR, xN_wN]; omega)) k1 (by decide) rfl (by decide) (by first | omega | (simp only [xN_wI, xN_wR, xN_wN]; omega)) hT ?_
  refine px_putR0 dX4_init_9 fX4_9 p4_0 (fun _ => ⟨rfl, rfl⟩) h1 (by first | omega | (simp only [xN_wI, xN_wR, xN_wN]; omega)) (by have : xNT = 93 := rfl; omega) k0 rfl (by first | omega | (simp only [xN_wI, xN_wR, xN_wN]; omega)) (fun _ => rfl) (fun _ => rfl) ?_
  refine px_aload_n dX4_init_12 rfl rfl ?_
  refine px_sipush dX4_init_13 sp_729 ?_
  refine px_newaA (b := a + 2) (N := 729) (kk := 20) (t0 := 0) dX4_init_16 xw147 (fun _ => rfl) (fun _ _ h => h) rfl (by decide) (by decide) (by first | omega | (simp only [xN_wI, xN_wR, xN_wN]; omega)) k2 (by decide) rfl (by decide) (by first | omega | (simp only [xN_wI, xN_wR, xN_wN]; omega)) hT ?_
  refine px_putR0 dX4_init_18 fX4_15 p4_1 (fun _ => ⟨rfl, rfl⟩) h1 (by first | omega | (simp only [xN_wI, xN_wR, xN_wN]; omega)) (by have : xNT = 93 := rfl; omega) k0 rfl (by first | omega | (simp only [xN_wI, xN_wR, xN_wN]; omega)) (fun _ => rfl) (fun _ => rfl) ?_
  refine px_aload_n dX4_init_21 rfl rfl ?_
  refine px_iconst dX4_init_22 ic_0 ?_
  refine px_putI0 dX4_init_23 fX4_18 p4_2 (fun _ => ⟨rfl, rfl⟩) h1 (by first | omega | (simp only [xN_wI, xN_wR, xN_wN]; omega)) (by have : xNT = 93 := rfl; omega) k0 rfl rfl rfl ?_
  refine px_aload_n dX4_init_26 rfl rfl ?_
  refine px_iconst dX4_init_27 ic_0 ?_
  refine px_putI0 dX4_init_28 fX4_22 p4_3 (fun _ => ⟨rfl, rfl⟩) h1 (by first | omega | (simp only [xN_wI, xN_wR, xN_wN]; omega)) (by have : xNT = 93 := rfl; omega) k0 rfl rfl rfl ?_
  refine px_aload_n dX4_init_31 rfl rfl ?_
  refine px_iconst dX4_init_32 ic_0 ?_
  refine px_putI0 dX4_init_33 fX4_25 p4_4 (fun _ => ⟨rfl, rfl⟩) h1 (by first | omega | (simp only [xN_wI, xN_wR, xN_wN]; omega)) (by have : xNT = 93 := rfl; omega) k0 rfl rfl rfl ?_
  exact px_ret dX4_init_36 rfl ⟨rfl, (by repeat (first | exact bel_rf _ _ | (refine bel_wI ?_ (by first | omega | (simp only [xN_wI, xN_wR, xN_wN]; omega))) | (refine bel_wR ?_ (by first | omega | (simp only [xN_wI, xN_wR, xN_wN]; omega))) | (refine bel_wN ?_ (by first | omega | (simp only [xN_wI, xN_wR, xN_wN]; omega))))), by (repeat (first | rfl | omega | rw [if_neg (by omega)] | rw [if_pos (by omega)] | rw [xI_wI] | rw [xR_wI] | rw [xR_wR] | rw [xI_wR] | rw [wN_1 (by first | omega | (simp only [xN_wI, xN_wR, xN_wN]; omega))] | rw [wN_2 (by first | omega | (simp only [xN_wI, xN_wR, xN_wN]; omega))])), by (repeat (first | rfl | omega | rw [if_neg (by omega)] | rw [if_pos (by omega)] | rw [xI_wI] | rw [xR_wI] | rw [xR_wR] | rw [xI_wR] | rw [wN_1 (by first | omega | (simp only [xN_wI, xN_wR, xN_wN]; omega))] | rw [wN_2 (by first | omega | (simp only [xN_wI, xN_wR, xN_wN]; omega))]))⟩ (by first | omega | (simp only [xN_wI, xN_wR, xN_wN]; omega))
