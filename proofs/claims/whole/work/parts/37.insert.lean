/-! ===== the class's room: its list ===== -/
/-- only the list of free rectangles and its length differ -/
def rmF (M M1 : xMem) : Prop := M1.2 = M.2 ∧ (∀ a, a ≠ 25 → a ≠ 27 → M1.1 a = M.1 a) ∧ ∀ k, k ≠ 4 → M1.1 25 k = M.1 25 k
theorem rmF.rf (M : xMem) : rmF M M := ⟨rfl, fun _ _ _ => rfl, fun _ _ => rfl⟩
theorem rmF.tr {M M1 M2 : xMem} (h : rmF M M1) (h' : rmF M1 M2) : rmF M M2 := ⟨h'.1.trans h.1, fun a a1 a2 => (h'.2.1 a a1 a2).trans (h.2.1 a a1 a2), fun k hk => (h'.2.2 k hk).trans (h.2.2 k hk)⟩
def frC (M : xMem) (L : List gR) : Prop := M.1 25 4 = nI L.length ∧ ∀ k r, L[k]? = some r → M.1 27 k = nI (gEnc r)
theorem rmF_put (M : xMem) (g : Nat → Int32) (v : Int32) : rmF M (wI (wF M 27 g) 25 4 v) :=
  ⟨rfl, fun a a1 a2 => by funext k; rw [xI_wI, if_neg (fun z => a1 z.1), xI_wF, if_neg a2], fun k hk => by rw [xI_wI, if_neg (fun z => hk z.2), xI_wF, if_neg (by decide)]⟩
def shf (f : Nat → Int32) (n i k : Nat) : Int32 := if i < k ∧ k ≤ n then f (k - 1) else f k
theorem shf_n (f : Nat → Int32) (n : Nat) : shf f n n = f := by funext k; unfold shf; rw [if_neg (by omega)]
theorem shf_s (f : Nat → Int32) (n i : Nat) (hi : 0 < i) (hn : i ≤ n) : (fun k => if k = i then shf f n i (i - 1) else shf f n i k) = shf f n (i - 1) := by
  funext k
  unfold shf
  by_cases h : k = i
  · subst h; rw [if_pos rfl, if_neg (by omega), if_pos (by omega)]
  · rw [if_neg h]
    by_cases h2 : i < k ∧ k ≤ n
    · rw [if_pos h2, if_pos (by omega)]
    · rw [if_neg h2, if_neg (by omega)]
theorem frC_ins {M : xMem} {L : List gR} {i : Nat} {r : gR} (hC : frC M L) (hi : i ≤ L.length) : frC (wI (wI (wF M 27 (shf (M.1 27) L.length i)) 27 i (nI (gEnc r))) 25 4 (nI (L.length + 1))) (gIns L i r) := by
  refine ⟨by rw [xI_wI, if_pos ⟨rfl, rfl⟩, gIns_len hi], fun k q hk => ?_⟩
  rw [gIns_at hi] at hk
  rw [xI_wI, if_neg (by simp), wI_wF, xI_wF, if_pos rfl]
  by_cases h1 : k < i
  · rw [if_pos h1] at hk
    rw [if_neg (by omega), shf, if_neg (by omega)]
    exact hC.2 k q hk
  · rw [if_neg h1] at hk
    by_cases h2 : k = i
    · rw [if_pos h2] at hk; cases hk
      rw [if_pos h2]
    · rw [if_neg h2] at hk
      have := (List.getElem?_eq_some_iff.mp hk).1
      rw [if_neg h2, shf, if_pos (by omega)]
      exact hC.2 (k - 1) q hk

set_option maxRecDepth 100000 in
theorem l_X4_insert {E : xE} {M : xMem} {L : List gR} {r : gR} (hM : xNT ≤ xN M) (hW : xWire M.2.1) (hC : frC M L) (hs : gSort L) (hne : ∀ q ∈ L, gEnc q ≠ gEnc r) (hlen : L.length < 729) (hb : ∀ q ∈ L, gEnc q < 2 ^ 30) (hr : gEnc r < 2 ^ 30) : ∀ i, i ≤ L.length → (∀ k q, i ≤ k → L[k]? = some q → gEnc r < gEnc q) → PR E mX4_insert (xN M) 16 [some (.ref 25), some (.int (nI (gEnc r))), some (.int (nI i))] [] (wF M 27 (shf (M.1 27) L.length i)) (fun rr m => rr = none ∧ ∃ L2, rmF M m ∧ frC m L2 ∧ gSort L2 ∧ ∀ q, q ∈ L2 ↔ q ∈ L ∨ q = r) := by
  refine px_down (P := fun i => i ≤ L.length → (∀ k q, i ≤ k → L[k]? = some q → gEnc r < gEnc q) → PR E mX4_insert (xN M) 16 [some (.ref 25), some (.int (nI (gEnc r))), some (.int (nI i))] [] (wF M 27 (shf (M.1 27) L.length i)) (fun rr m => rr = none ∧ ∃ L2, rmF M m ∧ frC m L2 ∧ gSort L2 ∧ ∀ q, q ∈ L2 ↔ q ∈ L ∨ q = r)) (fun i nx => ?_)
  intro hil hgt
  refine px_iload_n dX4_insert_16 rfl rfl ?_
  refine px_if_le 52 dX4_insert_17 rfl (fun h17 => ?_) (fun h17 => ?_)
  · first
      | (have hz : i = 0 := by
           have h17 : nI i ≤ nI 0 := h17
           rw [nI_leI (by omega) (by omega)] at h17; omega
         have hlo : ∀ k q, k < i → L[k]? = some q → gEnc q < gEnc r := fun k q a1 => absurd a1 (by omega)
         refine px_aload_n dX4_insert_52 rfl rfl ?_
         refine px_getR dX4_insert_53 fX4_15 (xol rfl) hM rfl (wr_4_1 hW (xol rfl)) (Nat.succ_pos _) ?_
         refine px_iload_n dX4_insert_56 rfl rfl ?_
         refine px_iload_n dX4_insert_57 rfl rfl ?_
         refine px_iast dX4_insert_58 (xal (n := 729) rfl) hM (vp_in_nI (by omega) (by decide)) ?_
         refine px_aload_n dX4_insert_59 rfl rfl ?_
         refine px_dupa dX4_insert_60 ?_
         refine px_getI dX4_insert_61 fX4_25 (xol rfl) hM rfl ?_
         refine px_top (y := nI L.length) hC.1 ?_
         refine px_iconst dX4_insert_64 ic_1 ?_
         refine px_iadd dX4_insert_65 ?_
         refine px_putI dX4_insert_66 fX4_25 p4_4 (xol rfl) hM rfl ?_
         refine px_eq (M' := wI (wI (wF M 27 (shf (M.1 27) L.length i)) 27 i (nI (gEnc r))) 25 4 (nI (L.length + 1))) rfl (by rw [nI_clamp (by omega), nI_1]) ?_
         exact px_ret dX4_insert_69 rfl ⟨rfl, gIns L i r, by rw [wI_wF]; exact rmF_put _ _ _, frC_ins hC hil, gIns_sort hs hlo hgt, fun q => gIns_mem⟩ rfl)
      | (have hlo : ∀ k q, k < i → L[k]? = some q → gEnc q < gEnc r := by
           intro k q a1 a2
           have hle : gEnc q1 < gEnc r := by rw [nI_leI (by omega) (by omega)] at h29; have := hne q1 hqm; omega
           by_cases e : k = i - 1
           · rw [e, hq1] at a2; cases a2; exact hle
           · have := List.pairwise_iff_getElem.mp hs k (i - 1) (by omega) (by omega) (by omega)
             have e1 : L[k] = q := Option.some.inj ((List.getElem?_eq_getElem (by omega)).symm.trans a2)
             have e2 : L[i - 1] = q1 := Option.some.inj ((List.getElem?_eq_getElem (by omega)).symm.trans hq1)
             rw [e1, e2] at this; omega
         refine px_aload_n dX4_insert_52 rfl rfl ?_
         refine px_getR dX4_insert_53 fX4_15 (xol rfl) hM rfl (wr_4_1 hW (xol rfl)) (Nat.succ_pos _) ?_
         refine px_iload_n dX4_insert_56 rfl rfl ?_
         refine px_iload_n dX4_insert_57 rfl rfl ?_
         refine px_iast dX4_insert_58 (xal (n := 729) rfl) hM (vp_in_nI (by omega) (by decide)) ?_
         refine px_aload_n dX4_insert_59 rfl rfl ?_
         refine px_dupa dX4_insert_60 ?_
         refine px_getI dX4_insert_61 fX4_25 (xol rfl) hM rfl ?_
         refine px_top (y := nI L.length) hC.1 ?_
         refine px_iconst dX4_insert_64 ic_1 ?_
         refine px_iadd dX4_insert_65 ?_
         refine px_putI dX4_insert_66 fX4_25 p4_4 (xol rfl) hM rfl ?_
         refine px_eq (M' := wI (wI (wF M 27 (shf (M.1 27) L.length i)) 27 i (nI (gEnc r))) 25 4 (nI (L.length + 1))) rfl (by rw [nI_clamp (by omega), nI_1]) ?_
         exact px_ret dX4_insert_69 rfl ⟨rfl, gIns L i r, by rw [wI_wF]; exact rmF_put _ _ _, frC_ins hC hil, gIns_sort hs hlo hgt, fun q => gIns_mem⟩ rfl)
  · have hi0 : 0 < i := by
      apply Classical.byContradiction; intro z
      have : i = 0 := by omega
      subst this; exact h17 (by decide)
    obtain ⟨q1, hq1⟩ : ∃ q, L[i - 1]? = some q := ⟨L[i - 1], List.getElem?_eq_getElem (by omega)⟩
    have hqm := List.mem_of_getElem? hq1
    have hqb := hb q1 hqm
    have hv : (wF M 27 (shf (M.1 27) L.length i)).1 27 (i - 1) = nI (gEnc q1) := by
      rw [xI_wF, if_pos rfl, shf, if_neg (by omega)]; exact hC.2 _ _ hq1
    refine px_aload_n dX4_insert_20 rfl rfl ?_
    refine px_getR dX4_insert_21 fX4_15 (xol rfl) hM rfl (wr_4_1 hW (xol rfl)) (Nat.succ_pos _) ?_
    refine px_iload_n dX4_insert_24 rfl rfl ?_
    refine px_iconst dX4_insert_25 ic_1 ?_
    refine px_isub dX4_insert_26 ?_
    refine px_top (nI_m1 hi0) ?_
    refine px_iald dX4_insert_27 (xal (n := 729) rfl) hM (vp_in_nI (by omega) (by decide)) ?_
    refine px_top (y := nI (gEnc q1)) (by rw [nI_clamp (by omega)]; exact hv) ?_
    refine px_iload_n dX4_insert_28 rfl rfl ?_
    refine px_icmp_le 52 dX4_insert_29 rfl (fun h29 => ?_) (fun h29 => ?_)
    · first
        | (have hz : i = 0 := by
             have h17 : nI i ≤ nI 0 := h17
             rw [nI_leI (by omega) (by omega)] at h17; omega
           have hlo : ∀ k q, k < i → L[k]? = some q → gEnc q < gEnc r := fun k q a1 => absurd a1 (by omega)
           refine px_aload_n dX4_insert_52 rfl rfl ?_
           refine px_getR dX4_insert_53 fX4_15 (xol rfl) hM rfl (wr_4_1 hW (xol rfl)) (Nat.succ_pos _) ?_
           refine px_iload_n dX4_insert_56 rfl rfl ?_
           refine px_iload_n dX4_insert_57 rfl rfl ?_
           refine px_iast dX4_insert_58 (xal (n := 729) rfl) hM (vp_in_nI (by omega) (by decide)) ?_
           refine px_aload_n dX4_insert_59 rfl rfl ?_
           refine px_dupa dX4_insert_60 ?_
           refine px_getI dX4_insert_61 fX4_25 (xol rfl) hM rfl ?_
           refine px_top (y := nI L.length) hC.1 ?_
           refine px_iconst dX4_insert_64 ic_1 ?_
           refine px_iadd dX4_insert_65 ?_
           refine px_putI dX4_insert_66 fX4_25 p4_4 (xol rfl) hM rfl ?_
           refine px_eq (M' := wI (wI (wF M 27 (shf (M.1 27) L.length i)) 27 i (nI (gEnc r))) 25 4 (nI (L.length + 1))) rfl (by rw [nI_clamp (by omega), nI_1]) ?_
           exact px_ret dX4_insert_69 rfl ⟨rfl, gIns L i r, by rw [wI_wF]; exact rmF_put _ _ _, frC_ins hC hil, gIns_sort hs hlo hgt, fun q => gIns_mem⟩ rfl)
        | (have hlo : ∀ k q, k < i → L[k]? = some q → gEnc q < gEnc r := by
             intro k q a1 a2
             have hle : gEnc q1 < gEnc r := by rw [nI_leI (by omega) (by omega)] at h29; have := hne q1 hqm; omega
             by_cases e : k = i - 1
             · rw [e, hq1] at a2; cases a2; exact hle
             · have := List.pairwise_iff_getElem.mp hs k (i - 1) (by omega) (by omega) (by omega)
               have e1 : L[k] = q := Option.some.inj ((List.getElem?_eq_getElem (by omega)).symm.trans a2)
               have e2 : L[i - 1] = q1 := Option.some.inj ((List.getElem?_eq_getElem (by omega)).symm.trans hq1)
               rw [e1, e2] at this; omega
           refine px_aload_n dX4_insert_52 rfl rfl ?_
           refine px_getR dX4_insert_53 fX4_15 (xol rfl) hM rfl (wr_4_1 hW (xol rfl)) (Nat.succ_pos _) ?_
           refine px_iload_n dX4_insert_56 rfl rfl ?_
           refine px_iload_n dX4_insert_57 rfl rfl ?_
           refine px_iast dX4_insert_58 (xal (n := 729) rfl) hM (vp_in_nI (by omega) (by decide)) ?_
           refine px_aload_n dX4_insert_59 rfl rfl ?_
           refine px_dupa dX4_insert_60 ?_
           refine px_getI dX4_insert_61 fX4_25 (xol rfl) hM rfl ?_
           refine px_top (y := nI L.length) hC.1 ?_
           refine px_iconst dX4_insert_64 ic_1 ?_
           refine px_iadd dX4_insert_65 ?_
           refine px_putI dX4_insert_66 fX4_25 p4_4 (xol rfl) hM rfl ?_
           refine px_eq (M' := wI (wI (wF M 27 (shf (M.1 27) L.length i)) 27 i (nI (gEnc r))) 25 4 (nI (L.length + 1))) rfl (by rw [nI_clamp (by omega), nI_1]) ?_
           exact px_ret dX4_insert_69 rfl ⟨rfl, gIns L i r, by rw [wI_wF]; exact rmF_put _ _ _, frC_ins hC hil, gIns_sort hs hlo hgt, fun q => gIns_mem⟩ rfl)
    · refine px_aload_n dX4_insert_32 rfl rfl ?_
      refine px_getR dX4_insert_33 fX4_15 (xol rfl) hM rfl (wr_4_1 hW (xol rfl)) (Nat.succ_pos _) ?_
      refine px_iload_n dX4_insert_36 rfl rfl ?_
      refine px_aload_n dX4_insert_37 rfl rfl ?_
      refine px_getR dX4_insert_38 fX4_15 (xol rfl) hM rfl (wr_4_1 hW (xol rfl)) (Nat.succ_pos _) ?_
      refine px_iload_n dX4_insert_41 rfl rfl ?_
      refine px_iconst dX4_insert_42 ic_1 ?_
      refine px_isub dX4_insert_43 ?_
      refine px_top (nI_m1 hi0) ?_
      refine px_iald dX4_insert_44 (xal (n := 729) rfl) hM (vp_in_nI (by omega) (by decide)) ?_
      refine px_top (y := shf (M.1 27) L.length i (i - 1)) (by rw [nI_clamp (by omega), xI_wF, if_pos rfl]) ?_
      refine px_iast dX4_insert_45 (xal (n := 729) rfl) hM (vp_in_nI (by omega) (by decide)) ?_
      refine px_inc_2 dX4_insert_46 rfl ic_m1 ?_
      refine px_goto 16 dX4_insert_49 rfl ?_
      have hgt1 : gEnc r < gEnc q1 := by rw [nI_leI (by omega) (by omega)] at h29; omega
      refine px_eq (lo' := [some (.ref 25), some (.int (nI (gEnc r))), some (.int (nI (i - 1)))]) (M' := wF M 27 (shf (M.1 27) L.length (i - 1))) ?_ ?_ (nx hi0 (by omega) (fun k q a1 a2 => ?_))
      · obtain ⟨i2, rfl⟩ : ∃ i2, i = i2 + 1 := ⟨i - 1, by omega⟩
        rw [pk_m1]; rfl
      · rw [nI_clamp (by omega), wI_wF, shf_s _ _ _ hi0 hil]
      · by_cases e : k = i - 1
        · rw [e, hq1] at a2; cases a2; exact hgt1
        · exact hgt k q (by omega) a2

set_option maxRecDepth 100000 in
theorem c_X4_insert {E : xE} {M : xMem} {L : List gR} {r : gR} (hM : xNT ≤ xN M) (hW : xWire M.2.1) (hC : frC M L) (hs : gSort L) (hne : ∀ q ∈ L, gEnc q ≠ gEnc r) (hlen : L.length < 729) (hb : ∀ q ∈ L, gEnc q < 2 ^ 30) (hr : gEnc r < 2 ^ 30) : Ct E mX4_insert [.ref 25, .int (nI (gEnc r))] M (xN M) (fun rr m => rr = none ∧ ∃ L2, rmF M m ∧ frC m L2 ∧ gSort L2 ∧ ∀ q, q ∈ L2 ↔ q ∈ L ∨ q = r) := by
  refine Ct.of (lo := [some (.ref 25), some (.int (nI (gEnc r))), none]) pln_X4 (Nat.le_of_ble_eq_true rfl) rfl (Nat.le_refl _) ?_
  refine px_aload_n dX4_insert_0 rfl rfl ?_
  refine px_getI dX4_insert_1 fX4_25 (xol rfl) hM rfl ?_
  refine px_top (y := nI L.length) hC.1 ?_
  refine px_sipush dX4_insert_4 sp_729 ?_
  refine px_icmp_lt 11 dX4_insert_7 rfl (fun h7 => ?_) (fun h7 => ?_)
  · refine px_aload_n dX4_insert_11 rfl rfl ?_
    refine px_getI dX4_insert_12 fX4_25 (xol rfl) hM rfl ?_
    refine px_top (y := nI L.length) hC.1 ?_
    refine px_si_2 dX4_insert_15 rfl ?_
    have k := l_X4_insert (E := E) hM hW hC hs hne hlen hb hr L.length (Nat.le_refl _) (fun k q a1 a2 => absurd (List.getElem?_eq_some_iff.mp a2).1 (by omega))
    rw [shf_n, wF_id] at k
    exact k
  · exact absurd (show nI L.length < nI 729 from nI_lt hlen (by decide)) h7
