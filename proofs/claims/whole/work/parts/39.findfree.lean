/-! ===== the class's room: findFree ===== -/
/-- the rows of bits say what is taken -/
def tkC (W H : Nat) (o : Nat → Nat → Prop) (t : Nat → Int32) : Prop := ∀ j, j < H → cols W (t j) (fun i => o i j)
def opS (H : Nat) (o : Nat → Nat → Prop) (top bt_ i : Nat) : Prop := ∀ j, top ≤ j → j ≤ bt_ → ¬ (H ≤ j ∨ o i j)
theorem opS_run {H : Nat} {o : Nat → Nat → Prop} {top k i : Nat} (hk : k < H) : opS H o top k i ↔ runS o top (k - top + 1) i ∨ k < top := by
  unfold opS runS
  constructor
  · intro h
    by_cases z : k < top
    · exact Or.inr z
    · exact Or.inl (fun j j1 j2 j3 => h j j1 (by omega) (Or.inr j3))
  · rintro (h | h) j j1 j2 j3
    · rcases j3 with j3 | j3
      · omega
      · exact h j j1 (by omega) j3
    · omega
theorem b_not {W : Nat} {x y : Int32} {S T : Nat → Prop} (hx : cols W x S) (hy : cols W y T) : cols W (x &&& (y ^^^ (-1))) (fun i => S i ∧ ¬ T i) := cols_andn hx hy

set_option maxRecDepth 100000 in
theorem l_findFree_98 {E : xE} {M : xMem} {W H : Nat} {o : Nat → Nat → Prop} {ne : Nat} {wh : Int32} (hM : xNT ≤ xN M) (hW : xWire M.2.1) (hne : xN M = ne) (ew : M.1 25 2 = nI W) (eh : M.1 25 3 = nI H) (hW16 : W ≤ 16) (hH16 : H ≤ 16) (ht : tkC W H o (M.1 26)) (hwh : cols W wh (fun _ => True)) (hcap : ∀ L : List gR, gSort L → (∀ q ∈ L, gMax W H o q) → L.length ≤ 729) {top k : Nat} {ab op be : Int32} {M1 : xMem} {L : List gR} (hab : cols W ab (fun i => top = 0 ∨ o i (top - 1))) (hkH : k < H) (hk : top ≤ k) (hF : rmF M M1) (hC : frC M1 L) (hS : gSort L) (hm : ∀ q, q ∈ L ↔ gMax W H o q ∧ (q.2.1 < top ∨ (q.2.1 = top ∧ q.2.2.2 ≤ k - top))) (hop : cols W op (opS H o top k)) (hbe : cols W be (fun i => k + 1 = H ∨ o i (k + 1))) (nb : ∀ (M1 : xMem) (L : List gR) (op : Int32), rmF M M1 → frC M1 L → gSort L → (∀ q, q ∈ L ↔ gMax W H o q ∧ (q.2.1 < top ∨ (q.2.1 = top ∧ q.2.2.2 ≤ k + 1 - top))) → cols W op (opS H o top (k + 1)) → PR E mX4_findFree ne 56 [some (.ref 25), some (.int wh), some (.int (nI top)), some (.int ab), some (.int op), some (.int (nI (k + 1))), none] [] M1 (fun rr m => rr = none ∧ ∃ L2, rmF M m ∧ frC m L2 ∧ gIs W H o L2)) : PR E mX4_findFree ne 98 [some (.ref 25), some (.int wh), some (.int (nI top)), some (.int ab), some (.int op), some (.int (nI k)), some (.int be)] [] M1 (fun rr m => rr = none ∧ ∃ L2, rmF M m ∧ frC m L2 ∧ gIs W H o L2) := by
  have f2 : M1.2 = M.2 := hF.1
  have hM1 : xNT ≤ xN M1 := by show xNT ≤ M1.2.2.2; rw [f2]; exact hM
  have hW1 : xWire M1.2.1 := by rw [f2]; exact hW
  have ew1 : M1.1 25 2 = nI W := (hF.2.2 2 (by decide)).trans ew
  have eh1 : M1.1 25 3 = nI H := (hF.2.2 3 (by decide)).trans eh
  have et1 : M1.1 26 = M.1 26 := hF.2.1 26 (by decide) (by decide)
  refine px_iload dX4_findFree_98 rfl ?_
  refine px_iload dX4_findFree_100 rfl ?_
  refine px_iand dX4_findFree_102 ?_
  refine px_if_eq 122 dX4_findFree_103 rfl (fun h103 => ?_) (fun h103 => ?_)
  · refine px_iload dX4_findFree_122 rfl ?_
    refine px_iload dX4_findFree_124 rfl ?_
    refine px_iconst dX4_findFree_126 ic_m1 ?_
    refine px_ixor dX4_findFree_127 ?_
    refine px_iand dX4_findFree_128 ?_
    refine px_si_4 dX4_findFree_129 rfl ?_
    refine px_inc_5 dX4_findFree_131 rfl ic_1 ?_
    refine px_goto 56 dX4_findFree_134 rfl ?_
    rw [nI_1 k]
    have hop2 : cols W (op &&& (be ^^^ (-1))) (opS H o top (k + 1)) := cols_c (cols_andn hop hbe) (fun i hi => by
      constructor
      · rintro ⟨z1, z2⟩ j j1 j2 j3
        by_cases e : j = k + 1
        · subst e; exact z2 (j3.elim (fun t => Or.inl (by omega)) Or.inr)
        · exact z1 j j1 (by omega) j3
      · intro z
        exact ⟨fun j j1 j2 => z j j1 (by omega), fun t => z (k + 1) (by omega) (Nat.le_refl _) (t.elim (fun e => Or.inl (by omega)) Or.inr)⟩)
    first
      | (refine px_forget (by repeat' constructor) (nb M119 L2 _ (hF.tr q1) q2 q3 (fun q => ?_) hop2)
         rw [q4 q, hm q]
         constructor
         · rintro (z | z)
           · exact ⟨z.1, by omega⟩
           · exact ⟨z.1, by omega⟩
         · rintro ⟨z1, z2⟩
           by_cases e : q.2.1 = top ∧ q.2.2.2 = k - top + 1
           · exact Or.inr ⟨z1, e.1, e.2⟩
           · exact Or.inl ⟨z1, by omega⟩)
      | (refine px_forget (by repeat' constructor) (nb M1 L _ hF hC hS (fun q => ?_) hop2)
         rw [hm q]
         constructor
         · rintro ⟨z1, z2⟩
           exact ⟨z1, by omega⟩
         · rintro ⟨z1, z2⟩
           refine ⟨z1, ?_⟩
           by_cases e : q.2.1 = top ∧ q.2.2.2 = k - top + 1
           · exfalso
             obtain ⟨g1, -, -⟩ := gMax_run z1
             have hqb := gMax_b hW16 hH16 z1
             obtain ⟨-, -, -, -, -, -, t2⟩ := id z1
             refine (cols_and hW16 hop hbe).mpr ?_ h103
             rw [e.1, e.2] at t2 g1
             rcases t2 with t | ⟨i, i1, i2, i3⟩
             · exact ⟨q.1, by omega, (opS_run hkH).mpr (Or.inl (g1 q.1 (Nat.le_refl _) (by omega))), Or.inl (by omega)⟩
             · exact ⟨i, by omega, (opS_run hkH).mpr (Or.inl (g1 i i1 i2)), Or.inr (by rw [show top + (k - top + 1) = k + 1 by omega] at i3; exact i3)⟩
           · omega)
  · have hbo := (cols_and hW16 hop hbe).mp h103
    refine px_aload_n dX4_findFree_106 rfl rfl ?_
    refine px_iload dX4_findFree_107 rfl ?_
    refine px_iload_n dX4_findFree_109 rfl rfl ?_
    refine px_iload dX4_findFree_110 rfl ?_
    refine px_iload_n dX4_findFree_112 rfl rfl ?_
    refine px_iload dX4_findFree_113 rfl ?_
    refine px_iload_n dX4_findFree_115 rfl rfl ?_
    refine px_isub dX4_findFree_116 ?_
    refine px_iconst dX4_findFree_117 ic_1 ?_
    refine px_iadd dX4_findFree_118 ?_
    refine px_top (y := nI (k - top + 1)) (by rw [pk_sub hk, nI_1]) ?_
    refine px_gV5 dX4_findFree_119 kX4_findFree_81 (xol rfl) hM1 (Nat.le_of_ble_eq_true rfl) (c_X4_addRuns (W := W) (H := H) (o := o) (L0 := L) hM1 hW1 ew1 hW16 hH16 (cols_c hop (fun i hi => (opS_run hkH).trans ⟨fun z => z.elim id (fun t => by omega), Or.inl⟩)) hab (cols_c hbe (fun i hi => by rw [show top + (k - top + 1) = k + 1 by omega])) (by omega) (by omega) hcap (fun q hq => ⟨((hm q).mp hq).1, fun z => by have := ((hm q).mp hq).2; omega⟩) hC hS) (fun r119 M119 hq119 hn119 => ?_)
    obtain ⟨rfl, L2, q1, q2, q3, q4⟩ := hq119
    have hM119 : xNT ≤ xN M119 := by rw [hn119]; exact hM1
    refine px_iload dX4_findFree_122 rfl ?_
    refine px_iload dX4_findFree_124 rfl ?_
    refine px_iconst dX4_findFree_126 ic_m1 ?_
    refine px_ixor dX4_findFree_127 ?_
    refine px_iand dX4_findFree_128 ?_
    refine px_si_4 dX4_findFree_129 rfl ?_
    refine px_inc_5 dX4_findFree_131 rfl ic_1 ?_
    refine px_goto 56 dX4_findFree_134 rfl ?_
    rw [nI_1 k]
    have hop2 : cols W (op &&& (be ^^^ (-1))) (opS H o top (k + 1)) := cols_c (cols_andn hop hbe) (fun i hi => by
      constructor
      · rintro ⟨z1, z2⟩ j j1 j2 j3
        by_cases e : j = k + 1
        · subst e; exact z2 (j3.elim (fun t => Or.inl (by omega)) Or.inr)
        · exact z1 j j1 (by omega) j3
      · intro z
        exact ⟨fun j j1 j2 => z j j1 (by omega), fun t => z (k + 1) (by omega) (Nat.le_refl _) (t.elim (fun e => Or.inl (by omega)) Or.inr)⟩)
    first
      | (refine px_forget (by repeat' constructor) (nb M119 L2 _ (hF.tr q1) q2 q3 (fun q => ?_) hop2)
         rw [q4 q, hm q]
         constructor
         · rintro (z | z)
           · exact ⟨z.1, by omega⟩
           · exact ⟨z.1, by omega⟩
         · rintro ⟨z1, z2⟩
           by_cases e : q.2.1 = top ∧ q.2.2.2 = k - top + 1
           · exact Or.inr ⟨z1, e.1, e.2⟩
           · exact Or.inl ⟨z1, by omega⟩)
      | (refine px_forget (by repeat' constructor) (nb M1 L _ hF hC hS (fun q => ?_) hop2)
         rw [hm q]
         constructor
         · rintro ⟨z1, z2⟩
           exact ⟨z1, by omega⟩
         · rintro ⟨z1, z2⟩
           refine ⟨z1, ?_⟩
           by_cases e : q.2.1 = top ∧ q.2.2.2 = k - top + 1
           · exfalso
             obtain ⟨g1, -, -⟩ := gMax_run z1
             have hqb := gMax_b hW16 hH16 z1
             obtain ⟨-, -, -, -, -, -, t2⟩ := id z1
             refine (cols_and hW16 hop hbe).mpr ?_ h103
             rw [e.1, e.2] at t2 g1
             rcases t2 with t | ⟨i, i1, i2, i3⟩
             · exact ⟨q.1, by omega, (opS_run hkH).mpr (Or.inl (g1 q.1 (Nat.le_refl _) (by omega))), Or.inl (by omega)⟩
             · exact ⟨i, by omega, (opS_run hkH).mpr (Or.inl (g1 i i1 i2)), Or.inr (by rw [show top + (k - top + 1) = k + 1 by omega] at i3; exact i3)⟩
           · omega)

set_option maxRecDepth 100000 in
theorem l_findFree_56 {E : xE} {M : xMem} {W H : Nat} {o : Nat → Nat → Prop} {ne : Nat} {wh : Int32} (hM : xNT ≤ xN M) (hW : xWire M.2.1) (hne : xN M = ne) (ew : M.1 25 2 = nI W) (eh : M.1 25 3 = nI H) (hW16 : W ≤ 16) (hH16 : H ≤ 16) (ht : tkC W H o (M.1 26)) (hwh : cols W wh (fun _ => True)) (hcap : ∀ L : List gR, gSort L → (∀ q ∈ L, gMax W H o q) → L.length ≤ 729) {top : Nat} {ab : Int32} (htop : top < H) (hab : cols W ab (fun i => top = 0 ∨ o i (top - 1))) (kt : ∀ (M2 : xMem) (L2 : List gR), rmF M M2 → frC M2 L2 → gSort L2 → (∀ q, q ∈ L2 ↔ gMax W H o q ∧ q.2.1 < top + 1) → PR E mX4_findFree ne 16 [some (.ref 25), some (.int wh), some (.int (nI (top + 1))), none, none, none, none] [] M2 (fun rr m => rr = none ∧ ∃ L2, rmF M m ∧ frC m L2 ∧ gIs W H o L2)) (k : Nat) (hkm : k ≤ H) : ∀ (M1 : xMem) (L : List gR) (op : Int32), rmF M M1 → frC M1 L → gSort L → (∀ q, q ∈ L ↔ gMax W H o q ∧ (q.2.1 < top ∨ (q.2.1 = top ∧ q.2.2.2 ≤ k - top))) → cols W op (opS H o top k) → top ≤ k → PR E mX4_findFree ne 56 [some (.ref 25), some (.int wh), some (.int (nI top)), some (.int ab), some (.int op), some (.int (nI k)), none] [] M1 (fun rr m => rr = none ∧ ∃ L2, rmF M m ∧ frC m L2 ∧ gIs W H o L2) := by
  refine px_for (P := fun k => ∀ (M1 : xMem) (L : List gR) (op : Int32), rmF M M1 → frC M1 L → gSort L → (∀ q, q ∈ L ↔ gMax W H o q ∧ (q.2.1 < top ∨ (q.2.1 = top ∧ q.2.2.2 ≤ k - top))) → cols W op (opS H o top k) → top ≤ k → PR E mX4_findFree ne 56 [some (.ref 25), some (.int wh), some (.int (nI top)), some (.int ab), some (.int op), some (.int (nI k)), none] [] M1 (fun rr m => rr = none ∧ ∃ L2, rmF M m ∧ frC m L2 ∧ gIs W H o L2)) H (fun k hkm nk => ?_) k hkm
  intro M1 L op hF hC hS hm hop htk
  have f2 : M1.2 = M.2 := hF.1
  have hM1 : xNT ≤ xN M1 := by show xNT ≤ M1.2.2.2; rw [f2]; exact hM
  have hW1 : xWire M1.2.1 := by rw [f2]; exact hW
  have ew1 : M1.1 25 2 = nI W := (hF.2.2 2 (by decide)).trans ew
  have eh1 : M1.1 25 3 = nI H := (hF.2.2 3 (by decide)).trans eh
  have et1 : M1.1 26 = M.1 26 := hF.2.1 26 (by decide) (by decide)
  refine px_iload dX4_findFree_56 rfl ?_
  refine px_aload_n dX4_findFree_58 rfl rfl ?_
  refine px_getI dX4_findFree_59 fX4_22 (xol rfl) hM1 rfl ?_
  refine px_top eh1 ?_
  refine px_icmp_ge 137 dX4_findFree_62 rfl (fun h62 => ?_) (fun h62 => ?_)
  · have hall : ∀ q, gMax W H o q → q.2.1 = top → q.2.2.2 ≤ k - top := by
      intro q hq e
      have hqb := gMax_b hW16 hH16 hq
      first
        | (have : H ≤ k := by rw [nI_leI (by omega) (by omega)] at h62; omega
           omega)
        | (apply Classical.byContradiction
           intro z
           obtain ⟨g1, -, -⟩ := gMax_run hq
           obtain ⟨-, -, -, -, t1, -, -⟩ := id hq
           rw [e] at t1 g1
           refine (cols_and hW16 hop hab).mpr ?_ h69
           have hS2 : ∀ i, q.1 ≤ i → i < q.1 + q.2.2.1 → opS H o top k i := fun i i1 i2 => (opS_run hkH).mpr (Or.inl (fun j j1 j2 => g1 i i1 i2 j j1 (by omega)))
           rcases t1 with t | ⟨i, i1, i2, i3⟩
           · exact ⟨q.1, by omega, hS2 q.1 (Nat.le_refl _) (by omega), Or.inl t⟩
           · exact ⟨i, by omega, hS2 i i1 i2, Or.inr i3⟩)
    refine px_inc_2 dX4_findFree_137 rfl ic_1 ?_
    refine px_goto 16 dX4_findFree_140 rfl ?_
    rw [nI_1 top]
    refine px_forget (by repeat' constructor) (kt M1 L hF hC hS (fun q => ?_))
    rw [hm q]
    constructor
    · rintro ⟨z1, z2⟩; exact ⟨z1, by omega⟩
    · rintro ⟨z1, z2⟩
      refine ⟨z1, ?_⟩
      by_cases e : q.2.1 = top
      · exact Or.inr ⟨e, hall q z1 e⟩
      · omega
  · have hkH : k < H := by rw [nI_leI (by omega) (by omega)] at h62; omega
    refine px_iload dX4_findFree_65 rfl ?_
    refine px_iload_n dX4_findFree_67 rfl rfl ?_
    refine px_iand dX4_findFree_68 ?_
    refine px_if_eq 137 dX4_findFree_69 rfl (fun h69 => ?_) (fun h69 => ?_)
    · have hall : ∀ q, gMax W H o q → q.2.1 = top → q.2.2.2 ≤ k - top := by
        intro q hq e
        have hqb := gMax_b hW16 hH16 hq
        first
          | (have : H ≤ k := by rw [nI_leI (by omega) (by omega)] at h62; omega
             omega)
          | (apply Classical.byContradiction
             intro z
             obtain ⟨g1, -, -⟩ := gMax_run hq
             obtain ⟨-, -, -, -, t1, -, -⟩ := id hq
             rw [e] at t1 g1
             refine (cols_and hW16 hop hab).mpr ?_ h69
             have hS2 : ∀ i, q.1 ≤ i → i < q.1 + q.2.2.1 → opS H o top k i := fun i i1 i2 => (opS_run hkH).mpr (Or.inl (fun j j1 j2 => g1 i i1 i2 j j1 (by omega)))
             rcases t1 with t | ⟨i, i1, i2, i3⟩
             · exact ⟨q.1, by omega, hS2 q.1 (Nat.le_refl _) (by omega), Or.inl t⟩
             · exact ⟨i, by omega, hS2 i i1 i2, Or.inr i3⟩)
      refine px_inc_2 dX4_findFree_137 rfl ic_1 ?_
      refine px_goto 16 dX4_findFree_140 rfl ?_
      rw [nI_1 top]
      refine px_forget (by repeat' constructor) (kt M1 L hF hC hS (fun q => ?_))
      rw [hm q]
      constructor
      · rintro ⟨z1, z2⟩; exact ⟨z1, by omega⟩
      · rintro ⟨z1, z2⟩
        refine ⟨z1, ?_⟩
        by_cases e : q.2.1 = top
        · exact Or.inr ⟨e, hall q z1 e⟩
        · omega
    · refine px_iload dX4_findFree_72 rfl ?_
      refine px_aload_n dX4_findFree_74 rfl rfl ?_
      refine px_getI dX4_findFree_75 fX4_22 (xol rfl) hM1 rfl ?_
      refine px_top eh1 ?_
      refine px_iconst dX4_findFree_78 ic_1 ?_
      refine px_isub dX4_findFree_79 ?_
      refine px_top (y := nI (H - 1)) (nI_m1 (by omega)) ?_
      refine px_icmp_ne 87 dX4_findFree_80 rfl (fun h80 => ?_) (fun h80 => ?_)
      · refine px_aload_n dX4_findFree_87 rfl rfl ?_
        refine px_getR dX4_findFree_88 fX4_9 (xol rfl) hM1 rfl (wr_4_0 hW1 (xol rfl)) (Nat.succ_pos _) ?_
        refine px_iload dX4_findFree_91 rfl ?_
        refine px_iconst dX4_findFree_93 ic_1 ?_
        refine px_iadd dX4_findFree_94 ?_
        have hkH2 : k + 1 < H := by
          rw [nI_eq (by omega) (by omega)] at h80; omega
        refine px_top (nI_1 k) ?_
        refine px_iald dX4_findFree_95 (xal (n := 16) rfl) hM1 (vp_in_nI (by omega) (by decide)) ?_
        skip
        refine px_si_6 dX4_findFree_96 rfl ?_
        first
          | exact px_forget (by repeat' constructor) (l_findFree_98 hM hW hne ew eh hW16 hH16 ht hwh hcap hab hkH htk hF hC hS hm hop (cols_c hwh (fun i hi => ⟨fun _ => Or.inl (by rw [nI_eq (by omega) (by omega)] at h80; omega), fun _ => trivial⟩)) (fun M2 L2 op2 a1 a2 a3 a4 a5 => nk hkH M2 L2 op2 a1 a2 a3 a4 a5 (by omega)))
          | exact px_forget (by repeat' constructor) (l_findFree_98 hM hW hne ew eh hW16 hH16 ht hwh hcap hab hkH htk hF hC hS hm hop (by rw [nI_clamp (by omega), et1]; exact cols_c (ht (k + 1) hkH2) (fun i hi => ⟨Or.inr, fun z => z.elim (fun t => by omega) id⟩)) (fun M2 L2 op2 a1 a2 a3 a4 a5 => nk hkH M2 L2 op2 a1 a2 a3 a4 a5 (by omega)))
      · refine px_iload_n dX4_findFree_83 rfl rfl ?_
        refine px_goto 96 dX4_findFree_84 rfl ?_
        skip
        refine px_si_6 dX4_findFree_96 rfl ?_
        first
          | exact px_forget (by repeat' constructor) (l_findFree_98 hM hW hne ew eh hW16 hH16 ht hwh hcap hab hkH htk hF hC hS hm hop (cols_c hwh (fun i hi => ⟨fun _ => Or.inl (by rw [nI_eq (by omega) (by omega)] at h80; omega), fun _ => trivial⟩)) (fun M2 L2 op2 a1 a2 a3 a4 a5 => nk hkH M2 L2 op2 a1 a2 a3 a4 a5 (by omega)))
          | exact px_forget (by repeat' constructor) (l_findFree_98 hM hW hne ew eh hW16 hH16 ht hwh hcap hab hkH htk hF hC hS hm hop (by rw [nI_clamp (by omega), et1]; exact cols_c (ht (k + 1) hkH2) (fun i hi => ⟨Or.inr, fun z => z.elim (fun t => by omega) id⟩)) (fun M2 L2 op2 a1 a2 a3 a4 a5 => nk hkH M2 L2 op2 a1 a2 a3 a4 a5 (by omega)))

set_option maxRecDepth 100000 in
theorem l_findFree_16 {E : xE} {M : xMem} {W H : Nat} {o : Nat → Nat → Prop} {ne : Nat} {wh : Int32} (hM : xNT ≤ xN M) (hW : xWire M.2.1) (hne : xN M = ne) (ew : M.1 25 2 = nI W) (eh : M.1 25 3 = nI H) (hW16 : W ≤ 16) (hH16 : H ≤ 16) (ht : tkC W H o (M.1 26)) (hwh : cols W wh (fun _ => True)) (hcap : ∀ L : List gR, gSort L → (∀ q ∈ L, gMax W H o q) → L.length ≤ 729) : ∀ (M1 : xMem) (L : List gR), rmF M M1 → frC M1 L → gSort L → (∀ q, q ∈ L ↔ gMax W H o q ∧ q.2.1 < 0) → PR E mX4_findFree ne 16 [some (.ref 25), some (.int wh), some (.int (nI 0)), none, none, none, none] [] M1 (fun rr m => rr = none ∧ ∃ L2, rmF M m ∧ frC m L2 ∧ gIs W H o L2) := by
  refine px_for (P := fun top => ∀ (M1 : xMem) (L : List gR), rmF M M1 → frC M1 L → gSort L → (∀ q, q ∈ L ↔ gMax W H o q ∧ q.2.1 < top) → PR E mX4_findFree ne 16 [some (.ref 25), some (.int wh), some (.int (nI top)), none, none, none, none] [] M1 (fun rr m => rr = none ∧ ∃ L2, rmF M m ∧ frC m L2 ∧ gIs W H o L2)) H (fun top htm nt => ?_) 0 (Nat.zero_le _)
  intro M1 L hF hC hS hm
  have f2 : M1.2 = M.2 := hF.1
  have hM1 : xNT ≤ xN M1 := by show xNT ≤ M1.2.2.2; rw [f2]; exact hM
  have hW1 : xWire M1.2.1 := by rw [f2]; exact hW
  have ew1 : M1.1 25 2 = nI W := (hF.2.2 2 (by decide)).trans ew
  have eh1 : M1.1 25 3 = nI H := (hF.2.2 3 (by decide)).trans eh
  have et1 : M1.1 26 = M.1 26 := hF.2.1 26 (by decide) (by decide)
  refine px_iload_n dX4_findFree_16 rfl rfl ?_
  refine px_aload_n dX4_findFree_17 rfl rfl ?_
  refine px_getI dX4_findFree_18 fX4_22 (xol rfl) hM1 rfl ?_
  refine px_top eh1 ?_
  refine px_icmp_ge 143 dX4_findFree_21 rfl (fun h21 => ?_) (fun h21 => ?_)
  · have htop : top = H := by rw [nI_leI (by omega) (by omega)] at h21; omega
    exact px_ret dX4_findFree_143 rfl ⟨rfl, L, hF, hC, hS, fun q => (hm q).trans ⟨fun z => z.1, fun z => ⟨z, by have := gMax_b hW16 hH16 z; omega⟩⟩⟩ (by show M1.2.2.2 = ne; rw [f2]; exact hne)
  · have htop : top < H := by rw [nI_leI (by omega) (by omega)] at h21; omega
    refine px_iload_n dX4_findFree_24 rfl rfl ?_
    refine px_if_ne 32 dX4_findFree_25 rfl (fun h25 => ?_) (fun h25 => ?_)
    · have ht0 : 0 < top := by
        apply Classical.byContradiction; intro z
        have : top = 0 := by omega
        subst this; exact h25 rfl
      refine px_aload_n dX4_findFree_32 rfl rfl ?_
      refine px_getR dX4_findFree_33 fX4_9 (xol rfl) hM1 rfl (wr_4_0 hW1 (xol rfl)) (Nat.succ_pos _) ?_
      refine px_iload_n dX4_findFree_36 rfl rfl ?_
      refine px_iconst dX4_findFree_37 ic_1 ?_
      refine px_isub dX4_findFree_38 ?_
      refine px_top (nI_m1 ht0) ?_
      refine px_iald dX4_findFree_39 (xal (n := 16) rfl) hM1 (vp_in_nI (by omega) (by decide)) ?_
      refine px_si_3 dX4_findFree_40 rfl ?_
      refine px_iload_n dX4_findFree_41 rfl rfl ?_
      refine px_aload_n dX4_findFree_42 rfl rfl ?_
      refine px_getR dX4_findFree_43 fX4_9 (xol rfl) hM1 rfl (wr_4_0 hW1 (xol rfl)) (Nat.succ_pos _) ?_
      refine px_iload_n dX4_findFree_46 rfl rfl ?_
      refine px_iald dX4_findFree_47 (xal (n := 16) rfl) hM1 (vp_in_nI (by omega) (by decide)) ?_
      refine px_iconst dX4_findFree_48 ic_m1 ?_
      refine px_ixor dX4_findFree_49 ?_
      refine px_iand dX4_findFree_50 ?_
      refine px_si_4 dX4_findFree_51 rfl ?_
      refine px_iload_n dX4_findFree_53 rfl rfl ?_
      refine px_si_5 dX4_findFree_54 rfl ?_
      have hop0 : cols W (wh &&& (M1.1 26 (nI top).toNatClampNeg ^^^ (-1))) (opS H o top top) := by
        rw [nI_clamp (by omega), et1]
        refine cols_c (cols_andn hwh (ht top htop)) (fun i hi => ?_)
        constructor
        · rintro ⟨-, z⟩ j j1 j2 j3
          have : j = top := by omega
          subst this
          exact j3.elim (fun t => by omega) z
        · intro z
          exact ⟨trivial, fun t => z top (Nat.le_refl _) (Nat.le_refl _) (Or.inr t)⟩
      have hm2 : ∀ q, q ∈ L ↔ gMax W H o q ∧ (q.2.1 < top ∨ (q.2.1 = top ∧ q.2.2.2 ≤ top - top)) := fun q => (hm q).trans ⟨fun z => ⟨z.1, Or.inl z.2⟩, fun z => ⟨z.1, by have := gMax_b hW16 hH16 z.1; have := z.2; omega⟩⟩
      first
        | exact px_forget (by repeat' constructor) (l_findFree_56 hM hW hne ew eh hW16 hH16 ht hwh hcap htop (cols_c hwh (fun i hi => ⟨fun _ => Or.inl (by have h25 : nI top = nI 0 := h25; rw [nI_eq (by omega) (by omega)] at h25; exact h25), fun _ => trivial⟩)) (fun M2 L2 a1 a2 a3 a4 => nt htop M2 L2 a1 a2 a3 a4) top (by omega) M1 L _ hF hC hS hm2 hop0 (Nat.le_refl _))
        | exact px_forget (by repeat' constructor) (l_findFree_56 hM hW hne ew eh hW16 hH16 ht hwh hcap htop (by rw [nI_clamp (by omega), et1]; exact cols_c (ht (top - 1) (by omega)) (fun i hi => ⟨Or.inr, fun z => z.elim (fun t => by omega) id⟩)) (fun M2 L2 a1 a2 a3 a4 => nt htop M2 L2 a1 a2 a3 a4) top (by omega) M1 L _ hF hC hS hm2 hop0 (Nat.le_refl _))
    · refine px_iload_n dX4_findFree_28 rfl rfl ?_
      refine px_goto 40 dX4_findFree_29 rfl ?_
      refine px_si_3 dX4_findFree_40 rfl ?_
      refine px_iload_n dX4_findFree_41 rfl rfl ?_
      refine px_aload_n dX4_findFree_42 rfl rfl ?_
      refine px_getR dX4_findFree_43 fX4_9 (xol rfl) hM1 rfl (wr_4_0 hW1 (xol rfl)) (Nat.succ_pos _) ?_
      refine px_iload_n dX4_findFree_46 rfl rfl ?_
      refine px_iald dX4_findFree_47 (xal (n := 16) rfl) hM1 (vp_in_nI (by omega) (by decide)) ?_
      refine px_iconst dX4_findFree_48 ic_m1 ?_
      refine px_ixor dX4_findFree_49 ?_
      refine px_iand dX4_findFree_50 ?_
      refine px_si_4 dX4_findFree_51 rfl ?_
      refine px_iload_n dX4_findFree_53 rfl rfl ?_
      refine px_si_5 dX4_findFree_54 rfl ?_
      have hop0 : cols W (wh &&& (M1.1 26 (nI top).toNatClampNeg ^^^ (-1))) (opS H o top top) := by
        rw [nI_clamp (by omega), et1]
        refine cols_c (cols_andn hwh (ht top htop)) (fun i hi => ?_)
        constructor
        · rintro ⟨-, z⟩ j j1 j2 j3
          have : j = top := by omega
          subst this
          exact j3.elim (fun t => by omega) z
        · intro z
          exact ⟨trivial, fun t => z top (Nat.le_refl _) (Nat.le_refl _) (Or.inr t)⟩
      have hm2 : ∀ q, q ∈ L ↔ gMax W H o q ∧ (q.2.1 < top ∨ (q.2.1 = top ∧ q.2.2.2 ≤ top - top)) := fun q => (hm q).trans ⟨fun z => ⟨z.1, Or.inl z.2⟩, fun z => ⟨z.1, by have := gMax_b hW16 hH16 z.1; have := z.2; omega⟩⟩
      first
        | exact px_forget (by repeat' constructor) (l_findFree_56 hM hW hne ew eh hW16 hH16 ht hwh hcap htop (cols_c hwh (fun i hi => ⟨fun _ => Or.inl (by have h25 : nI top = nI 0 := h25; rw [nI_eq (by omega) (by omega)] at h25; exact h25), fun _ => trivial⟩)) (fun M2 L2 a1 a2 a3 a4 => nt htop M2 L2 a1 a2 a3 a4) top (by omega) M1 L _ hF hC hS hm2 hop0 (Nat.le_refl _))
        | exact px_forget (by repeat' constructor) (l_findFree_56 hM hW hne ew eh hW16 hH16 ht hwh hcap htop (by rw [nI_clamp (by omega), et1]; exact cols_c (ht (top - 1) (by omega)) (fun i hi => ⟨Or.inr, fun z => z.elim (fun t => by omega) id⟩)) (fun M2 L2 a1 a2 a3 a4 => nt htop M2 L2 a1 a2 a3 a4) top (by omega) M1 L _ hF hC hS hm2 hop0 (Nat.le_refl _))

set_option maxRecDepth 100000 in
theorem c_X4_findFree {E : xE} {M : xMem} {W H : Nat} {o : Nat → Nat → Prop} (hM : xNT ≤ xN M) (hW : xWire M.2.1) (ew : M.1 25 2 = nI W) (eh : M.1 25 3 = nI H) (hW16 : W ≤ 16) (hH16 : H ≤ 16) (ht : tkC W H o (M.1 26)) (hcap : ∀ L : List gR, gSort L → (∀ q ∈ L, gMax W H o q) → L.length ≤ 729) : Ct E mX4_findFree [.ref 25] M (xN M) (fun rr m => rr = none ∧ ∃ L2, rmF M m ∧ frC m L2 ∧ gIs W H o L2) := by
  refine Ct.of (lo := [some (.ref 25), none, none, none, none, none, none]) pln_X4 (Nat.le_of_ble_eq_true rfl) rfl (Nat.le_refl _) ?_
  refine px_aload_n dX4_findFree_0 rfl rfl ?_
  refine px_iconst dX4_findFree_1 ic_0 ?_
  refine px_putI dX4_findFree_2 fX4_25 p4_4 (xol rfl) hM rfl ?_
  refine px_iconst dX4_findFree_5 ic_0 ?_
  refine px_aload_n dX4_findFree_6 rfl rfl ?_
  refine px_getI dX4_findFree_7 fX4_18 (xol rfl) hM rfl ?_
  refine px_top (y := nI W) ew ?_
  refine px_fS2i dX4_findFree_10 kX4_findFree_72 (Nat.le_of_ble_eq_true rfl) (c_X4_span) ?_
  refine px_si_1 dX4_findFree_13 rfl ?_
  refine px_iconst dX4_findFree_14 ic_0 ?_
  refine px_si_2 dX4_findFree_15 rfl ?_
  have hsp : cols W ((1 <<< ((nI 0 + nI W) &&& 31)) - (1 <<< (nI 0 &&& 31))) (fun _ => True) := cols_c (cols_span (x := 0) (n := W) (by omega) hW16) (fun i hi => ⟨fun _ => trivial, fun _ => ⟨by omega, by omega⟩⟩)
  have k := l_findFree_16 (E := E) (M := M) hM hW rfl ew eh hW16 hH16 ht hsp hcap (wI M 25 4 0) [] ⟨rfl, fun a a1 a2 => by funext k; rw [xI_wI, if_neg (fun z => a1 z.1)], fun k hk => by rw [xI_wI, if_neg (fun z => hk z.2)]⟩ ⟨by rw [xI_wI, if_pos ⟨rfl, rfl⟩]; rfl, fun k r h => by simp at h⟩ List.Pairwise.nil (fun q => ⟨fun h => by simp at h, fun h => absurd h.2 (Nat.not_lt_zero _)⟩)
  exact k
