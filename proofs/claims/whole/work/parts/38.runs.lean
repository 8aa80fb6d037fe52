/-! ===== the class's room: runs of columns ===== -/
def runS (o : Nat → Nat → Prop) (y d i : Nat) : Prop := ∀ j, y ≤ j → j < y + d → ¬ o i j
theorem run_not {o : Nat → Nat → Prop} {y d i : Nat} : ¬ runS o y d i ↔ ∃ j, y ≤ j ∧ j < y + d ∧ o i j := by
  unfold runS
  constructor
  · intro h
    apply Classical.byContradiction
    intro z
    exact h (fun j j1 j2 j3 => z ⟨j, j1, j2, j3⟩)
  · rintro ⟨j, j1, j2, j3⟩ h
    exact h j j1 j2 j3
theorem gMax_run {W H : Nat} {o : Nat → Nat → Prop} {q : gR} (h : gMax W H o q) : (∀ i, q.1 ≤ i → i < q.1 + q.2.2.1 → runS o q.2.1 q.2.2.2 i) ∧ (q.1 = 0 ∨ ¬ runS o q.2.1 q.2.2.2 (q.1 - 1)) ∧ (q.1 + q.2.2.1 = W ∨ ¬ runS o q.2.1 q.2.2.2 (q.1 + q.2.2.1)) := by
  obtain ⟨-, -, hf, hl, -, hr, -⟩ := h
  refine ⟨fun i i1 i2 j j1 j2 => hf.2.2 i j i1 i2 j1 j2, hl.imp id (fun q => run_not.mpr q), hr.imp id (fun q => run_not.mpr q)⟩
theorem run_uniq {W H : Nat} {o : Nat → Nat → Prop} {y d x e : Nat} (hxe : x ≤ e) (heW : e ≤ W) (hin : ∀ i, x ≤ i → i < e → runS o y d i) (hend : e = W ∨ ¬ runS o y d e) (hst : x = 0 ∨ ¬ runS o y d (x - 1)) {q : gR} (hq : gMax W H o q) (e1 : q.2.1 = y) (e2 : q.2.2.2 = d) (h1 : x ≤ q.1) (h2 : q.1 ≤ e) : q = (x, y, e - x, d) ∧ x < e := by
  obtain ⟨g1, g2, g3⟩ := gMax_run hq
  have hw := hq.1
  have hxw := hq.2.2.1.1
  rw [e1, e2] at g1 g2 g3
  have hx : q.1 = x := by
    apply Classical.byContradiction
    intro z
    by_cases he : q.1 = e
    · rcases hend with q1 | q1
      · omega
      · exact q1 (by rw [← he]; exact g1 q.1 (Nat.le_refl _) (by omega))
    · rcases g2 with q1 | q1
      · omega
      · exact q1 (hin (q.1 - 1) (by omega) (by omega))
  have hxe2 : x < e := by
    rcases hend with q1 | q1
    · omega
    · apply Classical.byContradiction
      intro z
      have : e = x := by omega
      exact q1 (by rw [this, ← hx]; exact g1 q.1 (Nat.le_refl _) (by omega))
  have hwe : q.2.2.1 = e - x := by
    rcases Nat.lt_trichotomy q.2.2.1 (e - x) with z | z | z
    · rcases g3 with q1 | q1
      · omega
      · exact absurd (hin (q.1 + q.2.2.1) (by omega) (by omega)) q1
    · exact z
    · rcases hend with q1 | q1
      · omega
      · exact absurd (g1 e (by omega) (by omega)) q1
  refine ⟨?_, hxe2⟩
  obtain ⟨a1, a2, a3, a4⟩ := q
  simp only at e1 e2 hx hwe
  rw [hx, e1, hwe, e2]
theorem run_max {W H : Nat} {o : Nat → Nat → Prop} {y d x e : Nat} (hd : 0 < d) (hyd : y + d ≤ H) (hxe : x < e) (heW : e ≤ W) (hin : ∀ i, x ≤ i → i < e → runS o y d i) (hend : e = W ∨ ¬ runS o y d e) (hst : x = 0 ∨ ¬ runS o y d (x - 1)) (ha : ∃ i, x ≤ i ∧ i < e ∧ (y = 0 ∨ o i (y - 1))) (hb : ∃ i, x ≤ i ∧ i < e ∧ (y + d = H ∨ o i (y + d))) : gMax W H o (x, y, e - x, d) := by
  have hex : x + (e - x) = e := by omega
  refine ⟨by simp only; omega, hd, ⟨by simp only; omega, hyd, fun i j i1 i2 j1 j2 => hin i i1 (by simp only at i2; omega) j j1 j2⟩, hst.imp id (fun q => run_not.mp q), ?_, ?_, ?_⟩
  · obtain ⟨i, i1, i2, i3⟩ := ha
    rcases i3 with q | q
    · exact Or.inl q
    · exact Or.inr ⟨i, i1, by simp only; omega, q⟩
  · simp only [hex]
    exact hend.imp id (fun q => run_not.mp q)
  · obtain ⟨i, i1, i2, i3⟩ := hb
    rcases i3 with q | q
    · exact Or.inl q
    · exact Or.inr ⟨i, i1, by simp only; omega, q⟩
theorem gEnc_inj {W H : Nat} {o : Nat → Nat → Prop} (hW : W ≤ 16) (hH : H ≤ 16) {q r : gR} (hq : gMax W H o q) (hr : gMax W H o r) (e : gEnc q = gEnc r) : q = r := by
  have h1 := gMax_b hW hH hq
  have h2 := gMax_b hW hH hr
  obtain ⟨a1, a2, a3, a4⟩ := q
  obtain ⟨b1, b2, b3, b4⟩ := r
  simp only [gEnc] at e h1 h2
  have e1 : a1 = b1 := by omega
  have e2 : a2 = b2 := by omega
  have e3 : a3 = b3 := by omega
  have e4 : a4 = b4 := by omega
  rw [e1, e2, e3, e4]
theorem gEnc_b {W H : Nat} {o : Nat → Nat → Prop} (hW : W ≤ 16) (hH : H ≤ 16) {q : gR} (hq : gMax W H o q) : gEnc q < 2 ^ 30 := by
  have h1 := gMax_b hW hH hq
  unfold gEnc
  omega

set_option maxRecDepth 100000 in
theorem l_addRuns_40 {E : xE} {M : xMem} {W H : Nat} {o : Nat → Nat → Prop} {op ab be : Int32} {y d ne : Nat} {L0 : List gR} (hM : xNT ≤ xN M) (hW : xWire M.2.1) (hne : xN M = ne) (ew : M.1 25 2 = nI W) (hW16 : W ≤ 16) (hH16 : H ≤ 16) (hop : cols W op (runS o y d)) (hab : cols W ab (fun i => y = 0 ∨ o i (y - 1))) (hbe : cols W be (fun i => y + d = H ∨ o i (y + d))) (hd0 : 0 < d) (hyd : y + d ≤ H) (hcap : ∀ L : List gR, gSort L → (∀ q ∈ L, gMax W H o q) → L.length ≤ 729) (hL0 : ∀ q ∈ L0, gMax W H o q ∧ ¬ (q.2.1 = y ∧ q.2.2.2 = d)) {x e : Nat} {M1 : xMem} {L : List gR} (hxW : x < W) (hF : rmF M M1) (hC : frC M1 L) (hS : gSort L) (hm : ∀ q, q ∈ L ↔ q ∈ L0 ∨ (gMax W H o q ∧ q.2.1 = y ∧ q.2.2.2 = d ∧ q.1 < x)) (hst : x = 0 ∨ ¬ runS o y d (x - 1)) (hxe : x ≤ e) (heW : e ≤ W) (hin : ∀ i, x ≤ i → i < e → runS o y d i) (hend : e = W ∨ ¬ runS o y d e)
    (nx : ∀ k, x < k → k ≤ W + 1 → ∀ (M1 : xMem) (L : List gR), rmF M M1 → frC M1 L → gSort L → (∀ q, q ∈ L ↔ q ∈ L0 ∨ (gMax W H o q ∧ q.2.1 = y ∧ q.2.2.2 = d ∧ q.1 < k)) → (k = 0 ∨ W < k ∨ ¬ runS o y d (k - 1)) → PR E mX4_addRuns ne 3 [some (.ref 25), some (.int op), some (.int ab), some (.int be), some (.int (nI y)), some (.int (nI d)), some (.int (nI k)), none, none] [] M1 (fun rr m => rr = none ∧ ∃ L2, rmF M m ∧ frC m L2 ∧ gSort L2 ∧ ∀ q, q ∈ L2 ↔ q ∈ L0 ∨ (gMax W H o q ∧ q.2.1 = y ∧ q.2.2.2 = d))) : PR E mX4_addRuns ne 40 [some (.ref 25), some (.int op), some (.int ab), some (.int be), some (.int (nI y)), some (.int (nI d)), some (.int (nI x)), some (.int (nI e)), none] [] M1 (fun rr m => rr = none ∧ ∃ L2, rmF M m ∧ frC m L2 ∧ gSort L2 ∧ ∀ q, q ∈ L2 ↔ q ∈ L0 ∨ (gMax W H o q ∧ q.2.1 = y ∧ q.2.2.2 = d)) := by
  have f2 : M1.2 = M.2 := hF.1
  have hM1 : xNT ≤ xN M1 := by show xNT ≤ M1.2.2.2; rw [f2]; exact hM
  have hW1 : xWire M1.2.1 := by rw [f2]; exact hW
  have ew1 : M1.1 25 2 = nI W := (hF.2.2 2 (by decide)).trans ew
  refine px_iload dX4_addRuns_40 rfl ?_
  refine px_iload dX4_addRuns_42 rfl ?_
  refine px_iload dX4_addRuns_44 rfl ?_
  refine px_isub dX4_addRuns_46 ?_
  refine px_top (pk_sub hxe) ?_
  refine px_fS2i dX4_addRuns_47 kX4_addRuns_72 (Nat.le_of_ble_eq_true rfl) (c_X4_span) ?_
  refine px_si_8 dX4_addRuns_50 rfl ?_
  have hrun := cols_span (x := x) (n := e - x) (W := W) (by omega) hW16
  have hex : x + (e - x) = e := by omega
  refine px_iload dX4_addRuns_52 rfl ?_
  refine px_iload_n dX4_addRuns_54 rfl rfl ?_
  refine px_iand dX4_addRuns_55 ?_
  refine px_if_eq 93 dX4_addRuns_56 rfl (fun h56 => ?_) (fun h56 => ?_)
  · refine px_iload dX4_addRuns_93 rfl ?_
    refine px_iconst dX4_addRuns_95 ic_1 ?_
    refine px_iadd dX4_addRuns_96 ?_
    refine px_si_6 dX4_addRuns_97 rfl ?_
    refine px_goto 3 dX4_addRuns_99 rfl ?_
    rw [nI_1 e]
    first
      | (refine px_forget (by repeat' constructor) (nx (e + 1) (by omega) (by omega) M90 L2 (hF.tr q1) q2 q3 (fun q => ?_) (by
           rcases hend with z | z
           · exact Or.inr (Or.inl (by omega))
           · exact Or.inr (Or.inr z)))
         rw [q4 q, hm q]
         constructor
         · rintro ((z | z) | z)
           · exact Or.inl z
           · exact Or.inr ⟨z.1, z.2.1, z.2.2.1, by omega⟩
           · rw [z]; exact Or.inr ⟨hmx, rfl, rfl, by simp only; omega⟩
         · rintro (z | z)
           · exact Or.inl (Or.inl z)
           · by_cases hz : q.1 < x
             · exact Or.inl (Or.inr ⟨z.1, z.2.1, z.2.2.1, hz⟩)
             · exact Or.inr (run_uniq hxe heW hin hend hst z.1 z.2.1 z.2.2.1 (by omega) (by omega)).1)
      | (refine px_forget (by repeat' constructor) (nx (e + 1) (by omega) (by omega) M1 L hF hC hS (fun q => ?_) (by
           rcases hend with z | z
           · exact Or.inr (Or.inl (by omega))
           · exact Or.inr (Or.inr z)))
         rw [hm q]
         constructor
         · rintro (z | z)
           · exact Or.inl z
           · exact Or.inr ⟨z.1, z.2.1, z.2.2.1, by omega⟩
         · rintro (z | z)
           · exact Or.inl z
           · by_cases hz : q.1 < x
             · exact Or.inr ⟨z.1, z.2.1, z.2.2.1, hz⟩
             · exfalso
               obtain ⟨u1, u2⟩ := run_uniq hxe heW hin hend hst z.1 z.2.1 z.2.2.1 (by omega) (by omega)
               have hq := z.1
               rw [u1] at hq
               obtain ⟨-, -, -, -, t1, -, t2⟩ := hq
               simp only at t1 t2
               rw [hex] at t1 t2
               first
                 | exact (cols_and hW16 hrun hab).mpr (by
                     rcases t1 with t | ⟨i, i1, i2, i3⟩
                     · exact ⟨x, by omega, ⟨by omega, by omega⟩, Or.inl t⟩
                     · exact ⟨i, by omega, ⟨i1, by omega⟩, Or.inr i3⟩) h56
                 | exact (cols_and hW16 hrun hbe).mpr (by
                     rcases t2 with t | ⟨i, i1, i2, i3⟩
                     · exact ⟨x, by omega, ⟨by omega, by omega⟩, Or.inl t⟩
                     · exact ⟨i, by omega, ⟨i1, by omega⟩, Or.inr i3⟩) h63)
  · refine px_iload dX4_addRuns_59 rfl ?_
    refine px_iload_n dX4_addRuns_61 rfl rfl ?_
    refine px_iand dX4_addRuns_62 ?_
    refine px_if_eq 93 dX4_addRuns_63 rfl (fun h63 => ?_) (fun h63 => ?_)
    · refine px_iload dX4_addRuns_93 rfl ?_
      refine px_iconst dX4_addRuns_95 ic_1 ?_
      refine px_iadd dX4_addRuns_96 ?_
      refine px_si_6 dX4_addRuns_97 rfl ?_
      refine px_goto 3 dX4_addRuns_99 rfl ?_
      rw [nI_1 e]
      first
        | (refine px_forget (by repeat' constructor) (nx (e + 1) (by omega) (by omega) M90 L2 (hF.tr q1) q2 q3 (fun q => ?_) (by
             rcases hend with z | z
             · exact Or.inr (Or.inl (by omega))
             · exact Or.inr (Or.inr z)))
           rw [q4 q, hm q]
           constructor
           · rintro ((z | z) | z)
             · exact Or.inl z
             · exact Or.inr ⟨z.1, z.2.1, z.2.2.1, by omega⟩
             · rw [z]; exact Or.inr ⟨hmx, rfl, rfl, by simp only; omega⟩
           · rintro (z | z)
             · exact Or.inl (Or.inl z)
             · by_cases hz : q.1 < x
               · exact Or.inl (Or.inr ⟨z.1, z.2.1, z.2.2.1, hz⟩)
               · exact Or.inr (run_uniq hxe heW hin hend hst z.1 z.2.1 z.2.2.1 (by omega) (by omega)).1)
        | (refine px_forget (by repeat' constructor) (nx (e + 1) (by omega) (by omega) M1 L hF hC hS (fun q => ?_) (by
             rcases hend with z | z
             · exact Or.inr (Or.inl (by omega))
             · exact Or.inr (Or.inr z)))
           rw [hm q]
           constructor
           · rintro (z | z)
             · exact Or.inl z
             · exact Or.inr ⟨z.1, z.2.1, z.2.2.1, by omega⟩
           · rintro (z | z)
             · exact Or.inl z
             · by_cases hz : q.1 < x
               · exact Or.inr ⟨z.1, z.2.1, z.2.2.1, hz⟩
               · exfalso
                 obtain ⟨u1, u2⟩ := run_uniq hxe heW hin hend hst z.1 z.2.1 z.2.2.1 (by omega) (by omega)
                 have hq := z.1
                 rw [u1] at hq
                 obtain ⟨-, -, -, -, t1, -, t2⟩ := hq
                 simp only at t1 t2
                 rw [hex] at t1 t2
                 first
                   | exact (cols_and hW16 hrun hab).mpr (by
                       rcases t1 with t | ⟨i, i1, i2, i3⟩
                       · exact ⟨x, by omega, ⟨by omega, by omega⟩, Or.inl t⟩
                       · exact ⟨i, by omega, ⟨i1, by omega⟩, Or.inr i3⟩) h56
                   | exact (cols_and hW16 hrun hbe).mpr (by
                       rcases t2 with t | ⟨i, i1, i2, i3⟩
                       · exact ⟨x, by omega, ⟨by omega, by omega⟩, Or.inl t⟩
                       · exact ⟨i, by omega, ⟨i1, by omega⟩, Or.inr i3⟩) h63)
    · have ha := (cols_and hW16 hrun hab).mp h56
      have hb := (cols_and hW16 hrun hbe).mp h63
      have hxe2 : x < e := by obtain ⟨i, i1, i2, i3⟩ := ha; omega
      have hmx : gMax W H o (x, y, e - x, d) := run_max hd0 hyd hxe2 heW hin hend hst (by obtain ⟨i, i1, i2, i3⟩ := ha; exact ⟨i, i2.1, by omega, i3⟩) (by obtain ⟨i, i1, i2, i3⟩ := hb; exact ⟨i, i2.1, by omega, i3⟩)
      have hall : ∀ q ∈ L, gMax W H o q := fun q hq => ((hm q).mp hq).elim (fun z => (hL0 q z).1) (fun z => z.1)
      have hnin : ∀ q ∈ L, gEnc q ≠ gEnc (x, y, e - x, d) := by
        intro q hq z
        have hqr := gEnc_inj hW16 hH16 (hall q hq) hmx z
        rcases (hm q).mp hq with z1 | z1
        · exact (hL0 q z1).2 (by rw [hqr]; exact ⟨rfl, rfl⟩)
        · have := z1.2.2.2; rw [hqr] at this; simp only at this; omega
      have hlen : L.length < 729 := by
        obtain ⟨i, i1, i2, i3⟩ := gIns_pos hS hnin
        have := hcap (gIns L i (x, y, e - x, d)) (gIns_sort hS i2 i3) (fun q hq => (gIns_mem.mp hq).elim (hall q) (fun z => by rw [z]; exact hmx))
        rw [gIns_len i1] at this; omega
      refine px_aload_n dX4_addRuns_66 rfl rfl ?_
      refine px_iload dX4_addRuns_67 rfl ?_
      refine px_bipush dX4_addRuns_69 bp_32 ?_
      refine px_imul dX4_addRuns_71 ?_
      refine px_iload dX4_addRuns_72 rfl ?_
      refine px_iadd dX4_addRuns_74 ?_
      refine px_bipush dX4_addRuns_75 bp_32 ?_
      refine px_imul dX4_addRuns_77 ?_
      refine px_iload dX4_addRuns_78 rfl ?_
      refine px_iadd dX4_addRuns_80 ?_
      refine px_iload dX4_addRuns_81 rfl ?_
      refine px_isub dX4_addRuns_83 ?_
      refine px_bipush dX4_addRuns_84 bp_32 ?_
      refine px_imul dX4_addRuns_86 ?_
      refine px_iload dX4_addRuns_87 rfl ?_
      refine px_iadd dX4_addRuns_89 ?_
      refine px_top (y := nI (gEnc (x, y, e - x, d))) (by show ((((nI y * nI 32 + nI x) * nI 32 + nI e) - nI x) * nI 32 + nI d) = _; rw [pk_mul, nI_add, pk_mul, nI_add, pk_sub (by omega), pk_mul, nI_add]; congr 1; unfold gEnc; simp only; omega) ?_
      refine px_gV1 dX4_addRuns_90 kX4_addRuns_85 (xol rfl) hM1 (Nat.le_of_ble_eq_true rfl) (c_X4_insert hM1 hW1 hC hS hnin hlen (fun q hq => gEnc_b hW16 hH16 (hall q hq)) (gEnc_b hW16 hH16 hmx)) (fun r90 M90 hq90 hn90 => ?_)
      obtain ⟨rfl, L2, q1, q2, q3, q4⟩ := hq90
      have hM90 : xNT ≤ xN M90 := by rw [hn90]; exact hM1
      refine px_iload dX4_addRuns_93 rfl ?_
      refine px_iconst dX4_addRuns_95 ic_1 ?_
      refine px_iadd dX4_addRuns_96 ?_
      refine px_si_6 dX4_addRuns_97 rfl ?_
      refine px_goto 3 dX4_addRuns_99 rfl ?_
      rw [nI_1 e]
      first
        | (refine px_forget (by repeat' constructor) (nx (e + 1) (by omega) (by omega) M90 L2 (hF.tr q1) q2 q3 (fun q => ?_) (by
             rcases hend with z | z
             · exact Or.inr (Or.inl (by omega))
             · exact Or.inr (Or.inr z)))
           rw [q4 q, hm q]
           constructor
           · rintro ((z | z) | z)
             · exact Or.inl z
             · exact Or.inr ⟨z.1, z.2.1, z.2.2.1, by omega⟩
             · rw [z]; exact Or.inr ⟨hmx, rfl, rfl, by simp only; omega⟩
           · rintro (z | z)
             · exact Or.inl (Or.inl z)
             · by_cases hz : q.1 < x
               · exact Or.inl (Or.inr ⟨z.1, z.2.1, z.2.2.1, hz⟩)
               · exact Or.inr (run_uniq hxe heW hin hend hst z.1 z.2.1 z.2.2.1 (by omega) (by omega)).1)
        | (refine px_forget (by repeat' constructor) (nx (e + 1) (by omega) (by omega) M1 L hF hC hS (fun q => ?_) (by
             rcases hend with z | z
             · exact Or.inr (Or.inl (by omega))
             · exact Or.inr (Or.inr z)))
           rw [hm q]
           constructor
           · rintro (z | z)
             · exact Or.inl z
             · exact Or.inr ⟨z.1, z.2.1, z.2.2.1, by omega⟩
           · rintro (z | z)
             · exact Or.inl z
             · by_cases hz : q.1 < x
               · exact Or.inr ⟨z.1, z.2.1, z.2.2.1, hz⟩
               · exfalso
                 obtain ⟨u1, u2⟩ := run_uniq hxe heW hin hend hst z.1 z.2.1 z.2.2.1 (by omega) (by omega)
                 have hq := z.1
                 rw [u1] at hq
                 obtain ⟨-, -, -, -, t1, -, t2⟩ := hq
                 simp only at t1 t2
                 rw [hex] at t1 t2
                 first
                   | exact (cols_and hW16 hrun hab).mpr (by
                       rcases t1 with t | ⟨i, i1, i2, i3⟩
                       · exact ⟨x, by omega, ⟨by omega, by omega⟩, Or.inl t⟩
                       · exact ⟨i, by omega, ⟨i1, by omega⟩, Or.inr i3⟩) h56
                   | exact (cols_and hW16 hrun hbe).mpr (by
                       rcases t2 with t | ⟨i, i1, i2, i3⟩
                       · exact ⟨x, by omega, ⟨by omega, by omega⟩, Or.inl t⟩
                       · exact ⟨i, by omega, ⟨i1, by omega⟩, Or.inr i3⟩) h63)

set_option maxRecDepth 100000 in
theorem l_X4_addRuns {E : xE} {M : xMem} {W H : Nat} {o : Nat → Nat → Prop} {op ab be : Int32} {y d ne : Nat} {L0 : List gR} (hM : xNT ≤ xN M) (hW : xWire M.2.1) (hne : xN M = ne) (ew : M.1 25 2 = nI W) (hW16 : W ≤ 16) (hH16 : H ≤ 16) (hop : cols W op (runS o y d)) (hab : cols W ab (fun i => y = 0 ∨ o i (y - 1))) (hbe : cols W be (fun i => y + d = H ∨ o i (y + d))) (hd0 : 0 < d) (hyd : y + d ≤ H) (hcap : ∀ L : List gR, gSort L → (∀ q ∈ L, gMax W H o q) → L.length ≤ 729) (hL0 : ∀ q ∈ L0, gMax W H o q ∧ ¬ (q.2.1 = y ∧ q.2.2.2 = d)) : ∀ (M1 : xMem) (L : List gR), rmF M M1 → frC M1 L → gSort L → (∀ q, q ∈ L ↔ q ∈ L0 ∨ (gMax W H o q ∧ q.2.1 = y ∧ q.2.2.2 = d ∧ q.1 < 0)) → (0 = 0 ∨ W < 0 ∨ ¬ runS o y d (0 - 1)) → PR E mX4_addRuns ne 3 [some (.ref 25), some (.int op), some (.int ab), some (.int be), some (.int (nI y)), some (.int (nI d)), some (.int (nI 0)), none, none] [] M1 (fun rr m => rr = none ∧ ∃ L2, rmF M m ∧ frC m L2 ∧ gSort L2 ∧ ∀ q, q ∈ L2 ↔ q ∈ L0 ∨ (gMax W H o q ∧ q.2.1 = y ∧ q.2.2.2 = d)) := by
  refine px_wf (P := fun x => ∀ (M1 : xMem) (L : List gR), rmF M M1 → frC M1 L → gSort L → (∀ q, q ∈ L ↔ q ∈ L0 ∨ (gMax W H o q ∧ q.2.1 = y ∧ q.2.2.2 = d ∧ q.1 < x)) → (x = 0 ∨ W < x ∨ ¬ runS o y d (x - 1)) → PR E mX4_addRuns ne 3 [some (.ref 25), some (.int op), some (.int ab), some (.int be), some (.int (nI y)), some (.int (nI d)), some (.int (nI x)), none, none] [] M1 (fun rr m => rr = none ∧ ∃ L2, rmF M m ∧ frC m L2 ∧ gSort L2 ∧ ∀ q, q ∈ L2 ↔ q ∈ L0 ∨ (gMax W H o q ∧ q.2.1 = y ∧ q.2.2.2 = d))) (W + 1) (fun x hxm nx => ?_) 0 (Nat.zero_le _)
  intro M1 L hF hC hS hm hst
  have f2 : M1.2 = M.2 := hF.1
  have hM1 : xNT ≤ xN M1 := by show xNT ≤ M1.2.2.2; rw [f2]; exact hM
  have hW1 : xWire M1.2.1 := by rw [f2]; exact hW
  have ew1 : M1.1 25 2 = nI W := (hF.2.2 2 (by decide)).trans ew
  refine px_iload dX4_addRuns_3 rfl ?_
  refine px_aload_n dX4_addRuns_5 rfl rfl ?_
  refine px_getI dX4_addRuns_6 fX4_18 (xol rfl) hM1 rfl ?_
  refine px_top ew1 ?_
  refine px_icmp_ge 102 dX4_addRuns_9 rfl (fun h9 => ?_) (fun h9 => ?_)
  · have hxW : W ≤ x := by rw [nI_leI (by omega) (by omega)] at h9; omega
    exact px_ret dX4_addRuns_102 rfl ⟨rfl, L, hF, hC, hS, fun q => (hm q).trans ⟨fun z => z.imp id (fun t => ⟨t.1, t.2.1, t.2.2.1⟩), fun z => z.imp id (fun t => ⟨t.1, t.2.1, t.2.2, by have := gMax_b hW16 hH16 t.1; omega⟩)⟩⟩ (by show M1.2.2.2 = ne; rw [f2]; exact hne)
  · have hxW : x < W := by rw [nI_leI (by omega) (by omega)] at h9; omega
    have hst2 : x = 0 ∨ ¬ runS o y d (x - 1) := by
      rcases hst with z | z | z
      · exact Or.inl z
      · omega
      · exact Or.inr z
    refine px_iload dX4_addRuns_12 rfl ?_
    refine px_si_7 dX4_addRuns_14 rfl ?_
    refine px_for (P := fun e => (∀ i, x ≤ i → i < e → runS o y d i) → x ≤ e → PR E mX4_addRuns ne 16 [some (.ref 25), some (.int op), some (.int ab), some (.int be), some (.int (nI y)), some (.int (nI d)), some (.int (nI x)), some (.int (nI e)), none] [] M1 (fun rr m => rr = none ∧ ∃ L2, rmF M m ∧ frC m L2 ∧ gSort L2 ∧ ∀ q, q ∈ L2 ↔ q ∈ L0 ∨ (gMax W H o q ∧ q.2.1 = y ∧ q.2.2.2 = d))) (W) (fun e he ne1 => ?_) x (by omega) (fun i i1 i2 => by omega) (Nat.le_refl _)
    intro hin hxe
    refine px_iload dX4_addRuns_16 rfl ?_
    refine px_aload_n dX4_addRuns_18 rfl rfl ?_
    refine px_getI dX4_addRuns_19 fX4_18 (xol rfl) hM1 rfl ?_
    refine px_top ew1 ?_
    refine px_icmp_ge 40 dX4_addRuns_22 rfl (fun h22 => ?_) (fun h22 => ?_)
    · first
        | exact l_addRuns_40 hM hW hne ew hW16 hH16 hop hab hbe hd0 hyd hcap hL0 hxW hF hC hS hm hst2 hxe (by omega) hin (Or.inr (fun z => (cols_bit hop hW16 heW).mpr z h31)) nx
        | exact l_addRuns_40 hM hW hne ew hW16 hH16 hop hab hbe hd0 hyd hcap hL0 hxW hF hC hS hm hst2 hxe (by omega) hin (Or.inl (by rw [nI_leI (by omega) (by omega)] at h22; omega)) nx
    · have heW : e < W := by rw [nI_leI (by omega) (by omega)] at h22; omega
      refine px_iload_n dX4_addRuns_25 rfl rfl ?_
      refine px_iload dX4_addRuns_26 rfl ?_
      refine px_ishr dX4_addRuns_28 ?_
      refine px_iconst dX4_addRuns_29 ic_1 ?_
      refine px_iand dX4_addRuns_30 ?_
      refine px_if_eq 40 dX4_addRuns_31 rfl (fun h31 => ?_) (fun h31 => ?_)
      · first
          | exact l_addRuns_40 hM hW hne ew hW16 hH16 hop hab hbe hd0 hyd hcap hL0 hxW hF hC hS hm hst2 hxe (by omega) hin (Or.inr (fun z => (cols_bit hop hW16 heW).mpr z h31)) nx
          | exact l_addRuns_40 hM hW hne ew hW16 hH16 hop hab hbe hd0 hyd hcap hL0 hxW hF hC hS hm hst2 hxe (by omega) hin (Or.inl (by rw [nI_leI (by omega) (by omega)] at h22; omega)) nx
      · refine px_inc_7 dX4_addRuns_34 rfl ic_1 ?_
        refine px_goto 16 dX4_addRuns_37 rfl ?_
        rw [nI_1 e]
        exact ne1 heW (fun i i1 i2 => by
          by_cases z : i = e
          · subst z; exact (cols_bit hop hW16 heW).mp h31
          · exact hin i i1 (by omega)) (by omega)

set_option maxRecDepth 100000 in
theorem c_X4_addRuns {E : xE} {M : xMem} {W H : Nat} {o : Nat → Nat → Prop} {op ab be : Int32} {y d : Nat} {L0 : List gR} (hM : xNT ≤ xN M) (hW : xWire M.2.1) (ew : M.1 25 2 = nI W) (hW16 : W ≤ 16) (hH16 : H ≤ 16) (hop : cols W op (runS o y d)) (hab : cols W ab (fun i => y = 0 ∨ o i (y - 1))) (hbe : cols W be (fun i => y + d = H ∨ o i (y + d))) (hd0 : 0 < d) (hyd : y + d ≤ H) (hcap : ∀ L : List gR, gSort L → (∀ q ∈ L, gMax W H o q) → L.length ≤ 729) (hL0 : ∀ q ∈ L0, gMax W H o q ∧ ¬ (q.2.1 = y ∧ q.2.2.2 = d)) (hC : frC M L0) (hS : gSort L0) : Ct E mX4_addRuns [.ref 25, .int op, .int ab, .int be, .int (nI y), .int (nI d)] M (xN M) (fun rr m => rr = none ∧ ∃ L2, rmF M m ∧ frC m L2 ∧ gSort L2 ∧ ∀ q, q ∈ L2 ↔ q ∈ L0 ∨ (gMax W H o q ∧ q.2.1 = y ∧ q.2.2.2 = d)) := by
  refine Ct.of (lo := [some (.ref 25), some (.int op), some (.int ab), some (.int be), some (.int (nI y)), some (.int (nI d)), none, none, none]) pln_X4 (Nat.le_of_ble_eq_true rfl) rfl (Nat.le_refl _) ?_
  refine px_iconst dX4_addRuns_0 ic_0 ?_
  refine px_si_6 dX4_addRuns_1 rfl ?_
  exact l_X4_addRuns (E := E) hM hW rfl ew hW16 hH16 hop hab hbe hd0 hyd hcap hL0 M L0 (rmF.rf M) hC hS (fun q => ⟨Or.inl, fun z => z.elim id (fun t => absurd t.2.2.2 (Nat.not_lt_zero _))⟩) (Or.inl rfl)
