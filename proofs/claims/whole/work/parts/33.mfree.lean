/-! ===== the reference: is a rectangle free, is it greatest ===== -/
noncomputable abbrev zc (p : Prop) : Int32 := @zb p (Classical.propDecidable p)
theorem z1c {p : Prop} (h : p) : some (Value.int 1) = some (.int (zc p)) := @z1 p (Classical.propDecidable p) h
theorem z0c {p : Prop} (h : ¬ p) : some (Value.int 0) = some (.int (zc p)) := @z0 p (Classical.propDecidable p) h
theorem zc_c {p q : Prop} (h : p ↔ q) : zc p = zc q := by rw [propext h]
section CIF
variable {E : xE} {d : xMD} {ne pc : Nat} {lo : List (Option Value)} {st : List Value} {M : xMem} {Q : Option Value → xMem → Prop}
theorem px_cif_eq {p : Prop} {off : Int} (tgt : Nat) (hd : decode d.co pc = .ok (.ifCond .eq off, 3)) (ht : (pc : Int) + off = (tgt : Int)) (kt : ¬ p → PR E d ne tgt lo st M Q) (kf : p → PR E d ne (pc + 3) lo st M Q) : PR E d ne pc lo (.int (zc p) :: st) M Q := @px_zif_eq E d ne pc st M Q lo p (Classical.propDecidable p) off tgt hd ht kt kf
theorem px_cif_ne {p : Prop} {off : Int} (tgt : Nat) (hd : decode d.co pc = .ok (.ifCond .ne off, 3)) (ht : (pc : Int) + off = (tgt : Int)) (kt : p → PR E d ne tgt lo st M Q) (kf : ¬ p → PR E d ne (pc + 3) lo st M Q) : PR E d ne pc lo (.int (zc p) :: st) M Q := @px_zif_ne E d ne pc st M Q lo p (Classical.propDecidable p) off tgt hd ht kt kf
end CIF
/-- the grid says what is taken -/
def gdM (M : xMem) (o : Nat → Nat → Prop) : Prop := ∀ i j, i < 16 → j < 16 → (M.1 85 (16 * j + i) = -9 ↔ ¬ o i j)
def fI (W H : Nat) (o : Nat → Nat → Prop) (x y : Int32) (w h : Nat) : Prop := 0 ≤ x ∧ 0 ≤ y ∧ gFree W H o x.toNatClampNeg y.toNatClampNeg w h
theorem fI_n {W H X Y w h : Nat} {o : Nat → Nat → Prop} (hX : X < 2 ^ 31) (hY : Y < 2 ^ 31) : fI W H o (nI X) (nI Y) w h ↔ gFree W H o X Y w h := by
  unfold fI
  rw [nI_clamp hX, nI_clamp hY]
  exact ⟨fun q => q.2.2, fun q => ⟨nI_pos' hX, nI_pos' hY, q⟩⟩
theorem nI_m1 {X : Nat} (h : 0 < X) : nI X - 1 = nI (X - 1) := by
  cases X with
  | zero => omega
  | succ X => rw [nI_pred]; rfl

set_option maxRecDepth 100000 in
theorem l_X11_isFree {E : xE} {M : xMem} {W H X Y w h : Nat} {o : Nat → Nat → Prop} (hM : xNT ≤ xN M) (hW : xWire M.2.1) (e8 : M.1 74 8 = nI W) (e9 : M.1 74 9 = nI H) (hW16 : W ≤ 16) (hH16 : H ≤ 16) (hg : gdM M o) (hX : X ≤ 64) (hY : Y ≤ 64) (hw : w ≤ 64) (hh : h ≤ 64) (hxw : X + w ≤ W) (hyh : Y + h ≤ H) : PR E mX11_isFree (xN M) 34 [some (.ref 74), some (.int (nI X)), some (.int (nI Y)), some (.int (nI w)), some (.int (nI h)), some (.int (nI Y)), none] [] M (fun r m => r = some (.int (zc (gFree W H o X Y w h))) ∧ m = M) := by
  refine px_for (P := fun i1 => (∀ i j, X ≤ i → i < X + w → Y ≤ j → j < Y + i1 → ¬ o i j) → PR E mX11_isFree (xN M) 34 [some (.ref 74), some (.int (nI X)), some (.int (nI Y)), some (.int (nI w)), some (.int (nI h)), some (.int (nI (Y + i1))), none] [] M (fun r m => r = some (.int (zc (gFree W H o X Y w h))) ∧ m = M)) h (fun i1 hi nx => ?_) 0 (Nat.zero_le _) (fun i j h1 h2 h3 h4 => by omega)
  intro hJ
  refine px_iload dX11_isFree_34 rfl ?_
  refine px_iload_n dX11_isFree_36 rfl rfl ?_
  refine px_iload dX11_isFree_37 rfl ?_
  refine px_iadd dX11_isFree_39 ?_
  refine px_top (nI_add Y h) ?_
  refine px_icmp_ge 86 dX11_isFree_40 rfl (fun h40 => ?_) (fun h40 => ?_)
  · have hi2 : i1 = h := by rw [nI_leI (by omega) (by omega)] at h40; omega
    refine px_iconst dX11_isFree_86 ic_1 ?_
    exact px_zret dX11_isFree_87 rfl (by first | rfl | exact zb_nar) ⟨z1c ⟨hxw, hyh, by rw [← hi2]; exact hJ⟩, rfl⟩ (rfl)
  · have hlt : i1 < h := by rw [nI_leI (by omega) (by omega)] at h40; omega
    refine px_iload_n dX11_isFree_43 rfl rfl ?_
    refine px_si_6 dX11_isFree_44 rfl ?_
    refine px_for (P := fun k => (∀ i, X ≤ i → i < X + k → ¬ o i (Y + i1)) → PR E mX11_isFree (xN M) 46 [some (.ref 74), some (.int (nI X)), some (.int (nI Y)), some (.int (nI w)), some (.int (nI h)), some (.int (nI (Y + i1))), some (.int (nI (X + k)))] [] M (fun r m => r = some (.int (zc (gFree W H o X Y w h))) ∧ m = M)) (w) (fun k hk nk => ?_) 0 (Nat.zero_le _) (fun i h1 h2 => by omega)
    intro hK
    refine px_iload dX11_isFree_46 rfl ?_
    refine px_iload_n dX11_isFree_48 rfl rfl ?_
    refine px_iload_n dX11_isFree_49 rfl rfl ?_
    refine px_iadd dX11_isFree_50 ?_
    refine px_top (nI_add X w) ?_
    refine px_icmp_ge 80 dX11_isFree_51 rfl (fun h51 => ?_) (fun h51 => ?_)
    · have hke : k = w := by rw [nI_leI (by omega) (by omega)] at h51; omega
      subst hke
      refine px_inc_5 dX11_isFree_80 rfl ic_1 ?_
      refine px_goto 34 dX11_isFree_83 rfl ?_
      rw [nI_1]
      exact px_forget (by repeat' constructor) (nx hlt (fun i j a1 a2 a3 a4 => by
        by_cases e : j = Y + i1
        · subst e; exact hK i a1 a2
        · exact hJ i j a1 a2 a3 (by omega)))
    · have hkl : k < w := by rw [nI_leI (by omega) (by omega)] at h51; omega
      refine px_aload_n dX11_isFree_54 rfl rfl ?_
      refine px_getR dX11_isFree_55 fX11_41 (xol rfl) hM rfl (wr_11_26 hW (xol rfl)) (Nat.succ_pos _) ?_
      refine px_bipush dX11_isFree_58 bp_16 ?_
      refine px_iload dX11_isFree_60 rfl ?_
      refine px_imul dX11_isFree_62 ?_
      refine px_iload dX11_isFree_63 rfl ?_
      refine px_iadd dX11_isFree_65 ?_
      refine px_top (y := nI (16 * (Y + i1) + (X + k))) (ixA 16 (Y + i1) (X + k)) ?_
      refine px_iald dX11_isFree_66 (xal (n := 256) rfl) hM (vp_in_nI (by omega) (by decide)) ?_
      refine px_top (y := M.1 85 (16 * (Y + i1) + (X + k))) (by rw [nI_clamp (by omega)]) ?_
      refine px_bipush dX11_isFree_67 bp_m9 ?_
      refine px_icmp_eq 74 dX11_isFree_69 rfl (fun h69 => ?_) (fun h69 => ?_)
      · refine px_inc_6 dX11_isFree_74 rfl ic_1 ?_
        refine px_goto 46 dX11_isFree_77 rfl ?_
        have hno := (hg (X + k) (Y + i1) (by omega) (by omega)).mp h69
        rw [nI_1]
        exact nk hkl (fun i a1 a2 => by
          by_cases e : i = X + k
          · subst e; exact hno
          · exact hK i a1 (by omega))
      · refine px_iconst dX11_isFree_72 ic_0 ?_
        exact px_zret dX11_isFree_73 rfl (by first | rfl | exact zb_nar) ⟨z0c (fun q => h69 ((hg (X + k) (Y + i1) (by omega) (by omega)).mpr (q.2.2 (X + k) (Y + i1) (by omega) (by omega) (by omega) (by omega)))), rfl⟩ (rfl)

set_option maxRecDepth 100000 in
theorem c_X11_isFree {E : xE} {M : xMem} {W H w h : Nat} {x y : Int32} {o : Nat → Nat → Prop} (hM : xNT ≤ xN M) (hW : xWire M.2.1) (e8 : M.1 74 8 = nI W) (e9 : M.1 74 9 = nI H) (hW16 : W ≤ 16) (hH16 : H ≤ 16) (hg : gdM M o) (hx : x ≤ 64) (hy : y ≤ 64) (hw : w ≤ 64) (hh : h ≤ 64) : Cf E mX11_isFree [.ref 74, .int x, .int y, .int (nI w), .int (nI h)] M (some (.int (zc (fI W H o x y w h)))) M := by
  refine Ct.of (lo := [some (.ref 74), some (.int x), some (.int y), some (.int (nI w)), some (.int (nI h)), none, none]) pln_X11 (Nat.le_of_ble_eq_true rfl) rfl (Nat.le_refl _) ?_
  have hX : x.toNatClampNeg ≤ 64 := n_lt (k := 64) rfl hx
  have hY : y.toNatClampNeg ≤ 64 := n_lt (k := 64) rfl hy
  refine px_iload_n dX11_isFree_0 rfl rfl ?_
  refine px_if_lt 29 dX11_isFree_1 rfl (fun h1 => ?_) (fun h1 => ?_)
  · refine px_iconst dX11_isFree_29 ic_0 ?_
    exact px_zret dX11_isFree_30 rfl (by first | rfl | exact zb_nar) (by first | exact ⟨z0c (fun q => i_n0 q.1 h1), rfl⟩ | exact ⟨z0c (fun q => i_n0 q.2.1 h5), rfl⟩ | exact ⟨z0c (fun q => by have := q.2.2.1; rw [← i_cl (i_n0 q.1), nI_add, nI_ltI (by omega) (by omega)] at h15; omega), rfl⟩ | exact ⟨z0c (fun q => by have := q.2.2.2.1; rw [← i_cl (i_n0 q.2.1), nI_add, nI_leI (by omega) (by omega)] at h26; omega), rfl⟩ | trivial) (rfl)
  · refine px_iload_n dX11_isFree_4 rfl rfl ?_
    refine px_if_lt 29 dX11_isFree_5 rfl (fun h5 => ?_) (fun h5 => ?_)
    · refine px_iconst dX11_isFree_29 ic_0 ?_
      exact px_zret dX11_isFree_30 rfl (by first | rfl | exact zb_nar) (by first | exact ⟨z0c (fun q => i_n0 q.1 h1), rfl⟩ | exact ⟨z0c (fun q => i_n0 q.2.1 h5), rfl⟩ | exact ⟨z0c (fun q => by have := q.2.2.1; rw [← i_cl (i_n0 q.1), nI_add, nI_ltI (by omega) (by omega)] at h15; omega), rfl⟩ | exact ⟨z0c (fun q => by have := q.2.2.2.1; rw [← i_cl (i_n0 q.2.1), nI_add, nI_leI (by omega) (by omega)] at h26; omega), rfl⟩ | trivial) (rfl)
    · refine px_iload_n dX11_isFree_8 rfl rfl ?_
      refine px_iload_n dX11_isFree_9 rfl rfl ?_
      refine px_iadd dX11_isFree_10 ?_
      refine px_aload_n dX11_isFree_11 rfl rfl ?_
      refine px_getI dX11_isFree_12 fX11_170 (xol rfl) hM rfl ?_
      refine px_top e8 ?_
      refine px_icmp_gt 29 dX11_isFree_15 rfl (fun h15 => ?_) (fun h15 => ?_)
      · refine px_iconst dX11_isFree_29 ic_0 ?_
        exact px_zret dX11_isFree_30 rfl (by first | rfl | exact zb_nar) (by first | exact ⟨z0c (fun q => i_n0 q.1 h1), rfl⟩ | exact ⟨z0c (fun q => i_n0 q.2.1 h5), rfl⟩ | exact ⟨z0c (fun q => by have := q.2.2.1; rw [← i_cl (i_n0 q.1), nI_add, nI_ltI (by omega) (by omega)] at h15; omega), rfl⟩ | exact ⟨z0c (fun q => by have := q.2.2.2.1; rw [← i_cl (i_n0 q.2.1), nI_add, nI_leI (by omega) (by omega)] at h26; omega), rfl⟩ | trivial) (rfl)
      · refine px_iload_n dX11_isFree_18 rfl rfl ?_
        refine px_iload dX11_isFree_19 rfl ?_
        refine px_iadd dX11_isFree_21 ?_
        refine px_aload_n dX11_isFree_22 rfl rfl ?_
        refine px_getI dX11_isFree_23 fX11_173 (xol rfl) hM rfl ?_
        refine px_top e9 ?_
        refine px_icmp_le 31 dX11_isFree_26 rfl (fun h26 => ?_) (fun h26 => ?_)
        · refine px_iload_n dX11_isFree_31 rfl rfl ?_
          refine px_si_5 dX11_isFree_32 rfl ?_
          rw [← i_cl h1, nI_add, nI_ltI (by omega) (by omega)] at h15
          rw [← i_cl h5, nI_add, nI_leI (by omega) (by omega)] at h26
          have k := l_X11_isFree (E := E) (X := x.toNatClampNeg) (Y := y.toNatClampNeg) (w := w) (h := h) hM hW e8 e9 hW16 hH16 hg hX hY hw hh (by omega) (by omega)
          rw [i_cl h1, i_cl h5] at k
          exact px_q (fun _ _ q => ⟨by rw [q.1]; congr 2; exact zc_c ⟨fun z => ⟨nz_ge h1, nz_ge h5, z⟩, fun z => z.2.2⟩, q.2⟩) k
        · refine px_iconst dX11_isFree_29 ic_0 ?_
          exact px_zret dX11_isFree_30 rfl (by first | rfl | exact zb_nar) (by first | exact ⟨z0c (fun q => i_n0 q.1 h1), rfl⟩ | exact ⟨z0c (fun q => i_n0 q.2.1 h5), rfl⟩ | exact ⟨z0c (fun q => by have := q.2.2.1; rw [← i_cl (i_n0 q.1), nI_add, nI_ltI (by omega) (by omega)] at h15; omega), rfl⟩ | exact ⟨z0c (fun q => by have := q.2.2.2.1; rw [← i_cl (i_n0 q.2.1), nI_add, nI_leI (by omega) (by omega)] at h26; omega), rfl⟩ | trivial) (rfl)

theorem le64 {n : Nat} (h : n ≤ 64) : nI n ≤ 64 := nI_le h (by decide)
theorem le64m {n : Nat} (h : n ≤ 64) : nI n - 1 ≤ 64 := by
  cases n with
  | zero => decide
  | succ n => rw [nI_pred]; exact le64 (by omega)
theorem gMax_iff {W H X Y w h : Nat} {o : Nat → Nat → Prop} (hX : X ≤ 16) (hY : Y ≤ 16) (hw : w ≤ 16) (hh : h ≤ 16) (hw0 : 0 < w) (hh0 : 0 < h) (hf : gFree W H o X Y w h) :
    (¬ fI W H o (nI X - 1) (nI Y) 1 h ∧ ¬ fI W H o (nI X) (nI Y - 1) w 1 ∧ ¬ fI W H o (nI X + nI w) (nI Y) 1 h ∧ ¬ fI W H o (nI X) (nI Y + nI h) w 1) ↔ gMax W H o (X, Y, w, h) := by
  have a1 : ¬ fI W H o (nI X - 1) (nI Y) 1 h ↔ (X = 0 ∨ ∃ j, Y ≤ j ∧ j < Y + h ∧ o (X - 1) j) := by
    by_cases h0 : X = 0
    · subst h0
      exact ⟨fun _ => Or.inl rfl, fun _ q => absurd q.1 (by decide)⟩
    · rw [nI_m1 (by omega), fI_n (by omega) (by omega)]
      constructor
      · intro q
        right
        apply Classical.byContradiction
        intro z
        refine q ⟨by have := hf.1; omega, hf.2.1, fun i j i1 i2 j1 j2 oo => z ⟨j, j1, j2, ?_⟩⟩
        have : i = X - 1 := by omega
        rw [← this]; exact oo
      · rintro (q | ⟨j, j1, j2, j3⟩) z
        · exact h0 q
        · exact z.2.2 (X - 1) j (Nat.le_refl _) (by omega) j1 j2 j3
  have a2 : ¬ fI W H o (nI X) (nI Y - 1) w 1 ↔ (Y = 0 ∨ ∃ i, X ≤ i ∧ i < X + w ∧ o i (Y - 1)) := by
    by_cases h0 : Y = 0
    · subst h0
      exact ⟨fun _ => Or.inl rfl, fun _ q => absurd q.2.1 (by decide)⟩
    · rw [nI_m1 (by omega), fI_n (by omega) (by omega)]
      constructor
      · intro q
        right
        apply Classical.byContradiction
        intro z
        refine q ⟨hf.1, by have := hf.2.1; omega, fun i j i1 i2 j1 j2 oo => z ⟨i, i1, i2, ?_⟩⟩
        have : j = Y - 1 := by omega
        rw [← this]; exact oo
      · rintro (q | ⟨i, i1, i2, i3⟩) z
        · exact h0 q
        · exact z.2.2 i (Y - 1) i1 i2 (Nat.le_refl _) (by omega) i3
  have a3 : ¬ fI W H o (nI X + nI w) (nI Y) 1 h ↔ (X + w = W ∨ ∃ j, Y ≤ j ∧ j < Y + h ∧ o (X + w) j) := by
    rw [nI_add, fI_n (by omega) (by omega)]
    by_cases h0 : X + w = W
    · exact ⟨fun _ => Or.inl h0, fun _ q => by have := q.1; omega⟩
    · constructor
      · intro q
        right
        apply Classical.byContradiction
        intro z
        refine q ⟨by have := hf.1; omega, hf.2.1, fun i j i1 i2 j1 j2 oo => z ⟨j, j1, j2, ?_⟩⟩
        have : i = X + w := by omega
        rw [← this]; exact oo
      · rintro (q | ⟨j, j1, j2, j3⟩) z
        · exact h0 q
        · exact z.2.2 (X + w) j (Nat.le_refl _) (by omega) j1 j2 j3
  have a4 : ¬ fI W H o (nI X) (nI Y + nI h) w 1 ↔ (Y + h = H ∨ ∃ i, X ≤ i ∧ i < X + w ∧ o i (Y + h)) := by
    rw [nI_add, fI_n (by omega) (by omega)]
    by_cases h0 : Y + h = H
    · exact ⟨fun _ => Or.inl h0, fun _ q => by have := q.2.1; omega⟩
    · constructor
      · intro q
        right
        apply Classical.byContradiction
        intro z
        refine q ⟨hf.1, by have := hf.2.1; omega, fun i j i1 i2 j1 j2 oo => z ⟨i, i1, i2, ?_⟩⟩
        have : j = Y + h := by omega
        rw [← this]; exact oo
      · rintro (q | ⟨i, i1, i2, i3⟩) z
        · exact h0 q
        · exact z.2.2 i (Y + h) i1 i2 (Nat.le_refl _) (by omega) i3
  rw [a1, a2, a3, a4]
  unfold gMax
  exact ⟨fun q => ⟨hw0, hh0, hf, q.1, q.2.1, q.2.2.1, q.2.2.2⟩, fun q => ⟨q.2.2.2.1, q.2.2.2.2.1, q.2.2.2.2.2.1, q.2.2.2.2.2.2⟩⟩

set_option maxRecDepth 100000 in
theorem c_X11_isGreatest {E : xE} {M : xMem} {W H X Y w h : Nat} {o : Nat → Nat → Prop} (hM : xNT ≤ xN M) (hW : xWire M.2.1) (e8 : M.1 74 8 = nI W) (e9 : M.1 74 9 = nI H) (hW16 : W ≤ 16) (hH16 : H ≤ 16) (hg : gdM M o) (hX : X ≤ 16) (hY : Y ≤ 16) (hw : w ≤ 16) (hh : h ≤ 16) (hw0 : 0 < w) (hh0 : 0 < h) (hf : gFree W H o X Y w h) : Cf E mX11_isGreatest [.ref 74, .int (nI X), .int (nI Y), .int (nI w), .int (nI h)] M (some (.int (zc (gMax W H o (X, Y, w, h))))) M := by
  refine Ct.of (lo := [some (.ref 74), some (.int (nI X)), some (.int (nI Y)), some (.int (nI w)), some (.int (nI h))]) pln_X11 (Nat.le_of_ble_eq_true rfl) rfl (Nat.le_refl _) ?_
  refine px_aload_n dX11_isGreatest_0 rfl rfl ?_
  refine px_iload_n dX11_isGreatest_1 rfl rfl ?_
  refine px_iconst dX11_isGreatest_2 ic_1 ?_
  refine px_isub dX11_isGreatest_3 ?_
  refine px_iload_n dX11_isGreatest_4 rfl rfl ?_
  refine px_iconst dX11_isGreatest_5 ic_1 ?_
  refine px_iload dX11_isGreatest_6 rfl ?_
  refine px_fV4i dX11_isGreatest_8 kX11_isGreatest_235 (xol rfl) hM (Nat.le_of_ble_eq_true rfl) (c_X11_isFree hM hW e8 e9 hW16 hH16 hg (w := 1) (h := h) (le64m (by omega)) (le64 (by omega)) (by omega) (by omega)) ?_
  refine px_cif_ne 59 dX11_isGreatest_11 rfl (fun h11 => ?_) (fun h11 => ?_)
  · refine px_iconst dX11_isGreatest_59 ic_0 ?_
    exact px_zret dX11_isGreatest_60 rfl (by first | rfl | exact zb_nar) (by first | exact ⟨z1c ((gMax_iff hX hY hw hh hw0 hh0 hf).mp ⟨h11, h24, h38, h52⟩), rfl⟩ | exact ⟨z0c (fun q => ((gMax_iff hX hY hw hh hw0 hh0 hf).mpr q).1 h11), rfl⟩ | exact ⟨z0c (fun q => ((gMax_iff hX hY hw hh hw0 hh0 hf).mpr q).2.1 h24), rfl⟩ | exact ⟨z0c (fun q => ((gMax_iff hX hY hw hh hw0 hh0 hf).mpr q).2.2.1 h38), rfl⟩ | exact ⟨z0c (fun q => ((gMax_iff hX hY hw hh hw0 hh0 hf).mpr q).2.2.2 h52), rfl⟩ | trivial) (rfl)
  · refine px_aload_n dX11_isGreatest_14 rfl rfl ?_
    refine px_iload_n dX11_isGreatest_15 rfl rfl ?_
    refine px_iload_n dX11_isGreatest_16 rfl rfl ?_
    refine px_iconst dX11_isGreatest_17 ic_1 ?_
    refine px_isub dX11_isGreatest_18 ?_
    refine px_iload_n dX11_isGreatest_19 rfl rfl ?_
    refine px_iconst dX11_isGreatest_20 ic_1 ?_
    refine px_fV4i dX11_isGreatest_21 kX11_isGreatest_235 (xol rfl) hM (Nat.le_of_ble_eq_true rfl) (c_X11_isFree hM hW e8 e9 hW16 hH16 hg (w := w) (h := 1) (le64 (by omega)) (le64m (by omega)) (by omega) (by omega)) ?_
    refine px_cif_ne 59 dX11_isGreatest_24 rfl (fun h24 => ?_) (fun h24 => ?_)
    · refine px_iconst dX11_isGreatest_59 ic_0 ?_
      exact px_zret dX11_isGreatest_60 rfl (by first | rfl | exact zb_nar) (by first | exact ⟨z1c ((gMax_iff hX hY hw hh hw0 hh0 hf).mp ⟨h11, h24, h38, h52⟩), rfl⟩ | exact ⟨z0c (fun q => ((gMax_iff hX hY hw hh hw0 hh0 hf).mpr q).1 h11), rfl⟩ | exact ⟨z0c (fun q => ((gMax_iff hX hY hw hh hw0 hh0 hf).mpr q).2.1 h24), rfl⟩ | exact ⟨z0c (fun q => ((gMax_iff hX hY hw hh hw0 hh0 hf).mpr q).2.2.1 h38), rfl⟩ | exact ⟨z0c (fun q => ((gMax_iff hX hY hw hh hw0 hh0 hf).mpr q).2.2.2 h52), rfl⟩ | trivial) (rfl)
    · refine px_aload_n dX11_isGreatest_27 rfl rfl ?_
      refine px_iload_n dX11_isGreatest_28 rfl rfl ?_
      refine px_iload_n dX11_isGreatest_29 rfl rfl ?_
      refine px_iadd dX11_isGreatest_30 ?_
      refine px_iload_n dX11_isGreatest_31 rfl rfl ?_
      refine px_iconst dX11_isGreatest_32 ic_1 ?_
      refine px_iload dX11_isGreatest_33 rfl ?_
      refine px_fV4i dX11_isGreatest_35 kX11_isGreatest_235 (xol rfl) hM (Nat.le_of_ble_eq_true rfl) (c_X11_isFree hM hW e8 e9 hW16 hH16 hg (w := 1) (h := h) (by rw [nI_add]; exact le64 (by omega)) (le64 (by omega)) (by omega) (by omega)) ?_
      refine px_cif_ne 59 dX11_isGreatest_38 rfl (fun h38 => ?_) (fun h38 => ?_)
      · refine px_iconst dX11_isGreatest_59 ic_0 ?_
        exact px_zret dX11_isGreatest_60 rfl (by first | rfl | exact zb_nar) (by first | exact ⟨z1c ((gMax_iff hX hY hw hh hw0 hh0 hf).mp ⟨h11, h24, h38, h52⟩), rfl⟩ | exact ⟨z0c (fun q => ((gMax_iff hX hY hw hh hw0 hh0 hf).mpr q).1 h11), rfl⟩ | exact ⟨z0c (fun q => ((gMax_iff hX hY hw hh hw0 hh0 hf).mpr q).2.1 h24), rfl⟩ | exact ⟨z0c (fun q => ((gMax_iff hX hY hw hh hw0 hh0 hf).mpr q).2.2.1 h38), rfl⟩ | exact ⟨z0c (fun q => ((gMax_iff hX hY hw hh hw0 hh0 hf).mpr q).2.2.2 h52), rfl⟩ | trivial) (rfl)
      · refine px_aload_n dX11_isGreatest_41 rfl rfl ?_
        refine px_iload_n dX11_isGreatest_42 rfl rfl ?_
        refine px_iload_n dX11_isGreatest_43 rfl rfl ?_
        refine px_iload dX11_isGreatest_44 rfl ?_
        refine px_iadd dX11_isGreatest_46 ?_
        refine px_iload_n dX11_isGreatest_47 rfl rfl ?_
        refine px_iconst dX11_isGreatest_48 ic_1 ?_
        refine px_fV4i dX11_isGreatest_49 kX11_isGreatest_235 (xol rfl) hM (Nat.le_of_ble_eq_true rfl) (c_X11_isFree hM hW e8 e9 hW16 hH16 hg (w := w) (h := 1) (le64 (by omega)) (by rw [nI_add]; exact le64 (by omega)) (by omega) (by omega)) ?_
        refine px_cif_ne 59 dX11_isGreatest_52 rfl (fun h52 => ?_) (fun h52 => ?_)
        · refine px_iconst dX11_isGreatest_59 ic_0 ?_
          exact px_zret dX11_isGreatest_60 rfl (by first | rfl | exact zb_nar) (by first | exact ⟨z1c ((gMax_iff hX hY hw hh hw0 hh0 hf).mp ⟨h11, h24, h38, h52⟩), rfl⟩ | exact ⟨z0c (fun q => ((gMax_iff hX hY hw hh hw0 hh0 hf).mpr q).1 h11), rfl⟩ | exact ⟨z0c (fun q => ((gMax_iff hX hY hw hh hw0 hh0 hf).mpr q).2.1 h24), rfl⟩ | exact ⟨z0c (fun q => ((gMax_iff hX hY hw hh hw0 hh0 hf).mpr q).2.2.1 h38), rfl⟩ | exact ⟨z0c (fun q => ((gMax_iff hX hY hw hh hw0 hh0 hf).mpr q).2.2.2 h52), rfl⟩ | trivial) (rfl)
        · refine px_iconst dX11_isGreatest_55 ic_1 ?_
          refine px_goto 60 dX11_isGreatest_56 rfl ?_
          exact px_zret dX11_isGreatest_60 rfl (by first | rfl | exact zb_nar) (by first | exact ⟨z1c ((gMax_iff hX hY hw hh hw0 hh0 hf).mp ⟨h11, h24, h38, h52⟩), rfl⟩ | exact ⟨z0c (fun q => ((gMax_iff hX hY hw hh hw0 hh0 hf).mpr q).1 h11), rfl⟩ | exact ⟨z0c (fun q => ((gMax_iff hX hY hw hh hw0 hh0 hf).mpr q).2.1 h24), rfl⟩ | exact ⟨z0c (fun q => ((gMax_iff hX hY hw hh hw0 hh0 hf).mpr q).2.2.1 h38), rfl⟩ | exact ⟨z0c (fun q => ((gMax_iff hX hY hw hh hw0 hh0 hf).mpr q).2.2.2 h52), rfl⟩ | trivial) (rfl)
