theorem i64_toInt (x : Int32) : x.toInt64.toInt = x.toInt := Int32.toInt_toInt64 x
theorem i64_add (x y : Int32) : (x.toInt64 + y.toInt64).toInt = x.toInt + y.toInt := by
  rw [Int64.toInt_add, i64_toInt, i64_toInt]
  have h1 := x.toInt_lt; have h2 := y.toInt_lt; have h3 := x.le_toInt; have h4 := y.le_toInt
  rw [Int.bmod_eq_of_le] <;> omega
theorem lg_gt2 {x y : Int64} (h : ¬ lg_cmp x y ≤ 0) : 0 < lg_cmp x y := by
  simp only [Int32.le_iff_toInt_le, Int32.lt_iff_toInt_lt] at *; omega
/-- (long) i + n > size, said as the class says it -/
theorem cp_iff {i n : Int32} {S : Nat} (hS : S < 2 ^ 31) (hi : ¬ i < 0) (hn : 0 ≤ n) : 0 < lg_cmp (i.toInt64 + n.toInt64) (nI S).toInt64 ↔ ¬ (0 ≤ i ∧ i ≤ nI S ∧ n ≤ nI S - i) := by
  rw [lg_cmp_gt, Int64.lt_iff_toInt_lt, i64_add, i64_toInt]
  obtain ⟨j, hj, rfl⟩ := nI_of hi
  obtain ⟨k, hk, rfl⟩ := nI_of (n_le hn)
  rw [nI_toInt hj, nI_toInt hk, nI_toInt hS, nI_leI hj hS]
  by_cases h : j ≤ S
  · rw [pk_sub h, nI_leI hk (by omega)]
    have := nI_pos' hj
    simp only [this, h, true_and]
    omega
  · simp only [h, false_and, and_false, not_false_iff, iff_true]
    omega

def mcpM (M : xMem) (b p : Nat) (f : Nat → Int32) (n : Nat) : xMem := wF M b (fun q => if p ≤ q ∧ q < p + n then f (q - p) else M.1 b q)
theorem mcp_0 (M : xMem) (b p : Nat) (f : Nat → Int32) : mcpM M b p f 0 = M := by
  unfold mcpM
  have : (fun j => if p ≤ j ∧ j < p + 0 then f (j - p) else M.1 b j) = M.1 b := by funext j; rw [if_neg (by omega)]
  rw [this, wF_id]
theorem mcp_s (M : xMem) (b p : Nat) (f : Nat → Int32) (n : Nat) : wI (mcpM M b p f n) b (p + n) (f n) = mcpM M b p f (n + 1) := by
  unfold mcpM
  rw [wI_wF]
  congr 1
  funext q
  by_cases h : q = p + n
  · rw [if_pos h, if_pos (by omega), h, Nat.add_sub_cancel_left]
  · rw [if_neg h]
    by_cases h2 : p ≤ q ∧ q < p + n
    · rw [if_pos h2, if_pos (by omega)]
    · rw [if_neg h2, if_neg (by omega)]
theorem mcp_at (M : xMem) (b p : Nat) (f : Nat → Int32) (n : Nat) {c : Nat} (h : c ≠ b) : (mcpM M b p f n).1 c = M.1 c := by
  unfold mcpM; rw [xI_wF, if_neg h]
theorem mcp_self (M : xMem) (b p : Nat) (f : Nat → Int32) {n k : Nat} (h : k < n) : (mcpM M b p f n).1 b (p + k) = f k := by
  unfold mcpM; rw [xI_wF, if_pos rfl, if_pos (by omega), Nat.add_sub_cancel_left]

set_option maxRecDepth 100000 in
theorem l_X11_copy2 {E : xE} {M : xMem} {r u to w n : Int32} {N : Nat} (hM : xNT ≤ xN M) (hW : xWire M.2.1) (h1 : 0 ≤ r) (rl : r.toNatClampNeg ≤ 5) (h2 : 0 ≤ u) (hN : n = nI N) (hb : u.toNatClampNeg + N ≤ 40) (g1 : 0 ≤ to) (tol : to.toNatClampNeg ≤ 5) (g2 : 0 ≤ w) (hb2 : w.toNatClampNeg + N ≤ 40) : PR E mX11_copy (xN M) 136 [some (.ref 74), some (.int r), some (.int u), some (.int to), some (.int w), some (.int n), some (.int (nI 0))] [] (mcpM (mcpM M 78 0 (fun k => M.1 77 (40 * r.toNatClampNeg + u.toNatClampNeg + k)) N) 77 (40 * to.toNatClampNeg + w.toNatClampNeg) (fun k => M.1 77 (40 * r.toNatClampNeg + u.toNatClampNeg + k)) 0) (fun r' m => r' = some (.int 1) ∧ m = mcpM (mcpM M 78 0 (fun k => M.1 77 (40 * r.toNatClampNeg + u.toNatClampNeg + k)) N) 77 (40 * to.toNatClampNeg + w.toNatClampNeg) (fun k => M.1 77 (40 * r.toNatClampNeg + u.toNatClampNeg + k)) N) := by
  have hN31 : N < 2 ^ 31 := by omega
  refine px_for (P := fun i => PR E mX11_copy (xN M) 136 [some (.ref 74), some (.int r), some (.int u), some (.int to), some (.int w), some (.int n), some (.int (nI i))] [] (mcpM (mcpM M 78 0 (fun k => M.1 77 (40 * r.toNatClampNeg + u.toNatClampNeg + k)) N) 77 (40 * to.toNatClampNeg + w.toNatClampNeg) (fun k => M.1 77 (40 * r.toNatClampNeg + u.toNatClampNeg + k)) i) (fun r' m => r' = some (.int 1) ∧ m = mcpM (mcpM M 78 0 (fun k => M.1 77 (40 * r.toNatClampNeg + u.toNatClampNeg + k)) N) 77 (40 * to.toNatClampNeg + w.toNatClampNeg) (fun k => M.1 77 (40 * r.toNatClampNeg + u.toNatClampNeg + k)) N)) (N) (fun i hi nx => ?_) (0) (by omega)
  refine px_iload dX11_copy_136 rfl ?_
  refine px_iload dX11_copy_138 rfl ?_
  refine px_icmp_ge 171 dX11_copy_140 rfl (fun h140 => ?_) (fun h140 => ?_)
  · have hi2 : i = N := by rw [hN, nI_leI (by omega) (by omega)] at h140; omega
    refine px_iconst dX11_copy_171 ic_1 ?_
    exact px_iret dX11_copy_172 rfl ⟨rfl, by rw [hi2]⟩ (rfl)
  · have hlt : i < N := by rw [hN, nI_leI (by omega) (by omega)] at h140; omega
    refine px_aload_n dX11_copy_143 rfl rfl ?_
    refine px_getR dX11_copy_144 fX11_16 (xol rfl) hM rfl (wr_11_4 hW (xol rfl)) (Nat.succ_pos _) ?_
    refine px_bipush dX11_copy_147 bp_40 ?_
    refine px_iload_n dX11_copy_149 rfl rfl ?_
    refine px_imul dX11_copy_150 ?_
    refine px_iload dX11_copy_151 rfl ?_
    refine px_iadd dX11_copy_153 ?_
    refine px_iload dX11_copy_154 rfl ?_
    refine px_iadd dX11_copy_156 ?_
    refine px_top (y := nI (40 * to.toNatClampNeg + w.toNatClampNeg + i)) (by rw [show (40 : Int32) = nI 40 from rfl, ix_ma g1 g2, nI_add]) ?_
    refine px_aload_n dX11_copy_157 rfl rfl ?_
    refine px_getR dX11_copy_158 fX11_19 (xol rfl) hM rfl (wr_11_5 hW (xol rfl)) (Nat.succ_pos _) ?_
    refine px_iload dX11_copy_161 rfl ?_
    refine px_iald dX11_copy_163 (xal (n := 40) rfl) hM (vp_in_nI (by omega) (by decide)) ?_
    refine px_top (y := M.1 77 (40 * r.toNatClampNeg + u.toNatClampNeg + i)) (by rw [nI_clamp (by omega), mcp_at _ _ _ _ _ (by decide)]; have := mcp_self M 78 0 (fun k => M.1 77 (40 * r.toNatClampNeg + u.toNatClampNeg + k)) hlt; rw [Nat.zero_add] at this; exact this) ?_
    refine px_iast dX11_copy_164 (xal (n := 240) rfl) hM (vp_in_nI (by omega) (by decide)) ?_
    refine px_inc_6 dX11_copy_165 rfl ic_1 ?_
    refine px_goto 136 dX11_copy_168 rfl ?_
    exact px_eq (by rw [nI_1]) (by rw [nI_clamp (by omega)]; exact mcp_s _ _ _ (fun k => M.1 77 (40 * r.toNatClampNeg + u.toNatClampNeg + k)) _) (nx hlt)

set_option maxRecDepth 100000 in
theorem l_X11_copy1 {E : xE} {M : xMem} {r u to w n : Int32} {N : Nat} (hM : xNT ≤ xN M) (hW : xWire M.2.1) (h1 : 0 ≤ r) (rl : r.toNatClampNeg ≤ 5) (h2 : 0 ≤ u) (hN : n = nI N) (hb : u.toNatClampNeg + N ≤ 40) (g1 : 0 ≤ to) (tol : to.toNatClampNeg ≤ 5) (g2 : 0 ≤ w) (hb2 : w.toNatClampNeg + N ≤ 40) : PR E mX11_copy (xN M) 104 [some (.ref 74), some (.int r), some (.int u), some (.int to), some (.int w), some (.int n), some (.int (nI 0))] [] (mcpM M 78 0 (fun k => M.1 77 (40 * r.toNatClampNeg + u.toNatClampNeg + k)) 0) (fun r' m => r' = some (.int 1) ∧ m = mcpM (mcpM M 78 0 (fun k => M.1 77 (40 * r.toNatClampNeg + u.toNatClampNeg + k)) N) 77 (40 * to.toNatClampNeg + w.toNatClampNeg) (fun k => M.1 77 (40 * r.toNatClampNeg + u.toNatClampNeg + k)) N) := by
  have hN31 : N < 2 ^ 31 := by omega
  refine px_for (P := fun i => PR E mX11_copy (xN M) 104 [some (.ref 74), some (.int r), some (.int u), some (.int to), some (.int w), some (.int n), some (.int (nI i))] [] (mcpM M 78 0 (fun k => M.1 77 (40 * r.toNatClampNeg + u.toNatClampNeg + k)) i) (fun r' m => r' = some (.int 1) ∧ m = mcpM (mcpM M 78 0 (fun k => M.1 77 (40 * r.toNatClampNeg + u.toNatClampNeg + k)) N) 77 (40 * to.toNatClampNeg + w.toNatClampNeg) (fun k => M.1 77 (40 * r.toNatClampNeg + u.toNatClampNeg + k)) N)) (N) (fun i hi nx => ?_) (0) (by omega)
  refine px_iload dX11_copy_104 rfl ?_
  refine px_iload dX11_copy_106 rfl ?_
  refine px_icmp_ge 133 dX11_copy_108 rfl (fun h108 => ?_) (fun h108 => ?_)
  · have hi2 : i = N := by rw [hN, nI_leI (by omega) (by omega)] at h108; omega
    subst hi2
    refine px_iconst dX11_copy_133 ic_0 ?_
    refine px_si_6 dX11_copy_134 rfl ?_
    have k := l_X11_copy2 (E := E) (u := u) (w := w) hM hW h1 rl h2 hN hb g1 tol g2 hb2
    rw [mcp_0] at k
    exact k
  · have hlt : i < N := by rw [hN, nI_leI (by omega) (by omega)] at h108; omega
    refine px_aload_n dX11_copy_111 rfl rfl ?_
    refine px_getR dX11_copy_112 fX11_19 (xol rfl) hM rfl (wr_11_5 hW (xol rfl)) (Nat.succ_pos _) ?_
    refine px_iload dX11_copy_115 rfl ?_
    refine px_aload_n dX11_copy_117 rfl rfl ?_
    refine px_iload_n dX11_copy_118 rfl rfl ?_
    refine px_iload_n dX11_copy_119 rfl rfl ?_
    refine px_iload dX11_copy_120 rfl ?_
    refine px_iadd dX11_copy_122 ?_
    refine px_top (y := nI (u.toNatClampNeg + i)) (by rw [← nI_add, i_cl (i_n0 h2)]) ?_
    refine px_fV2i dX11_copy_123 kX11_copy_87 (xol rfl) hM (Nat.le_of_ble_eq_true rfl) (c_X11_rowAt (i := nI (u.toNatClampNeg + i)) hM hW h1 (nI_pos' (by omega)) (by rw [nI_clamp (by omega)]; omega)) ?_
    refine px_top (y := M.1 77 (40 * r.toNatClampNeg + u.toNatClampNeg + i)) (by rw [nI_clamp (by omega), mcp_at _ _ _ _ _ (by decide), Nat.add_assoc]) ?_
    refine px_iast dX11_copy_126 (xal (n := 40) rfl) hM (vp_in_nI (by omega) (by decide)) ?_
    refine px_inc_6 dX11_copy_127 rfl ic_1 ?_
    refine px_goto 104 dX11_copy_130 rfl ?_
    exact px_eq (by rw [nI_1]) (by rw [nI_clamp (by omega)]; have := mcp_s M 78 0 (fun k => M.1 77 (40 * r.toNatClampNeg + u.toNatClampNeg + k)) i; rw [Nat.zero_add] at this; exact this) (nx hlt)

set_option maxRecDepth 100000 in
theorem c_X11_copy {E : xE} {M : xMem} {r u to w n : Int32} (hM : xNT ≤ xN M) (hW : xWire M.2.1) (hz : mszOK M) : Cf E mX11_copy [.ref 74, .int r, .int u, .int to, .int w, .int n] M (some (.int (if ¬ (0 ≤ r ∧ r ≤ 5) then -1 else if ¬ (0 ≤ to ∧ to ≤ 5) then -1 else if ¬ 0 ≤ n then -3 else if M.1 76 r.toNatClampNeg < 0 then -3 else if ¬ 0 ≤ M.1 76 to.toNatClampNeg then -3 else if ¬ (0 ≤ u ∧ u ≤ M.1 76 r.toNatClampNeg ∧ n ≤ M.1 76 r.toNatClampNeg - u) then -3 else if ¬ (0 ≤ w ∧ w ≤ M.1 76 to.toNatClampNeg ∧ n ≤ M.1 76 to.toNatClampNeg - w) then -3 else 1))) (if ¬ (0 ≤ r ∧ r ≤ 5) then M else if ¬ (0 ≤ to ∧ to ≤ 5) then M else if ¬ 0 ≤ n then mref M 5 else if M.1 76 r.toNatClampNeg < 0 then mref M 1 else if ¬ 0 ≤ M.1 76 to.toNatClampNeg then mref M 1 else if ¬ (0 ≤ u ∧ u ≤ M.1 76 r.toNatClampNeg ∧ n ≤ M.1 76 r.toNatClampNeg - u) then mref M 2 else if ¬ (0 ≤ w ∧ w ≤ M.1 76 to.toNatClampNeg ∧ n ≤ M.1 76 to.toNatClampNeg - w) then mref M 2 else mcpM (mcpM M 78 0 (fun k => M.1 77 (40 * r.toNatClampNeg + u.toNatClampNeg + k)) n.toNatClampNeg) 77 (40 * to.toNatClampNeg + w.toNatClampNeg) (fun k => M.1 77 (40 * r.toNatClampNeg + u.toNatClampNeg + k)) n.toNatClampNeg) := by
  refine Ct.of (lo := [some (.ref 74), some (.int r), some (.int u), some (.int to), some (.int w), some (.int n), none]) pln_X11 (Nat.le_of_ble_eq_true rfl) rfl (Nat.le_refl _) ?_
  refine px_iload_n dX11_copy_0 rfl rfl ?_
  refine px_fS1i dX11_copy_1 kX11_copy_79 (Nat.le_of_ble_eq_true rfl) (c_X11_isRow) ?_
  refine px_zif_eq 14 dX11_copy_4 rfl (fun h4 => ?_) (fun h4 => ?_)
  · refine px_iconst dX11_copy_14 ic_m1 ?_
    exact px_iret dX11_copy_15 rfl ⟨by first | rfl | (simp only [h4, not_true_eq_false, not_false_eq_true, if_true, if_false, and_self, or_true, true_or, or_false, false_or, true_and, and_true, false_and, and_false, reduceIte]), by first | rfl | (simp only [h4, not_true_eq_false, not_false_eq_true, if_true, if_false, and_self, or_true, true_or, or_false, false_or, true_and, and_true, false_and, and_false, reduceIte])⟩ (rfl)
  · refine px_iload_n dX11_copy_7 rfl rfl ?_
    refine px_fS1i dX11_copy_8 kX11_copy_79 (Nat.le_of_ble_eq_true rfl) (c_X11_isRow) ?_
    refine px_zif_ne 16 dX11_copy_11 rfl (fun h11 => ?_) (fun h11 => ?_)
    · refine px_iload dX11_copy_16 rfl ?_
      refine px_if_ge 27 dX11_copy_18 rfl (fun h18 => ?_) (fun h18 => ?_)
      · have rl : r.toNatClampNeg ≤ 5 := n_lt (k := 5) rfl h4.2
        have hri : vp_in r 6 := i_idx (n := 6) h4.1 (by have := h4.2; (simp only [Int32.le_iff_toInt_le, Int32.lt_iff_toInt_lt, ← Int32.toInt_inj, Int32.reduceToInt] at *; omega)) (by decide)
        have tol : to.toNatClampNeg ≤ 5 := n_lt (k := 5) rfl h11.2
        have hti : vp_in to 6 := i_idx (n := 6) h11.1 (by have := h11.2; (simp only [Int32.le_iff_toInt_le, Int32.lt_iff_toInt_lt, ← Int32.toInt_inj, Int32.reduceToInt] at *; omega)) (by decide)
        refine px_aload_n dX11_copy_27 rfl rfl ?_
        refine px_getR dX11_copy_28 fX11_13 (xol rfl) hM rfl (wr_11_3 hW (xol rfl)) (Nat.succ_pos _) ?_
        refine px_iload_n dX11_copy_31 rfl rfl ?_
        refine px_iald dX11_copy_32 (xal (n := 6) rfl) hM hri ?_
        refine px_if_lt 45 dX11_copy_33 rfl (fun h33 => ?_) (fun h33 => ?_)
        · refine px_aload_n dX11_copy_45 rfl rfl ?_
          refine px_iconst dX11_copy_46 ic_1 ?_
          refine px_fV1i dX11_copy_47 kX11_copy_83 (xol rfl) hM (Nat.le_of_ble_eq_true rfl) (c_X11_found hM hW (by unfold vp_in; decide)) ?_
          exact px_iret dX11_copy_50 rfl ⟨by first | rfl | (simp only [h4, h11, h18, h33, not_true_eq_false, not_false_eq_true, if_true, if_false, and_self, or_true, true_or, or_false, false_or, true_and, and_true, false_and, and_false, reduceIte]), by first | rfl | (simp only [h4, h11, h18, h33, not_true_eq_false, not_false_eq_true, if_true, if_false, and_self, or_true, true_or, or_false, false_or, true_and, and_true, false_and, and_false, reduceIte])⟩ (rfl)
        · refine px_aload_n dX11_copy_36 rfl rfl ?_
          refine px_getR dX11_copy_37 fX11_13 (xol rfl) hM rfl (wr_11_3 hW (xol rfl)) (Nat.succ_pos _) ?_
          refine px_iload_n dX11_copy_40 rfl rfl ?_
          refine px_iald dX11_copy_41 (xal (n := 6) rfl) hM hti ?_
          refine px_if_ge 51 dX11_copy_42 rfl (fun h42 => ?_) (fun h42 => ?_)
          · obtain ⟨S1, hS1, e1⟩ : ∃ n, n ≤ 40 ∧ M.1 76 r.toNatClampNeg = nI n := by
              rcases hz.1 r.toNatClampNeg (by omega) with e | e
              · rw [e] at h33; exact absurd (by decide) h33
              · exact e
            obtain ⟨S2, hS2, e2⟩ : ∃ n, n ≤ 40 ∧ M.1 76 to.toNatClampNeg = nI n := by
              rcases hz.1 to.toNatClampNeg (by omega) with e | e
              · rw [e] at h42; exact absurd h42 (by decide)
              · exact e
            refine px_iload_n dX11_copy_51 rfl rfl ?_
            refine px_if_lt 95 dX11_copy_52 rfl (fun h52 => ?_) (fun h52 => ?_)
            · refine px_aload_n dX11_copy_95 rfl rfl ?_
              refine px_iconst dX11_copy_96 ic_2 ?_
              refine px_fV1i dX11_copy_97 kX11_copy_83 (xol rfl) hM (Nat.le_of_ble_eq_true rfl) (c_X11_found hM hW (by unfold vp_in; decide)) ?_
              exact px_iret dX11_copy_100 rfl (by first | exact ⟨by rw [if_neg (not_not_intro h4), if_neg (not_not_intro h11), if_neg (not_not_intro h18), if_neg h33, if_neg (not_not_intro h42), if_pos (fun q => i_n0 q.1 h52)], by rw [if_neg (not_not_intro h4), if_neg (not_not_intro h11), if_neg (not_not_intro h18), if_neg h33, if_neg (not_not_intro h42), if_pos (fun q => i_n0 q.1 h52)]⟩ | exact ⟨by rw [if_neg (not_not_intro h4), if_neg (not_not_intro h11), if_neg (not_not_intro h18), if_neg h33, if_neg (not_not_intro h42), if_pos (show ¬ (0 ≤ w ∧ w ≤ M.1 76 to.toNatClampNeg ∧ n ≤ M.1 76 to.toNatClampNeg - w) from fun q => i_n0 q.1 h57), ite_self], by rw [if_neg (not_not_intro h4), if_neg (not_not_intro h11), if_neg (not_not_intro h18), if_neg h33, if_neg (not_not_intro h42), if_pos (show ¬ (0 ≤ w ∧ w ≤ M.1 76 to.toNatClampNeg ∧ n ≤ M.1 76 to.toNatClampNeg - w) from fun q => i_n0 q.1 h57), ite_self]⟩ | exact ⟨by rw [if_neg (not_not_intro h4), if_neg (not_not_intro h11), if_neg (not_not_intro h18), if_neg h33, if_neg (not_not_intro h42), if_pos (by rw [e1]; exact (cp_iff (by omega) h52 h18).mp h74)], by rw [if_neg (not_not_intro h4), if_neg (not_not_intro h11), if_neg (not_not_intro h18), if_neg h33, if_neg (not_not_intro h42), if_pos (by rw [e1]; exact (cp_iff (by omega) h52 h18).mp h74)]⟩ | exact ⟨by rw [if_neg (not_not_intro h4), if_neg (not_not_intro h11), if_neg (not_not_intro h18), if_neg h33, if_neg (not_not_intro h42), if_neg (by rw [e1]; exact fun q => h74 ((cp_iff (by omega) h52 h18).mpr q)), if_pos (by rw [e2]; exact (cp_iff (by omega) h57 h18).mp (lg_gt2 h92))], by rw [if_neg (not_not_intro h4), if_neg (not_not_intro h11), if_neg (not_not_intro h18), if_neg h33, if_neg (not_not_intro h42), if_neg (by rw [e1]; exact fun q => h74 ((cp_iff (by omega) h52 h18).mpr q)), if_pos (by rw [e2]; exact (cp_iff (by omega) h57 h18).mp (lg_gt2 h92))]⟩) (rfl)
            · refine px_iload dX11_copy_55 rfl ?_
              refine px_if_lt 95 dX11_copy_57 rfl (fun h57 => ?_) (fun h57 => ?_)
              · refine px_aload_n dX11_copy_95 rfl rfl ?_
                refine px_iconst dX11_copy_96 ic_2 ?_
                refine px_fV1i dX11_copy_97 kX11_copy_83 (xol rfl) hM (Nat.le_of_ble_eq_true rfl) (c_X11_found hM hW (by unfold vp_in; decide)) ?_
                exact px_iret dX11_copy_100 rfl (by first | exact ⟨by rw [if_neg (not_not_intro h4), if_neg (not_not_intro h11), if_neg (not_not_intro h18), if_neg h33, if_neg (not_not_intro h42), if_pos (fun q => i_n0 q.1 h52)], by rw [if_neg (not_not_intro h4), if_neg (not_not_intro h11), if_neg (not_not_intro h18), if_neg h33, if_neg (not_not_intro h42), if_pos (fun q => i_n0 q.1 h52)]⟩ | exact ⟨by rw [if_neg (not_not_intro h4), if_neg (not_not_intro h11), if_neg (not_not_intro h18), if_neg h33, if_neg (not_not_intro h42), if_pos (show ¬ (0 ≤ w ∧ w ≤ M.1 76 to.toNatClampNeg ∧ n ≤ M.1 76 to.toNatClampNeg - w) from fun q => i_n0 q.1 h57), ite_self], by rw [if_neg (not_not_intro h4), if_neg (not_not_intro h11), if_neg (not_not_intro h18), if_neg h33, if_neg (not_not_intro h42), if_pos (show ¬ (0 ≤ w ∧ w ≤ M.1 76 to.toNatClampNeg ∧ n ≤ M.1 76 to.toNatClampNeg - w) from fun q => i_n0 q.1 h57), ite_self]⟩ | exact ⟨by rw [if_neg (not_not_intro h4), if_neg (not_not_intro h11), if_neg (not_not_intro h18), if_neg h33, if_neg (not_not_intro h42), if_pos (by rw [e1]; exact (cp_iff (by omega) h52 h18).mp h74)], by rw [if_neg (not_not_intro h4), if_neg (not_not_intro h11), if_neg (not_not_intro h18), if_neg h33, if_neg (not_not_intro h42), if_pos (by rw [e1]; exact (cp_iff (by omega) h52 h18).mp h74)]⟩ | exact ⟨by rw [if_neg (not_not_intro h4), if_neg (not_not_intro h11), if_neg (not_not_intro h18), if_neg h33, if_neg (not_not_intro h42), if_neg (by rw [e1]; exact fun q => h74 ((cp_iff (by omega) h52 h18).mpr q)), if_pos (by rw [e2]; exact (cp_iff (by omega) h57 h18).mp (lg_gt2 h92))], by rw [if_neg (not_not_intro h4), if_neg (not_not_intro h11), if_neg (not_not_intro h18), if_neg h33, if_neg (not_not_intro h42), if_neg (by rw [e1]; exact fun q => h74 ((cp_iff (by omega) h52 h18).mpr q)), if_pos (by rw [e2]; exact (cp_iff (by omega) h57 h18).mp (lg_gt2 h92))]⟩) (rfl)
              · refine px_iload_n dX11_copy_60 rfl rfl ?_
                refine px_i2l dX11_copy_61 ?_
                refine px_iload dX11_copy_62 rfl ?_
                refine px_i2l dX11_copy_64 ?_
                refine px_ladd dX11_copy_65 ?_
                refine px_aload_n dX11_copy_66 rfl rfl ?_
                refine px_getR dX11_copy_67 fX11_13 (xol rfl) hM rfl (wr_11_3 hW (xol rfl)) (Nat.succ_pos _) ?_
                refine px_iload_n dX11_copy_70 rfl rfl ?_
                refine px_iald dX11_copy_71 (xal (n := 6) rfl) hM hri ?_
                refine px_top e1 ?_
                refine px_i2l dX11_copy_72 ?_
                refine px_lcmp dX11_copy_73 ?_
                refine px_if_gt 95 dX11_copy_74 rfl (fun h74 => ?_) (fun h74 => ?_)
                · refine px_aload_n dX11_copy_95 rfl rfl ?_
                  refine px_iconst dX11_copy_96 ic_2 ?_
                  refine px_fV1i dX11_copy_97 kX11_copy_83 (xol rfl) hM (Nat.le_of_ble_eq_true rfl) (c_X11_found hM hW (by unfold vp_in; decide)) ?_
                  exact px_iret dX11_copy_100 rfl (by first | exact ⟨by rw [if_neg (not_not_intro h4), if_neg (not_not_intro h11), if_neg (not_not_intro h18), if_neg h33, if_neg (not_not_intro h42), if_pos (fun q => i_n0 q.1 h52)], by rw [if_neg (not_not_intro h4), if_neg (not_not_intro h11), if_neg (not_not_intro h18), if_neg h33, if_neg (not_not_intro h42), if_pos (fun q => i_n0 q.1 h52)]⟩ | exact ⟨by rw [if_neg (not_not_intro h4), if_neg (not_not_intro h11), if_neg (not_not_intro h18), if_neg h33, if_neg (not_not_intro h42), if_pos (show ¬ (0 ≤ w ∧ w ≤ M.1 76 to.toNatClampNeg ∧ n ≤ M.1 76 to.toNatClampNeg - w) from fun q => i_n0 q.1 h57), ite_self], by rw [if_neg (not_not_intro h4), if_neg (not_not_intro h11), if_neg (not_not_intro h18), if_neg h33, if_neg (not_not_intro h42), if_pos (show ¬ (0 ≤ w ∧ w ≤ M.1 76 to.toNatClampNeg ∧ n ≤ M.1 76 to.toNatClampNeg - w) from fun q => i_n0 q.1 h57), ite_self]⟩ | exact ⟨by rw [if_neg (not_not_intro h4), if_neg (not_not_intro h11), if_neg (not_not_intro h18), if_neg h33, if_neg (not_not_intro h42), if_pos (by rw [e1]; exact (cp_iff (by omega) h52 h18).mp h74)], by rw [if_neg (not_not_intro h4), if_neg (not_not_intro h11), if_neg (not_not_intro h18), if_neg h33, if_neg (not_not_intro h42), if_pos (by rw [e1]; exact (cp_iff (by omega) h52 h18).mp h74)]⟩ | exact ⟨by rw [if_neg (not_not_intro h4), if_neg (not_not_intro h11), if_neg (not_not_intro h18), if_neg h33, if_neg (not_not_intro h42), if_neg (by rw [e1]; exact fun q => h74 ((cp_iff (by omega) h52 h18).mpr q)), if_pos (by rw [e2]; exact (cp_iff (by omega) h57 h18).mp (lg_gt2 h92))], by rw [if_neg (not_not_intro h4), if_neg (not_not_intro h11), if_neg (not_not_intro h18), if_neg h33, if_neg (not_not_intro h42), if_neg (by rw [e1]; exact fun q => h74 ((cp_iff (by omega) h52 h18).mpr q)), if_pos (by rw [e2]; exact (cp_iff (by omega) h57 h18).mp (lg_gt2 h92))]⟩) (rfl)
                · refine px_iload dX11_copy_77 rfl ?_
                  refine px_i2l dX11_copy_79 ?_
                  refine px_iload dX11_copy_80 rfl ?_
                  refine px_i2l dX11_copy_82 ?_
                  refine px_ladd dX11_copy_83 ?_
                  refine px_aload_n dX11_copy_84 rfl rfl ?_
                  refine px_getR dX11_copy_85 fX11_13 (xol rfl) hM rfl (wr_11_3 hW (xol rfl)) (Nat.succ_pos _) ?_
                  refine px_iload_n dX11_copy_88 rfl rfl ?_
                  refine px_iald dX11_copy_89 (xal (n := 6) rfl) hM hti ?_
                  refine px_top e2 ?_
                  refine px_i2l dX11_copy_90 ?_
                  refine px_lcmp dX11_copy_91 ?_
                  refine px_if_le 101 dX11_copy_92 rfl (fun h92 => ?_) (fun h92 => ?_)
                  · refine px_iconst dX11_copy_101 ic_0 ?_
                    refine px_si_6 dX11_copy_102 rfl ?_
                    have c1 : 0 ≤ u ∧ u ≤ nI S1 ∧ n ≤ nI S1 - u := Classical.byContradiction fun q => h74 ((cp_iff (by omega) h52 h18).mpr q)
                    have c2 : 0 ≤ w ∧ w ≤ nI S2 ∧ n ≤ nI S2 - w := Classical.byContradiction fun q => n_le h92 ((cp_iff (by omega) h57 h18).mpr q)
                    have b1 := hold_nat (by omega) h18 c1
                    have b2 := hold_nat (by omega) h18 c2
                    have k := l_X11_copy1 (E := E) (u := u) (w := w) (n := n) hM hW h4.1 rl (nz_ge h52) (i_cl (n_le h18)).symm (by omega) h11.1 tol (nz_ge h57) (by omega)
                    rw [mcp_0] at k
                    exact px_q (fun _ _ q => ⟨by rw [q.1, if_neg (not_not_intro h4), if_neg (not_not_intro h11), if_neg (not_not_intro h18), if_neg h33, if_neg (not_not_intro h42), if_neg (not_not_intro (by rw [e1]; exact c1)), if_neg (not_not_intro (by rw [e2]; exact c2))], by rw [q.2, if_neg (not_not_intro h4), if_neg (not_not_intro h11), if_neg (not_not_intro h18), if_neg h33, if_neg (not_not_intro h42), if_neg (not_not_intro (by rw [e1]; exact c1)), if_neg (not_not_intro (by rw [e2]; exact c2))]⟩) k
                  · refine px_aload_n dX11_copy_95 rfl rfl ?_
                    refine px_iconst dX11_copy_96 ic_2 ?_
                    refine px_fV1i dX11_copy_97 kX11_copy_83 (xol rfl) hM (Nat.le_of_ble_eq_true rfl) (c_X11_found hM hW (by unfold vp_in; decide)) ?_
                    exact px_iret dX11_copy_100 rfl (by first | exact ⟨by rw [if_neg (not_not_intro h4), if_neg (not_not_intro h11), if_neg (not_not_intro h18), if_neg h33, if_neg (not_not_intro h42), if_pos (fun q => i_n0 q.1 h52)], by rw [if_neg (not_not_intro h4), if_neg (not_not_intro h11), if_neg (not_not_intro h18), if_neg h33, if_neg (not_not_intro h42), if_pos (fun q => i_n0 q.1 h52)]⟩ | exact ⟨by rw [if_neg (not_not_intro h4), if_neg (not_not_intro h11), if_neg (not_not_intro h18), if_neg h33, if_neg (not_not_intro h42), if_pos (show ¬ (0 ≤ w ∧ w ≤ M.1 76 to.toNatClampNeg ∧ n ≤ M.1 76 to.toNatClampNeg - w) from fun q => i_n0 q.1 h57), ite_self], by rw [if_neg (not_not_intro h4), if_neg (not_not_intro h11), if_neg (not_not_intro h18), if_neg h33, if_neg (not_not_intro h42), if_pos (show ¬ (0 ≤ w ∧ w ≤ M.1 76 to.toNatClampNeg ∧ n ≤ M.1 76 to.toNatClampNeg - w) from fun q => i_n0 q.1 h57), ite_self]⟩ | exact ⟨by rw [if_neg (not_not_intro h4), if_neg (not_not_intro h11), if_neg (not_not_intro h18), if_neg h33, if_neg (not_not_intro h42), if_pos (by rw [e1]; exact (cp_iff (by omega) h52 h18).mp h74)], by rw [if_neg (not_not_intro h4), if_neg (not_not_intro h11), if_neg (not_not_intro h18), if_neg h33, if_neg (not_not_intro h42), if_pos (by rw [e1]; exact (cp_iff (by omega) h52 h18).mp h74)]⟩ | exact ⟨by rw [if_neg (not_not_intro h4), if_neg (not_not_intro h11), if_neg (not_not_intro h18), if_neg h33, if_neg (not_not_intro h42), if_neg (by rw [e1]; exact fun q => h74 ((cp_iff (by omega) h52 h18).mpr q)), if_pos (by rw [e2]; exact (cp_iff (by omega) h57 h18).mp (lg_gt2 h92))], by rw [if_neg (not_not_intro h4), if_neg (not_not_intro h11), if_neg (not_not_intro h18), if_neg h33, if_neg (not_not_intro h42), if_neg (by rw [e1]; exact fun q => h74 ((cp_iff (by omega) h52 h18).mpr q)), if_pos (by rw [e2]; exact (cp_iff (by omega) h57 h18).mp (lg_gt2 h92))]⟩) (rfl)
          · refine px_aload_n dX11_copy_45 rfl rfl ?_
            refine px_iconst dX11_copy_46 ic_1 ?_
            refine px_fV1i dX11_copy_47 kX11_copy_83 (xol rfl) hM (Nat.le_of_ble_eq_true rfl) (c_X11_found hM hW (by unfold vp_in; decide)) ?_
            exact px_iret dX11_copy_50 rfl ⟨by first | rfl | (simp only [h4, h11, h18, h33, h42, not_true_eq_false, not_false_eq_true, if_true, if_false, and_self, or_true, true_or, or_false, false_or, true_and, and_true, false_and, and_false, reduceIte]), by first | rfl | (simp only [h4, h11, h18, h33, h42, not_true_eq_false, not_false_eq_true, if_true, if_false, and_self, or_true, true_or, or_false, false_or, true_and, and_true, false_and, and_false, reduceIte])⟩ (rfl)
      · refine px_aload_n dX11_copy_21 rfl rfl ?_
        refine px_iconst dX11_copy_22 ic_5 ?_
        refine px_fV1i dX11_copy_23 kX11_copy_83 (xol rfl) hM (Nat.le_of_ble_eq_true rfl) (c_X11_found hM hW (by unfold vp_in; decide)) ?_
        exact px_iret dX11_copy_26 rfl ⟨by first | rfl | (simp only [h4, h11, h18, not_true_eq_false, not_false_eq_true, if_true, if_false, and_self, or_true, true_or, or_false, false_or, true_and, and_true, false_and, and_false, reduceIte]), by first | rfl | (simp only [h4, h11, h18, not_true_eq_false, not_false_eq_true, if_true, if_false, and_self, or_true, true_or, or_false, false_or, true_and, and_true, false_and, and_false, reduceIte])⟩ (rfl)
    · refine px_iconst dX11_copy_14 ic_m1 ?_
      exact px_iret dX11_copy_15 rfl ⟨by first | rfl | (simp only [h4, h11, not_true_eq_false, not_false_eq_true, if_true, if_false, and_self, or_true, true_or, or_false, false_or, true_and, and_true, false_and, and_false, reduceIte]), by first | rfl | (simp only [h4, h11, not_true_eq_false, not_false_eq_true, if_true, if_false, and_self, or_true, true_or, or_false, false_or, true_and, and_true, false_and, and_false, reduceIte])⟩ (rfl)
