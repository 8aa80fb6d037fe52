/-! ===== pages, points ===== -/
theorem nI_zc {a b : Nat} (ha : a < 2 ^ 31) (hb : b < 2 ^ 31) : zb (nI a = nI b) = zb (a = b) := zb_c (nI_eq ha hb)
def pnA (B : Nat) (g : Nat → Nat → Nat) (f : Nat) (c r : Int32) : Option (Nat × Nat × Nat × Nat) → aOut
  | none => (-4, none, none)
  | some q => if ¬ (0 ≤ c - nI (fd B g f 10) ∧ c - nI (fd B g f 10) < nI (fd B g f 8)) then (-9, none, none) else if ¬ (0 ≤ r - nI (fd B g f 11) ∧ r - nI (fd B g f 11) < nI (fd B g f 9)) then (-9, none, none) else
    (10000 * nI q.1 + 100 * (nI q.2.1 + nI (fd B g f 7) + (if nI q.2.2.2 = 0 then c - nI (fd B g f 10) else r - nI (fd B g f 11))) + (nI q.2.2.1 + nI (fd B g f 7) + (if nI q.2.2.2 = 0 then r - nI (fd B g f 11) else c - nI (fd B g f 10))), none, none)
def aPnt (n B : Nat) (g : Nat → Nat → Nat) (lay : gLay) (v c r : Int32) : aOut := if ¬ (0 ≤ v ∧ v < nI n) then aBad else if ¬ (0 ≤ c ∧ c < nI (g v.toNatClampNeg 1)) then aBad else if ¬ (0 ≤ r ∧ r < nI (g v.toNatClampNeg 2)) then aBad else pnA B g v.toNatClampNeg c r (lay v.toNatClampNeg)

set_option maxRecDepth 100000 in
theorem c_X10_isPage {E : xE} {M : xMem} {s n W H B dd : Nat} {g : Nat → Nat → Nat} {S : gLay × Nat} {P : Nat → gLay × Nat} (hc : cHy M s n W H B g dd S P) {v : Int32} : Cf E mX10_isPage [.ref 1, .int v] M (some (.int (zb (0 ≤ v ∧ v < nI (pgL S.1 8))))) M := by
  refine Ct.of (lo := [some (.ref 1), some (.int v)]) pln_X10 (Nat.le_of_ble_eq_true rfl) rfl (Nat.le_refl _) ?_
  obtain ⟨hM, hW, hs, hcu, hsh, hok, hst, hly, hru⟩ := hc
  have hp0 : 0 < s := hs.1
  have h8 : n ≤ 8 := hok.1
  have hb : lyB S.1 := (hsh.s hok).b hly
  have hl : lyC (M.1 8) S.1 := hst.2.2.1
  have hpg := pgL_le hb 8
  refine px_iload_n dX10_isPage_0 rfl rfl ?_
  refine px_aload_n dX10_isPage_1 rfl rfl ?_
  refine px_getR dX10_isPage_2 fX10_32 (xol rfl) hM rfl (wr_10_4 hW (xol rfl)) (Nat.succ_pos _) ?_
  refine px_getR dX10_isPage_5 fX10_163 (xol rfl) hM rfl (wr_8_0 hW (xol rfl)) (Nat.succ_pos _) ?_
  refine px_fV0i dX10_isPage_8 kX10_isPage_210 (xol rfl) hM (Nat.le_of_ble_eq_true rfl) (c_X1_pages (la := 7) hM hW (xol rfl) hl hb) ?_
  refine px_fS2i dX10_isPage_11 kX10_isPage_84 (Nat.le_of_ble_eq_true rfl) (c_X10_isBelow) ?_
  exact px_zret dX10_isPage_14 rfl (by first | rfl | exact zb_nar) ⟨rfl, rfl⟩ (rfl)

set_option maxRecDepth 100000 in
theorem c_X11_isPage {E : xE} {M : xMem} {n W H B dd : Nat} {g : Nat → Nat → Nat} {S : gLay × Nat} {P : Nat → gLay × Nat} (hc : rHy M n W H B g dd S P) {v : Int32} : Cf E mX11_isPage [.ref 74, .int v] M (some (.int (zb (0 ≤ v ∧ v < nI (pgL S.1 8))))) M := by
  refine Ct.of (lo := [some (.ref 74), some (.int v)]) pln_X11 (Nat.le_of_ble_eq_true rfl) rfl (Nat.le_refl _) ?_
  obtain ⟨hM, hW, hsh, hok, hst, hly, hru⟩ := hc
  have h8 : n ≤ 8 := hok.1
  have hb : lyB S.1 := (hsh.s hok).b hly
  have hl : lyM (M.1 83) S.1 := lyM_c hst.2.2.1.1 (fun k _ => by rw [Nat.zero_add])
  have hpg := pgL_le hb 8
  refine px_iload_n dX11_isPage_0 rfl rfl ?_
  refine px_iconst dX11_isPage_1 ic_0 ?_
  refine px_aload_n dX11_isPage_2 rfl rfl ?_
  refine px_fV0i dX11_isPage_3 kX11_isPage_270 (xol rfl) hM (Nat.le_of_ble_eq_true rfl) (c_X11_pageMany hM hW h8 hsh.1) ?_
  refine px_top (y := nI (pgL S.1 8)) (by rw [pgF_L hl hb n h8, (L_more hly.1 8 h8).1]) ?_
  refine px_iconst dX11_isPage_6 ic_1 ?_
  refine px_isub dX11_isPage_7 ?_
  refine px_fS3i dX11_isPage_8 kX11_isPage_75 (Nat.le_of_ble_eq_true rfl) (c_X11_in) ?_
  refine px_top (y := zb (0 ≤ v ∧ v < nI (pgL S.1 8))) (in_m (by omega)) ?_
  exact px_zret dX11_isPage_11 rfl (by first | rfl | exact zb_nar) ⟨rfl, rfl⟩ (rfl)

set_option maxRecDepth 100000 in
theorem c_X10_point {E : xE} {M : xMem} {s n W H B dd : Nat} {g : Nat → Nat → Nat} {S : gLay × Nat} {P : Nat → gLay × Nat} (hc : cHy M s n W H B g dd S P) {v c r : Int32} : Cf E mX10_point [.ref 1, .int v, .int c, .int r] M (some (.int (aPnt n B g S.1 v c r).1)) (oC M (aPnt n B g S.1 v c r).2.1 (aPnt n B g S.1 v c r).2.2) := by
  refine Ct.of (lo := [some (.ref 1), some (.int v), some (.int c), some (.int r), none, none, none, none, none, none, none]) pln_X10 (Nat.le_of_ble_eq_true rfl) rfl (Nat.le_refl _) ?_
  obtain ⟨hM, hW, hs, hcu, hsh, hok, hst, hly, hru⟩ := hc
  have hp0 : 0 < s := hs.1
  have h8 : n ≤ 8 := hok.1
  have hb : lyB S.1 := (hsh.s hok).b hly
  have hl : lyC (M.1 8) S.1 := hst.2.2.1
  have hpg := pgL_le hb 8
  refine px_iload_n dX10_point_0 rfl rfl ?_
  refine px_aload_n dX10_point_1 rfl rfl ?_
  refine px_getR dX10_point_2 fX10_71 (xol rfl) hM rfl (by assumption) (by assumption) ?_
  refine px_getI dX10_point_5 fX10_140 hs hM rfl ?_
  refine px_top (y := nI n) hsh.1 ?_
  refine px_fS2i dX10_point_8 kX10_point_84 (Nat.le_of_ble_eq_true rfl) (c_X10_isBelow) ?_
  refine px_zif_ne 16 dX10_point_11 rfl (fun h11 => ?_) (fun h11 => ?_)
  · obtain ⟨f, hf, rfl⟩ := in_nat (by omega) h11
    have hnf : (nI f).toNatClampNeg = f := nI_clamp (by omega)
    have hfi : vp_in (nI f) 8 := vp_in_nI (by omega) (by decide)
    refine px_aload_n dX10_point_16 rfl rfl ?_
    refine px_getR dX10_point_17 fX10_71 (xol rfl) hM rfl (by assumption) (by assumption) ?_
    refine px_getR dX10_point_20 fX10_154 hs hM rfl (wr_7_0 hW hs) (Nat.succ_pos _) ?_
    refine px_iload_n dX10_point_23 rfl rfl ?_
    refine px_aald (t0 := 6) dX10_point_24 (ar_7 hs) (by decide) (fun _ => rfl) hM hfi (show M.2.1 (s + 1) (nI f).toNatClampNeg = s + 1 + 1 + f by rw [hnf]; exact wa_26 hW (ar_7 hs) (by omega)) (by omega) ?_
    refine px_sa_4 dX10_point_25 rfl ?_
    refine px_iload_n dX10_point_27 rfl rfl ?_
    refine px_aload dX10_point_28 rfl ?_
    refine px_getI dX10_point_30 fX10_257 (ob_frame hs (by omega)) hM rfl ?_
    refine px_top (y := nI (g f 1)) (hsh.2.2.2.2 f hf 1 (by decide)) ?_
    refine px_fS2i dX10_point_33 kX10_point_84 (Nat.le_of_ble_eq_true rfl) (c_X10_isBelow) ?_
    refine px_zif_eq 51 dX10_point_36 rfl (fun h36 => ?_) (fun h36 => ?_)
    · refine px_iconst dX10_point_51 ic_m1 ?_
      exact px_iret dX10_point_52 rfl (by first | (refine ⟨?_, ?_⟩ <;> simp only [aPnt, h11, hnf, h36, not_true_eq_false, not_false_eq_true, if_true, if_false, and_self, or_true, true_or, or_false, false_or, true_and, and_true, false_and, and_false, or_self, ite_true, ite_false, reduceIte, oC, oR]; done) | (refine ⟨?_, ?_⟩ <;> simp only [aPnt, h11, hnf, h36, h48, not_true_eq_false, not_false_eq_true, if_true, if_false, and_self, or_true, true_or, or_false, false_or, true_and, and_true, false_and, and_false, or_self, ite_true, ite_false, reduceIte, oC, oR]; done)) (rfl)
    · refine px_iload_n dX10_point_39 rfl rfl ?_
      refine px_aload dX10_point_40 rfl ?_
      refine px_getI dX10_point_42 fX10_260 (ob_frame hs (by omega)) hM rfl ?_
      refine px_top (y := nI (g f 2)) (hsh.2.2.2.2 f hf 2 (by decide)) ?_
      refine px_fS2i dX10_point_45 kX10_point_84 (Nat.le_of_ble_eq_true rfl) (c_X10_isBelow) ?_
      refine px_zif_ne 53 dX10_point_48 rfl (fun h48 => ?_) (fun h48 => ?_)
      · refine px_aload_n dX10_point_53 rfl rfl ?_
        refine px_getR dX10_point_54 fX10_32 (xol rfl) hM rfl (wr_10_4 hW (xol rfl)) (Nat.succ_pos _) ?_
        refine px_getR dX10_point_57 fX10_163 (xol rfl) hM rfl (wr_8_0 hW (xol rfl)) (Nat.succ_pos _) ?_
        refine px_sa_5 dX10_point_60 rfl ?_
        refine px_aload dX10_point_62 rfl ?_
        refine px_iload_n dX10_point_64 rfl rfl ?_
        refine px_fV1i dX10_point_65 kX10_point_166 (xol rfl) hM (Nat.le_of_ble_eq_true rfl) (c_X1_isSet (a := 7) (xol rfl) hM hW hfi) ?_
        refine px_top (y := zb (¬ S.1 f = none)) (lyC_is hl hb (by omega)) ?_
        refine px_zif_ne 74 dX10_point_68 rfl (fun h68 => ?_) (fun h68 => ?_)
        · obtain ⟨p, x, y, t, e⟩ := lay_some h68
          refine px_iload_n dX10_point_74 rfl rfl ?_
          refine px_aload dX10_point_75 rfl ?_
          refine px_getI dX10_point_77 fX10_263 (ob_frame hs (by omega)) hM rfl ?_
          refine px_top (y := nI (fd B g f 10)) (hsh.2.2.2.2 f hf 10 (by decide)) ?_
          refine px_isub dX10_point_80 ?_
          refine px_si_6 dX10_point_81 rfl ?_
          refine px_iload_n dX10_point_83 rfl rfl ?_
          refine px_aload dX10_point_84 rfl ?_
          refine px_getI dX10_point_86 fX10_266 (ob_frame hs (by omega)) hM rfl ?_
          refine px_top (y := nI (fd B g f 11)) (hsh.2.2.2.2 f hf 11 (by decide)) ?_
          refine px_isub dX10_point_89 ?_
          refine px_si_7 dX10_point_90 rfl ?_
          refine px_iload dX10_point_92 rfl ?_
          refine px_aload dX10_point_94 rfl ?_
          refine px_getI dX10_point_96 fX10_176 (ob_frame hs (by omega)) hM rfl ?_
          refine px_top (y := nI (fd B g f 8)) (hsh.2.2.2.2 f hf 8 (by decide)) ?_
          refine px_fS2i dX10_point_99 kX10_point_84 (Nat.le_of_ble_eq_true rfl) (c_X10_isBelow) ?_
          refine px_zif_eq 118 dX10_point_102 rfl (fun h102 => ?_) (fun h102 => ?_)
          · refine px_bipush dX10_point_118 bp_m9 ?_
            exact px_iret dX10_point_120 rfl (by first | (refine ⟨?_, ?_⟩ <;> simp only [aPnt, h11, hnf, h36, h48, e, pnA, h102, not_true_eq_false, not_false_eq_true, if_true, if_false, and_self, or_true, true_or, or_false, false_or, true_and, and_true, false_and, and_false, or_self, ite_true, ite_false, reduceIte, oC, oR]; done) | (refine ⟨?_, ?_⟩ <;> simp only [aPnt, h11, hnf, h36, h48, e, pnA, h102, h115, not_true_eq_false, not_false_eq_true, if_true, if_false, and_self, or_true, true_or, or_false, false_or, true_and, and_true, false_and, and_false, or_self, ite_true, ite_false, reduceIte, oC, oR]; done)) (rfl)
          · refine px_iload dX10_point_105 rfl ?_
            refine px_aload dX10_point_107 rfl ?_
            refine px_getI dX10_point_109 fX10_179 (ob_frame hs (by omega)) hM rfl ?_
            refine px_top (y := nI (fd B g f 9)) (hsh.2.2.2.2 f hf 9 (by decide)) ?_
            refine px_fS2i dX10_point_112 kX10_point_84 (Nat.le_of_ble_eq_true rfl) (c_X10_isBelow) ?_
            refine px_zif_ne 121 dX10_point_115 rfl (fun h115 => ?_) (fun h115 => ?_)
            · refine px_aload dX10_point_121 rfl ?_
              refine px_iload_n dX10_point_123 rfl rfl ?_
              refine px_fV1i dX10_point_124 kX10_point_269 (xol rfl) hM (Nat.le_of_ble_eq_true rfl) (c_X1_isTurned (a := 7) (xol rfl) hM hW hfi) ?_
              refine px_top (y := nI t) (by rw [hnf]; exact (lyC_s hl hb e).2.2.2.2) ?_
              refine px_si_8 dX10_point_127 rfl ?_
              refine px_aload dX10_point_129 rfl ?_
              refine px_iload_n dX10_point_131 rfl rfl ?_
              refine px_fV1i dX10_point_132 kX10_point_272 (xol rfl) hM (Nat.le_of_ble_eq_true rfl) (c_X1_xOf (a := 7) (xol rfl) hM hW hfi) ?_
              refine px_top (y := nI x) (by rw [hnf]; exact (lyC_s hl hb e).2.2.1) ?_
              refine px_aload dX10_point_135 rfl ?_
              refine px_getI dX10_point_137 fX10_275 (ob_frame hs (by omega)) hM rfl ?_
              refine px_top (y := nI (fd B g f 7)) (hsh.2.2.2.2 f hf 7 (by decide)) ?_
              refine px_iadd dX10_point_140 ?_
              refine px_iload dX10_point_141 rfl ?_
              refine px_if_eq 151 dX10_point_143 rfl (fun h143 => ?_) (fun h143 => ?_)
              · refine px_iload dX10_point_151 rfl ?_
                refine px_iadd dX10_point_153 ?_
                refine px_si_9 dX10_point_154 rfl ?_
                refine px_aload dX10_point_156 rfl ?_
                refine px_iload_n dX10_point_158 rfl rfl ?_
                refine px_fV1i dX10_point_159 kX10_point_278 (xol rfl) hM (Nat.le_of_ble_eq_true rfl) (c_X1_yOf (a := 7) (xol rfl) hM hW hfi) ?_
                refine px_top (y := nI y) (by rw [hnf]; exact (lyC_s hl hb e).2.2.2.1) ?_
                refine px_aload dX10_point_162 rfl ?_
                refine px_getI dX10_point_164 fX10_275 (ob_frame hs (by omega)) hM rfl ?_
                refine px_top (y := nI (fd B g f 7)) (hsh.2.2.2.2 f hf 7 (by decide)) ?_
                refine px_iadd dX10_point_167 ?_
                refine px_iload dX10_point_168 rfl ?_
                refine px_if_eq 178 dX10_point_170 rfl (fun h170 => ?_) (fun h170 => ?_)
                · refine px_iload dX10_point_178 rfl ?_
                  refine px_iadd dX10_point_180 ?_
                  refine px_si_10 dX10_point_181 rfl ?_
                  refine px_sipush dX10_point_183 sp_10000 ?_
                  refine px_aload dX10_point_186 rfl ?_
                  refine px_iload_n dX10_point_188 rfl rfl ?_
                  refine px_fV1i dX10_point_189 kX10_point_207 (xol rfl) hM (Nat.le_of_ble_eq_true rfl) (c_X1_pageOf (a := 7) (xol rfl) hM hW hfi) ?_
                  refine px_top (y := nI p) (by rw [hnf]; exact (lyC_s hl hb e).2.1) ?_
                  refine px_imul dX10_point_192 ?_
                  refine px_bipush dX10_point_193 bp_100 ?_
                  refine px_iload dX10_point_195 rfl ?_
                  refine px_imul dX10_point_197 ?_
                  refine px_iadd dX10_point_198 ?_
                  refine px_iload dX10_point_199 rfl ?_
                  refine px_iadd dX10_point_201 ?_
                  exact px_iret dX10_point_202 rfl (by first | exact absurd h143 h170 | exact absurd h170 h143 | (refine ⟨?_, ?_⟩ <;> simp only [aPnt, h11, hnf, h36, h48, e, pnA, h102, h115, h143, not_true_eq_false, not_false_eq_true, if_true, if_false, and_self, or_true, true_or, or_false, false_or, true_and, and_true, false_and, and_false, or_self, ite_true, ite_false, reduceIte, oC, oR]; done)) (rfl)
                · refine px_iload dX10_point_173 rfl ?_
                  refine px_goto 180 dX10_point_175 rfl ?_
                  refine px_iadd dX10_point_180 ?_
                  refine px_si_10 dX10_point_181 rfl ?_
                  refine px_sipush dX10_point_183 sp_10000 ?_
                  refine px_aload dX10_point_186 rfl ?_
                  refine px_iload_n dX10_point_188 rfl rfl ?_
                  refine px_fV1i dX10_point_189 kX10_point_207 (xol rfl) hM (Nat.le_of_ble_eq_true rfl) (c_X1_pageOf (a := 7) (xol rfl) hM hW hfi) ?_
                  refine px_top (y := nI p) (by rw [hnf]; exact (lyC_s hl hb e).2.1) ?_
                  refine px_imul dX10_point_192 ?_
                  refine px_bipush dX10_point_193 bp_100 ?_
                  refine px_iload dX10_point_195 rfl ?_
                  refine px_imul dX10_point_197 ?_
                  refine px_iadd dX10_point_198 ?_
                  refine px_iload dX10_point_199 rfl ?_
                  refine px_iadd dX10_point_201 ?_
                  exact px_iret dX10_point_202 rfl (by first | exact absurd h143 h170 | exact absurd h170 h143 | (refine ⟨?_, ?_⟩ <;> simp only [aPnt, h11, hnf, h36, h48, e, pnA, h102, h115, h143, not_true_eq_false, not_false_eq_true, if_true, if_false, and_self, or_true, true_or, or_false, false_or, true_and, and_true, false_and, and_false, or_self, ite_true, ite_false, reduceIte, oC, oR]; done)) (rfl)
              · refine px_iload dX10_point_146 rfl ?_
                refine px_goto 153 dX10_point_148 rfl ?_
                refine px_iadd dX10_point_153 ?_
                refine px_si_9 dX10_point_154 rfl ?_
                refine px_aload dX10_point_156 rfl ?_
                refine px_iload_n dX10_point_158 rfl rfl ?_
                refine px_fV1i dX10_point_159 kX10_point_278 (xol rfl) hM (Nat.le_of_ble_eq_true rfl) (c_X1_yOf (a := 7) (xol rfl) hM hW hfi) ?_
                refine px_top (y := nI y) (by rw [hnf]; exact (lyC_s hl hb e).2.2.2.1) ?_
                refine px_aload dX10_point_162 rfl ?_
                refine px_getI dX10_point_164 fX10_275 (ob_frame hs (by omega)) hM rfl ?_
                refine px_top (y := nI (fd B g f 7)) (hsh.2.2.2.2 f hf 7 (by decide)) ?_
                refine px_iadd dX10_point_167 ?_
                refine px_iload dX10_point_168 rfl ?_
                refine px_if_eq 178 dX10_point_170 rfl (fun h170 => ?_) (fun h170 => ?_)
                · refine px_iload dX10_point_178 rfl ?_
                  refine px_iadd dX10_point_180 ?_
                  refine px_si_10 dX10_point_181 rfl ?_
                  refine px_sipush dX10_point_183 sp_10000 ?_
                  refine px_aload dX10_point_186 rfl ?_
                  refine px_iload_n dX10_point_188 rfl rfl ?_
                  refine px_fV1i dX10_point_189 kX10_point_207 (xol rfl) hM (Nat.le_of_ble_eq_true rfl) (c_X1_pageOf (a := 7) (xol rfl) hM hW hfi) ?_
                  refine px_top (y := nI p) (by rw [hnf]; exact (lyC_s hl hb e).2.1) ?_
                  refine px_imul dX10_point_192 ?_
                  refine px_bipush dX10_point_193 bp_100 ?_
                  refine px_iload dX10_point_195 rfl ?_
                  refine px_imul dX10_point_197 ?_
                  refine px_iadd dX10_point_198 ?_
                  refine px_iload dX10_point_199 rfl ?_
                  refine px_iadd dX10_point_201 ?_
                  exact px_iret dX10_point_202 rfl (by first | exact absurd h143 h170 | exact absurd h170 h143 | (refine ⟨?_, ?_⟩ <;> simp only [aPnt, h11, hnf, h36, h48, e, pnA, h102, h115, h143, not_true_eq_false, not_false_eq_true, if_true, if_false, and_self, or_true, true_or, or_false, false_or, true_and, and_true, false_and, and_false, or_self, ite_true, ite_false, reduceIte, oC, oR]; done)) (rfl)
                · refine px_iload dX10_point_173 rfl ?_
                  refine px_goto 180 dX10_point_175 rfl ?_
                  refine px_iadd dX10_point_180 ?_
                  refine px_si_10 dX10_point_181 rfl ?_
                  refine px_sipush dX10_point_183 sp_10000 ?_
                  refine px_aload dX10_point_186 rfl ?_
                  refine px_iload_n dX10_point_188 rfl rfl ?_
                  refine px_fV1i dX10_point_189 kX10_point_207 (xol rfl) hM (Nat.le_of_ble_eq_true rfl) (c_X1_pageOf (a := 7) (xol rfl) hM hW hfi) ?_
                  refine px_top (y := nI p) (by rw [hnf]; exact (lyC_s hl hb e).2.1) ?_
                  refine px_imul dX10_point_192 ?_
                  refine px_bipush dX10_point_193 bp_100 ?_
                  refine px_iload dX10_point_195 rfl ?_
                  refine px_imul dX10_point_197 ?_
                  refine px_iadd dX10_point_198 ?_
                  refine px_iload dX10_point_199 rfl ?_
                  refine px_iadd dX10_point_201 ?_
                  exact px_iret dX10_point_202 rfl (by first | exact absurd h143 h170 | exact absurd h170 h143 | (refine ⟨?_, ?_⟩ <;> simp only [aPnt, h11, hnf, h36, h48, e, pnA, h102, h115, h143, not_true_eq_false, not_false_eq_true, if_true, if_false, and_self, or_true, true_or, or_false, false_or, true_and, and_true, false_and, and_false, or_self, ite_true, ite_false, reduceIte, oC, oR]; done)) (rfl)
            · refine px_bipush dX10_point_118 bp_m9 ?_
              exact px_iret dX10_point_120 rfl (by first | (refine ⟨?_, ?_⟩ <;> simp only [aPnt, h11, hnf, h36, h48, e, pnA, h102, not_true_eq_false, not_false_eq_true, if_true, if_false, and_self, or_true, true_or, or_false, false_or, true_and, and_true, false_and, and_false, or_self, ite_true, ite_false, reduceIte, oC, oR]; done) | (refine ⟨?_, ?_⟩ <;> simp only [aPnt, h11, hnf, h36, h48, e, pnA, h102, h115, not_true_eq_false, not_false_eq_true, if_true, if_false, and_self, or_true, true_or, or_false, false_or, true_and, and_true, false_and, and_false, or_self, ite_true, ite_false, reduceIte, oC, oR]; done)) (rfl)
        · have e : S.1 f = none := Classical.byContradiction h68
          refine px_bipush dX10_point_71 bp_m4 ?_
          exact px_iret dX10_point_73 rfl (by (refine ⟨?_, ?_⟩ <;> simp only [aPnt, h11, hnf, h36, h48, e, pnA, not_true_eq_false, not_false_eq_true, if_true, if_false, and_self, or_true, true_or, or_false, false_or, true_and, and_true, false_and, and_false, or_self, ite_true, ite_false, reduceIte, oC, oR]; done)) (rfl)
      · refine px_iconst dX10_point_51 ic_m1 ?_
        exact px_iret dX10_point_52 rfl (by first | (refine ⟨?_, ?_⟩ <;> simp only [aPnt, h11, hnf, h36, not_true_eq_false, not_false_eq_true, if_true, if_false, and_self, or_true, true_or, or_false, false_or, true_and, and_true, false_and, and_false, or_self, ite_true, ite_false, reduceIte, oC, oR]; done) | (refine ⟨?_, ?_⟩ <;> simp only [aPnt, h11, hnf, h36, h48, not_true_eq_false, not_false_eq_true, if_true, if_false, and_self, or_true, true_or, or_false, false_or, true_and, and_true, false_and, and_false, or_self, ite_true, ite_false, reduceIte, oC, oR]; done)) (rfl)
  · refine px_iconst dX10_point_14 ic_m1 ?_
    exact px_iret dX10_point_15 rfl (by (refine ⟨?_, ?_⟩ <;> simp only [aPnt, h11, not_true_eq_false, not_false_eq_true, if_true, if_false, and_self, or_true, true_or, or_false, false_or, true_and, and_true, false_and, and_false, or_self, ite_true, ite_false, reduceIte, oC, oR]; done)) (rfl)

set_option maxRecDepth 100000 in
theorem c_X11_point {E : xE} {M : xMem} {n W H B dd : Nat} {g : Nat → Nat → Nat} {S : gLay × Nat} {P : Nat → gLay × Nat} (hc : rHy M n W H B g dd S P) {v c r : Int32} : Cf E mX11_point [.ref 74, .int v, .int c, .int r] M (some (.int (aPnt n B g S.1 v c r).1)) (oR M (aPnt n B g S.1 v c r).2.1 (aPnt n B g S.1 v c r).2.2) := by
  refine Ct.of (lo := [some (.ref 74), some (.int v), some (.int c), some (.int r), none, none, none, none, none]) pln_X11 (Nat.le_of_ble_eq_true rfl) rfl (Nat.le_refl _) ?_
  obtain ⟨hM, hW, hsh, hok, hst, hly, hru⟩ := hc
  have h8 : n ≤ 8 := hok.1
  have hb : lyB S.1 := (hsh.s hok).b hly
  have hl : lyM (M.1 83) S.1 := lyM_c hst.2.2.1.1 (fun k _ => by rw [Nat.zero_add])
  have hpg := pgL_le hb 8
  refine px_aload_n dX11_point_0 rfl rfl ?_
  refine px_iload_n dX11_point_1 rfl rfl ?_
  refine px_fV1i dX11_point_2 kX11_point_223 (xol rfl) hM (Nat.le_of_ble_eq_true rfl) (c_X11_isFrame hM) ?_
  refine px_top (y := zb (0 ≤ v ∧ v < nI n)) (by rw [hsh.1]; exact in_m (by omega)) ?_
  refine px_zif_eq 40 dX11_point_5 rfl (fun h5 => ?_) (fun h5 => ?_)
  · refine px_iconst dX11_point_40 ic_m1 ?_
    exact px_iret dX11_point_41 rfl (by first | (refine ⟨?_, ?_⟩ <;> simp only [aPnt, h5, not_true_eq_false, not_false_eq_true, if_true, if_false, and_self, or_true, true_or, or_false, false_or, true_and, and_true, false_and, and_false, or_self, ite_true, ite_false, reduceIte, oC, oR]; done) | (refine ⟨?_, ?_⟩ <;> simp only [aPnt, h5, hnf, h21, not_true_eq_false, not_false_eq_true, if_true, if_false, and_self, or_true, true_or, or_false, false_or, true_and, and_true, false_and, and_false, or_self, ite_true, ite_false, reduceIte, oC, oR]; done) | (refine ⟨?_, ?_⟩ <;> simp only [aPnt, h5, hnf, h21, h37, not_true_eq_false, not_false_eq_true, if_true, if_false, and_self, or_true, true_or, or_false, false_or, true_and, and_true, false_and, and_false, or_self, ite_true, ite_false, reduceIte, oC, oR]; done)) (rfl)
  · obtain ⟨f, hf, rfl⟩ := in_nat (by omega) h5
    have hnf : (nI f).toNatClampNeg = f := nI_clamp (by omega)
    have hfi : vp_in (nI f) 8 := vp_in_nI (by omega) (by decide)
    have hokf := hok.2.2.2.2.2 f hf
    have hfd := fd_le hokf hok.2.2.2.1
    refine px_iload_n dX11_point_8 rfl rfl ?_
    refine px_iconst dX11_point_9 ic_0 ?_
    refine px_aload_n dX11_point_10 rfl rfl ?_
    refine px_iload_n dX11_point_11 rfl rfl ?_
    refine px_iconst dX11_point_12 ic_1 ?_
    refine px_fV2i dX11_point_13 kX11_point_208 (xol rfl) hM (Nat.le_of_ble_eq_true rfl) (c_X11_of (k := 1) (by omega) (by decide) hM hW) ?_
    refine px_top (y := nI (g f 1)) (show mg M f 1 = _ from hsh.2.2.2.2 f hf 1 (by decide)) ?_
    refine px_iconst dX11_point_16 ic_1 ?_
    refine px_isub dX11_point_17 ?_
    refine px_fS3i dX11_point_18 kX11_point_75 (Nat.le_of_ble_eq_true rfl) (c_X11_in) ?_
    refine px_top (y := zb (0 ≤ c ∧ c < nI (g f 1))) (in_m (by have := hokf.2.2.1; omega)) ?_
    refine px_zif_eq 40 dX11_point_21 rfl (fun h21 => ?_) (fun h21 => ?_)
    · refine px_iconst dX11_point_40 ic_m1 ?_
      exact px_iret dX11_point_41 rfl (by first | (refine ⟨?_, ?_⟩ <;> simp only [aPnt, h5, not_true_eq_false, not_false_eq_true, if_true, if_false, and_self, or_true, true_or, or_false, false_or, true_and, and_true, false_and, and_false, or_self, ite_true, ite_false, reduceIte, oC, oR]; done) | (refine ⟨?_, ?_⟩ <;> simp only [aPnt, h5, hnf, h21, not_true_eq_false, not_false_eq_true, if_true, if_false, and_self, or_true, true_or, or_false, false_or, true_and, and_true, false_and, and_false, or_self, ite_true, ite_false, reduceIte, oC, oR]; done) | (refine ⟨?_, ?_⟩ <;> simp only [aPnt, h5, hnf, h21, h37, not_true_eq_false, not_false_eq_true, if_true, if_false, and_self, or_true, true_or, or_false, false_or, true_and, and_true, false_and, and_false, or_self, ite_true, ite_false, reduceIte, oC, oR]; done)) (rfl)
    · refine px_iload_n dX11_point_24 rfl rfl ?_
      refine px_iconst dX11_point_25 ic_0 ?_
      refine px_aload_n dX11_point_26 rfl rfl ?_
      refine px_iload_n dX11_point_27 rfl rfl ?_
      refine px_iconst dX11_point_28 ic_2 ?_
      refine px_fV2i dX11_point_29 kX11_point_208 (xol rfl) hM (Nat.le_of_ble_eq_true rfl) (c_X11_of (k := 2) (by omega) (by decide) hM hW) ?_
      refine px_top (y := nI (g f 2)) (show mg M f 2 = _ from hsh.2.2.2.2 f hf 2 (by decide)) ?_
      refine px_iconst dX11_point_32 ic_1 ?_
      refine px_isub dX11_point_33 ?_
      refine px_fS3i dX11_point_34 kX11_point_75 (Nat.le_of_ble_eq_true rfl) (c_X11_in) ?_
      refine px_top (y := zb (0 ≤ r ∧ r < nI (g f 2))) (in_m (by have := hokf.2.2.2.2.1; omega)) ?_
      refine px_zif_ne 42 dX11_point_37 rfl (fun h37 => ?_) (fun h37 => ?_)
      · refine px_aload_n dX11_point_42 rfl rfl ?_
        refine px_iload_n dX11_point_43 rfl rfl ?_
        refine px_fV1i dX11_point_44 kX11_point_232 (xol rfl) hM (Nat.le_of_ble_eq_true rfl) (c_X11_isSet (by omega) hM hW) ?_
        refine px_top (y := zb (¬ S.1 f = none)) (lyM_is hl hb (by omega)) ?_
        refine px_zif_ne 53 dX11_point_47 rfl (fun h47 => ?_) (fun h47 => ?_)
        · obtain ⟨p, x, y, t, e⟩ := lay_some h47
          have ht := (hly.2.1 f p x y t e).2.1
          refine px_iload_n dX11_point_53 rfl rfl ?_
          refine px_aload_n dX11_point_54 rfl rfl ?_
          refine px_iload_n dX11_point_55 rfl rfl ?_
          refine px_fV1i dX11_point_56 kX11_point_308 (xol rfl) hM (Nat.le_of_ble_eq_true rfl) (c_X11_leftOf (by omega) hM hW) ?_
          refine px_top (y := nI (fd B g f 10)) (mSh_f hsh hok hf).2.2.2.1 ?_
          refine px_isub dX11_point_59 ?_
          refine px_si_4 dX11_point_60 rfl ?_
          refine px_iload_n dX11_point_62 rfl rfl ?_
          refine px_aload_n dX11_point_63 rfl rfl ?_
          refine px_iload_n dX11_point_64 rfl rfl ?_
          refine px_fV1i dX11_point_65 kX11_point_311 (xol rfl) hM (Nat.le_of_ble_eq_true rfl) (c_X11_aboveOf (by omega) hM hW) ?_
          refine px_top (y := nI (fd B g f 11)) (mSh_f hsh hok hf).2.2.2.2 ?_
          refine px_isub dX11_point_68 ?_
          refine px_si_5 dX11_point_69 rfl ?_
          refine px_iload dX11_point_71 rfl ?_
          refine px_iconst dX11_point_73 ic_0 ?_
          refine px_aload_n dX11_point_74 rfl rfl ?_
          refine px_iload_n dX11_point_75 rfl rfl ?_
          refine px_fV1i dX11_point_76 kX11_point_214 (xol rfl) hM (Nat.le_of_ble_eq_true rfl) (c_X11_across (by omega) hM hW) ?_
          refine px_top (y := nI (fd B g f 8)) (mSh_f hsh hok hf).2.1 ?_
          refine px_iconst dX11_point_79 ic_1 ?_
          refine px_isub dX11_point_80 ?_
          refine px_fS3i dX11_point_81 kX11_point_75 (Nat.le_of_ble_eq_true rfl) (c_X11_in) ?_
          refine px_top (y := zb (0 ≤ c - nI (fd B g f 10) ∧ c - nI (fd B g f 10) < nI (fd B g f 8))) (in_m (by omega)) ?_
          refine px_zif_eq 103 dX11_point_84 rfl (fun h84 => ?_) (fun h84 => ?_)
          · refine px_bipush dX11_point_103 bp_m9 ?_
            exact px_iret dX11_point_105 rfl (by first | (refine ⟨?_, ?_⟩ <;> simp only [aPnt, h5, hnf, h21, h37, e, pnA, h84, not_true_eq_false, not_false_eq_true, if_true, if_false, and_self, or_true, true_or, or_false, false_or, true_and, and_true, false_and, and_false, or_self, ite_true, ite_false, reduceIte, oC, oR]; done) | (refine ⟨?_, ?_⟩ <;> simp only [aPnt, h5, hnf, h21, h37, e, pnA, h84, h100, not_true_eq_false, not_false_eq_true, if_true, if_false, and_self, or_true, true_or, or_false, false_or, true_and, and_true, false_and, and_false, or_self, ite_true, ite_false, reduceIte, oC, oR]; done)) (rfl)
          · refine px_iload dX11_point_87 rfl ?_
            refine px_iconst dX11_point_89 ic_0 ?_
            refine px_aload_n dX11_point_90 rfl rfl ?_
            refine px_iload_n dX11_point_91 rfl rfl ?_
            refine px_fV1i dX11_point_92 kX11_point_217 (xol rfl) hM (Nat.le_of_ble_eq_true rfl) (c_X11_down (by omega) hM hW) ?_
            refine px_top (y := nI (fd B g f 9)) (mSh_f hsh hok hf).2.2.1 ?_
            refine px_iconst dX11_point_95 ic_1 ?_
            refine px_isub dX11_point_96 ?_
            refine px_fS3i dX11_point_97 kX11_point_75 (Nat.le_of_ble_eq_true rfl) (c_X11_in) ?_
            refine px_top (y := zb (0 ≤ r - nI (fd B g f 11) ∧ r - nI (fd B g f 11) < nI (fd B g f 9))) (in_m (by omega)) ?_
            refine px_zif_ne 106 dX11_point_100 rfl (fun h100 => ?_) (fun h100 => ?_)
            · refine px_aload_n dX11_point_106 rfl rfl ?_
              refine px_getR dX11_point_107 fX11_35 (xol rfl) hM rfl (wr_11_23 hW (xol rfl)) (Nat.succ_pos _) ?_
              refine px_iconst dX11_point_110 ic_4 ?_
              refine px_iload_n dX11_point_111 rfl rfl ?_
              refine px_imul dX11_point_112 ?_
              refine px_iconst dX11_point_113 ic_3 ?_
              refine px_iadd dX11_point_114 ?_
              refine px_top (y := nI (4 * f + 3)) (ixA 4 f 3) ?_
              refine px_iald dX11_point_115 (xal (n := 33) rfl) hM (vp_in_nI (by omega) (by decide)) ?_
              refine px_top (y := nI t) (by rw [nI_clamp (by omega)]; exact (hl.2 f p x y t (by omega) e).2.2.2) ?_
              refine px_iconst dX11_point_116 ic_1 ?_
              refine px_icmp_ne 124 dX11_point_117 rfl (fun h117 => ?_) (fun h117 => ?_)
              · refine px_iconst dX11_point_124 ic_0 ?_
                refine px_top (y := nI t) (by first | exact (way_1 ht h117) | exact (way_0 ht h117)) ?_
                refine px_si_6 dX11_point_125 rfl ?_
                refine px_aload_n dX11_point_127 rfl rfl ?_
                refine px_getR dX11_point_128 fX11_35 (xol rfl) hM rfl (wr_11_23 hW (xol rfl)) (Nat.succ_pos _) ?_
                refine px_iconst dX11_point_131 ic_4 ?_
                refine px_iload_n dX11_point_132 rfl rfl ?_
                refine px_imul dX11_point_133 ?_
                refine px_iconst dX11_point_134 ic_1 ?_
                refine px_iadd dX11_point_135 ?_
                refine px_top (y := nI (4 * f + 1)) (ixA 4 f 1) ?_
                refine px_iald dX11_point_136 (xal (n := 33) rfl) hM (vp_in_nI (by omega) (by decide)) ?_
                refine px_top (y := nI x) (by rw [nI_clamp (by omega)]; exact (hl.2 f p x y t (by omega) e).2.1) ?_
                refine px_aload_n dX11_point_137 rfl rfl ?_
                refine px_iload_n dX11_point_138 rfl rfl ?_
                refine px_fV1i dX11_point_139 kX11_point_211 (xol rfl) hM (Nat.le_of_ble_eq_true rfl) (c_X11_edge (by omega) hM hW) ?_
                refine px_top (y := nI (fd B g f 7)) (mSh_f hsh hok hf).1 ?_
                refine px_iadd dX11_point_142 ?_
                refine px_iload dX11_point_143 rfl ?_
                refine px_if_eq 153 dX11_point_145 rfl (fun h145 => ?_) (fun h145 => ?_)
                · refine px_iload dX11_point_153 rfl ?_
                  refine px_iadd dX11_point_155 ?_
                  refine px_si_7 dX11_point_156 rfl ?_
                  refine px_aload_n dX11_point_158 rfl rfl ?_
                  refine px_getR dX11_point_159 fX11_35 (xol rfl) hM rfl (wr_11_23 hW (xol rfl)) (Nat.succ_pos _) ?_
                  refine px_iconst dX11_point_162 ic_4 ?_
                  refine px_iload_n dX11_point_163 rfl rfl ?_
                  refine px_imul dX11_point_164 ?_
                  refine px_iconst dX11_point_165 ic_2 ?_
                  refine px_iadd dX11_point_166 ?_
                  refine px_top (y := nI (4 * f + 2)) (ixA 4 f 2) ?_
                  refine px_iald dX11_point_167 (xal (n := 33) rfl) hM (vp_in_nI (by omega) (by decide)) ?_
                  refine px_top (y := nI y) (by rw [nI_clamp (by omega)]; exact (hl.2 f p x y t (by omega) e).2.2.1) ?_
                  refine px_aload_n dX11_point_168 rfl rfl ?_
                  refine px_iload_n dX11_point_169 rfl rfl ?_
                  refine px_fV1i dX11_point_170 kX11_point_211 (xol rfl) hM (Nat.le_of_ble_eq_true rfl) (c_X11_edge (by omega) hM hW) ?_
                  refine px_top (y := nI (fd B g f 7)) (mSh_f hsh hok hf).1 ?_
                  refine px_iadd dX11_point_173 ?_
                  refine px_iload dX11_point_174 rfl ?_
                  refine px_if_eq 184 dX11_point_176 rfl (fun h176 => ?_) (fun h176 => ?_)
                  · refine px_iload dX11_point_184 rfl ?_
                    refine px_iadd dX11_point_186 ?_
                    refine px_si_8 dX11_point_187 rfl ?_
                    refine px_sipush dX11_point_189 sp_10000 ?_
                    refine px_aload_n dX11_point_192 rfl rfl ?_
                    refine px_getR dX11_point_193 fX11_35 (xol rfl) hM rfl (wr_11_23 hW (xol rfl)) (Nat.succ_pos _) ?_
                    refine px_iconst dX11_point_196 ic_4 ?_
                    refine px_iload_n dX11_point_197 rfl rfl ?_
                    refine px_imul dX11_point_198 ?_
                    refine px_iconst dX11_point_199 ic_0 ?_
                    refine px_iadd dX11_point_200 ?_
                    refine px_top (y := nI (4 * f + 0)) (ixA 4 f 0) ?_
                    refine px_iald dX11_point_201 (xal (n := 33) rfl) hM (vp_in_nI (by omega) (by decide)) ?_
                    refine px_top (y := nI p) (by rw [nI_clamp (by omega)]; exact (hl.2 f p x y t (by omega) e).1) ?_
                    refine px_imul dX11_point_202 ?_
                    refine px_bipush dX11_point_203 bp_100 ?_
                    refine px_iload dX11_point_205 rfl ?_
                    refine px_imul dX11_point_207 ?_
                    refine px_iadd dX11_point_208 ?_
                    refine px_iload dX11_point_209 rfl ?_
                    refine px_iadd dX11_point_211 ?_
                    exact px_iret dX11_point_212 rfl (by first | exact absurd h145 h176 | exact absurd h176 h145 | (refine ⟨?_, ?_⟩ <;> simp only [aPnt, h5, hnf, h21, h37, e, pnA, h84, h100, h145, not_true_eq_false, not_false_eq_true, if_true, if_false, and_self, or_true, true_or, or_false, false_or, true_and, and_true, false_and, and_false, or_self, ite_true, ite_false, reduceIte, oC, oR]; done)) (rfl)
                  · refine px_iload dX11_point_179 rfl ?_
                    refine px_goto 186 dX11_point_181 rfl ?_
                    refine px_iadd dX11_point_186 ?_
                    refine px_si_8 dX11_point_187 rfl ?_
                    refine px_sipush dX11_point_189 sp_10000 ?_
                    refine px_aload_n dX11_point_192 rfl rfl ?_
                    refine px_getR dX11_point_193 fX11_35 (xol rfl) hM rfl (wr_11_23 hW (xol rfl)) (Nat.succ_pos _) ?_
                    refine px_iconst dX11_point_196 ic_4 ?_
                    refine px_iload_n dX11_point_197 rfl rfl ?_
                    refine px_imul dX11_point_198 ?_
                    refine px_iconst dX11_point_199 ic_0 ?_
                    refine px_iadd dX11_point_200 ?_
                    refine px_top (y := nI (4 * f + 0)) (ixA 4 f 0) ?_
                    refine px_iald dX11_point_201 (xal (n := 33) rfl) hM (vp_in_nI (by omega) (by decide)) ?_
                    refine px_top (y := nI p) (by rw [nI_clamp (by omega)]; exact (hl.2 f p x y t (by omega) e).1) ?_
                    refine px_imul dX11_point_202 ?_
                    refine px_bipush dX11_point_203 bp_100 ?_
                    refine px_iload dX11_point_205 rfl ?_
                    refine px_imul dX11_point_207 ?_
                    refine px_iadd dX11_point_208 ?_
                    refine px_iload dX11_point_209 rfl ?_
                    refine px_iadd dX11_point_211 ?_
                    exact px_iret dX11_point_212 rfl (by first | exact absurd h145 h176 | exact absurd h176 h145 | (refine ⟨?_, ?_⟩ <;> simp only [aPnt, h5, hnf, h21, h37, e, pnA, h84, h100, h145, not_true_eq_false, not_false_eq_true, if_true, if_false, and_self, or_true, true_or, or_false, false_or, true_and, and_true, false_and, and_false, or_self, ite_true, ite_false, reduceIte, oC, oR]; done)) (rfl)
                · refine px_iload dX11_point_148 rfl ?_
                  refine px_goto 155 dX11_point_150 rfl ?_
                  refine px_iadd dX11_point_155 ?_
                  refine px_si_7 dX11_point_156 rfl ?_
                  refine px_aload_n dX11_point_158 rfl rfl ?_
                  refine px_getR dX11_point_159 fX11_35 (xol rfl) hM rfl (wr_11_23 hW (xol rfl)) (Nat.succ_pos _) ?_
                  refine px_iconst dX11_point_162 ic_4 ?_
                  refine px_iload_n dX11_point_163 rfl rfl ?_
                  refine px_imul dX11_point_164 ?_
                  refine px_iconst dX11_point_165 ic_2 ?_
                  refine px_iadd dX11_point_166 ?_
                  refine px_top (y := nI (4 * f + 2)) (ixA 4 f 2) ?_
                  refine px_iald dX11_point_167 (xal (n := 33) rfl) hM (vp_in_nI (by omega) (by decide)) ?_
                  refine px_top (y := nI y) (by rw [nI_clamp (by omega)]; exact (hl.2 f p x y t (by omega) e).2.2.1) ?_
                  refine px_aload_n dX11_point_168 rfl rfl ?_
                  refine px_iload_n dX11_point_169 rfl rfl ?_
                  refine px_fV1i dX11_point_170 kX11_point_211 (xol rfl) hM (Nat.le_of_ble_eq_true rfl) (c_X11_edge (by omega) hM hW) ?_
                  refine px_top (y := nI (fd B g f 7)) (mSh_f hsh hok hf).1 ?_
                  refine px_iadd dX11_point_173 ?_
                  refine px_iload dX11_point_174 rfl ?_
                  refine px_if_eq 184 dX11_point_176 rfl (fun h176 => ?_) (fun h176 => ?_)
                  · refine px_iload dX11_point_184 rfl ?_
                    refine px_iadd dX11_point_186 ?_
                    refine px_si_8 dX11_point_187 rfl ?_
                    refine px_sipush dX11_point_189 sp_10000 ?_
                    refine px_aload_n dX11_point_192 rfl rfl ?_
                    refine px_getR dX11_point_193 fX11_35 (xol rfl) hM rfl (wr_11_23 hW (xol rfl)) (Nat.succ_pos _) ?_
                    refine px_iconst dX11_point_196 ic_4 ?_
                    refine px_iload_n dX11_point_197 rfl rfl ?_
                    refine px_imul dX11_point_198 ?_
                    refine px_iconst dX11_point_199 ic_0 ?_
                    refine px_iadd dX11_point_200 ?_
                    refine px_top (y := nI (4 * f + 0)) (ixA 4 f 0) ?_
                    refine px_iald dX11_point_201 (xal (n := 33) rfl) hM (vp_in_nI (by omega) (by decide)) ?_
                    refine px_top (y := nI p) (by rw [nI_clamp (by omega)]; exact (hl.2 f p x y t (by omega) e).1) ?_
                    refine px_imul dX11_point_202 ?_
                    refine px_bipush dX11_point_203 bp_100 ?_
                    refine px_iload dX11_point_205 rfl ?_
                    refine px_imul dX11_point_207 ?_
                    refine px_iadd dX11_point_208 ?_
                    refine px_iload dX11_point_209 rfl ?_
                    refine px_iadd dX11_point_211 ?_
                    exact px_iret dX11_point_212 rfl (by first | exact absurd h145 h176 | exact absurd h176 h145 | (refine ⟨?_, ?_⟩ <;> simp only [aPnt, h5, hnf, h21, h37, e, pnA, h84, h100, h145, not_true_eq_false, not_false_eq_true, if_true, if_false, and_self, or_true, true_or, or_false, false_or, true_and, and_true, false_and, and_false, or_self, ite_true, ite_false, reduceIte, oC, oR]; done)) (rfl)
                  · refine px_iload dX11_point_179 rfl ?_
                    refine px_goto 186 dX11_point_181 rfl ?_
                    refine px_iadd dX11_point_186 ?_
                    refine px_si_8 dX11_point_187 rfl ?_
                    refine px_sipush dX11_point_189 sp_10000 ?_
                    refine px_aload_n dX11_point_192 rfl rfl ?_
                    refine px_getR dX11_point_193 fX11_35 (xol rfl) hM rfl (wr_11_23 hW (xol rfl)) (Nat.succ_pos _) ?_
                    refine px_iconst dX11_point_196 ic_4 ?_
                    refine px_iload_n dX11_point_197 rfl rfl ?_
                    refine px_imul dX11_point_198 ?_
                    refine px_iconst dX11_point_199 ic_0 ?_
                    refine px_iadd dX11_point_200 ?_
                    refine px_top (y := nI (4 * f + 0)) (ixA 4 f 0) ?_
                    refine px_iald dX11_point_201 (xal (n := 33) rfl) hM (vp_in_nI (by omega) (by decide)) ?_
                    refine px_top (y := nI p) (by rw [nI_clamp (by omega)]; exact (hl.2 f p x y t (by omega) e).1) ?_
                    refine px_imul dX11_point_202 ?_
                    refine px_bipush dX11_point_203 bp_100 ?_
                    refine px_iload dX11_point_205 rfl ?_
                    refine px_imul dX11_point_207 ?_
                    refine px_iadd dX11_point_208 ?_
                    refine px_iload dX11_point_209 rfl ?_
                    refine px_iadd dX11_point_211 ?_
                    exact px_iret dX11_point_212 rfl (by first | exact absurd h145 h176 | exact absurd h176 h145 | (refine ⟨?_, ?_⟩ <;> simp only [aPnt, h5, hnf, h21, h37, e, pnA, h84, h100, h145, not_true_eq_false, not_false_eq_true, if_true, if_false, and_self, or_true, true_or, or_false, false_or, true_and, and_true, false_and, and_false, or_self, ite_true, ite_false, reduceIte, oC, oR]; done)) (rfl)
              · refine px_iconst dX11_point_120 ic_1 ?_
                refine px_goto 125 dX11_point_121 rfl ?_
                refine px_top (y := nI t) (by first | exact (way_1 ht h117) | exact (way_0 ht h117)) ?_
                refine px_si_6 dX11_point_125 rfl ?_
                refine px_aload_n dX11_point_127 rfl rfl ?_
                refine px_getR dX11_point_128 fX11_35 (xol rfl) hM rfl (wr_11_23 hW (xol rfl)) (Nat.succ_pos _) ?_
                refine px_iconst dX11_point_131 ic_4 ?_
                refine px_iload_n dX11_point_132 rfl rfl ?_
                refine px_imul dX11_point_133 ?_
                refine px_iconst dX11_point_134 ic_1 ?_
                refine px_iadd dX11_point_135 ?_
                refine px_top (y := nI (4 * f + 1)) (ixA 4 f 1) ?_
                refine px_iald dX11_point_136 (xal (n := 33) rfl) hM (vp_in_nI (by omega) (by decide)) ?_
                refine px_top (y := nI x) (by rw [nI_clamp (by omega)]; exact (hl.2 f p x y t (by omega) e).2.1) ?_
                refine px_aload_n dX11_point_137 rfl rfl ?_
                refine px_iload_n dX11_point_138 rfl rfl ?_
                refine px_fV1i dX11_point_139 kX11_point_211 (xol rfl) hM (Nat.le_of_ble_eq_true rfl) (c_X11_edge (by omega) hM hW) ?_
                refine px_top (y := nI (fd B g f 7)) (mSh_f hsh hok hf).1 ?_
                refine px_iadd dX11_point_142 ?_
                refine px_iload dX11_point_143 rfl ?_
                refine px_if_eq 153 dX11_point_145 rfl (fun h145 => ?_) (fun h145 => ?_)
                · refine px_iload dX11_point_153 rfl ?_
                  refine px_iadd dX11_point_155 ?_
                  refine px_si_7 dX11_point_156 rfl ?_
                  refine px_aload_n dX11_point_158 rfl rfl ?_
                  refine px_getR dX11_point_159 fX11_35 (xol rfl) hM rfl (wr_11_23 hW (xol rfl)) (Nat.succ_pos _) ?_
                  refine px_iconst dX11_point_162 ic_4 ?_
                  refine px_iload_n dX11_point_163 rfl rfl ?_
                  refine px_imul dX11_point_164 ?_
                  refine px_iconst dX11_point_165 ic_2 ?_
                  refine px_iadd dX11_point_166 ?_
                  refine px_top (y := nI (4 * f + 2)) (ixA 4 f 2) ?_
                  refine px_iald dX11_point_167 (xal (n := 33) rfl) hM (vp_in_nI (by omega) (by decide)) ?_
                  refine px_top (y := nI y) (by rw [nI_clamp (by omega)]; exact (hl.2 f p x y t (by omega) e).2.2.1) ?_
                  refine px_aload_n dX11_point_168 rfl rfl ?_
                  refine px_iload_n dX11_point_169 rfl rfl ?_
                  refine px_fV1i dX11_point_170 kX11_point_211 (xol rfl) hM (Nat.le_of_ble_eq_true rfl) (c_X11_edge (by omega) hM hW) ?_
                  refine px_top (y := nI (fd B g f 7)) (mSh_f hsh hok hf).1 ?_
                  refine px_iadd dX11_point_173 ?_
                  refine px_iload dX11_point_174 rfl ?_
                  refine px_if_eq 184 dX11_point_176 rfl (fun h176 => ?_) (fun h176 => ?_)
                  · refine px_iload dX11_point_184 rfl ?_
                    refine px_iadd dX11_point_186 ?_
                    refine px_si_8 dX11_point_187 rfl ?_
                    refine px_sipush dX11_point_189 sp_10000 ?_
                    refine px_aload_n dX11_point_192 rfl rfl ?_
                    refine px_getR dX11_point_193 fX11_35 (xol rfl) hM rfl (wr_11_23 hW (xol rfl)) (Nat.succ_pos _) ?_
                    refine px_iconst dX11_point_196 ic_4 ?_
                    refine px_iload_n dX11_point_197 rfl rfl ?_
                    refine px_imul dX11_point_198 ?_
                    refine px_iconst dX11_point_199 ic_0 ?_
                    refine px_iadd dX11_point_200 ?_
                    refine px_top (y := nI (4 * f + 0)) (ixA 4 f 0) ?_
                    refine px_iald dX11_point_201 (xal (n := 33) rfl) hM (vp_in_nI (by omega) (by decide)) ?_
                    refine px_top (y := nI p) (by rw [nI_clamp (by omega)]; exact (hl.2 f p x y t (by omega) e).1) ?_
                    refine px_imul dX11_point_202 ?_
                    refine px_bipush dX11_point_203 bp_100 ?_
                    refine px_iload dX11_point_205 rfl ?_
                    refine px_imul dX11_point_207 ?_
                    refine px_iadd dX11_point_208 ?_
                    refine px_iload dX11_point_209 rfl ?_
                    refine px_iadd dX11_point_211 ?_
                    exact px_iret dX11_point_212 rfl (by first | exact absurd h145 h176 | exact absurd h176 h145 | (refine ⟨?_, ?_⟩ <;> simp only [aPnt, h5, hnf, h21, h37, e, pnA, h84, h100, h145, not_true_eq_false, not_false_eq_true, if_true, if_false, and_self, or_true, true_or, or_false, false_or, true_and, and_true, false_and, and_false, or_self, ite_true, ite_false, reduceIte, oC, oR]; done)) (rfl)
                  · refine px_iload dX11_point_179 rfl ?_
                    refine px_goto 186 dX11_point_181 rfl ?_
                    refine px_iadd dX11_point_186 ?_
                    refine px_si_8 dX11_point_187 rfl ?_
                    refine px_sipush dX11_point_189 sp_10000 ?_
                    refine px_aload_n dX11_point_192 rfl rfl ?_
                    refine px_getR dX11_point_193 fX11_35 (xol rfl) hM rfl (wr_11_23 hW (xol rfl)) (Nat.succ_pos _) ?_
                    refine px_iconst dX11_point_196 ic_4 ?_
                    refine px_iload_n dX11_point_197 rfl rfl ?_
                    refine px_imul dX11_point_198 ?_
                    refine px_iconst dX11_point_199 ic_0 ?_
                    refine px_iadd dX11_point_200 ?_
                    refine px_top (y := nI (4 * f + 0)) (ixA 4 f 0) ?_
                    refine px_iald dX11_point_201 (xal (n := 33) rfl) hM (vp_in_nI (by omega) (by decide)) ?_
                    refine px_top (y := nI p) (by rw [nI_clamp (by omega)]; exact (hl.2 f p x y t (by omega) e).1) ?_
                    refine px_imul dX11_point_202 ?_
                    refine px_bipush dX11_point_203 bp_100 ?_
                    refine px_iload dX11_point_205 rfl ?_
                    refine px_imul dX11_point_207 ?_
                    refine px_iadd dX11_point_208 ?_
                    refine px_iload dX11_point_209 rfl ?_
                    refine px_iadd dX11_point_211 ?_
                    exact px_iret dX11_point_212 rfl (by first | exact absurd h145 h176 | exact absurd h176 h145 | (refine ⟨?_, ?_⟩ <;> simp only [aPnt, h5, hnf, h21, h37, e, pnA, h84, h100, h145, not_true_eq_false, not_false_eq_true, if_true, if_false, and_self, or_true, true_or, or_false, false_or, true_and, and_true, false_and, and_false, or_self, ite_true, ite_false, reduceIte, oC, oR]; done)) (rfl)
                · refine px_iload dX11_point_148 rfl ?_
                  refine px_goto 155 dX11_point_150 rfl ?_
                  refine px_iadd dX11_point_155 ?_
                  refine px_si_7 dX11_point_156 rfl ?_
                  refine px_aload_n dX11_point_158 rfl rfl ?_
                  refine px_getR dX11_point_159 fX11_35 (xol rfl) hM rfl (wr_11_23 hW (xol rfl)) (Nat.succ_pos _) ?_
                  refine px_iconst dX11_point_162 ic_4 ?_
                  refine px_iload_n dX11_point_163 rfl rfl ?_
                  refine px_imul dX11_point_164 ?_
                  refine px_iconst dX11_point_165 ic_2 ?_
                  refine px_iadd dX11_point_166 ?_
                  refine px_top (y := nI (4 * f + 2)) (ixA 4 f 2) ?_
                  refine px_iald dX11_point_167 (xal (n := 33) rfl) hM (vp_in_nI (by omega) (by decide)) ?_
                  refine px_top (y := nI y) (by rw [nI_clamp (by omega)]; exact (hl.2 f p x y t (by omega) e).2.2.1) ?_
                  refine px_aload_n dX11_point_168 rfl rfl ?_
                  refine px_iload_n dX11_point_169 rfl rfl ?_
                  refine px_fV1i dX11_point_170 kX11_point_211 (xol rfl) hM (Nat.le_of_ble_eq_true rfl) (c_X11_edge (by omega) hM hW) ?_
                  refine px_top (y := nI (fd B g f 7)) (mSh_f hsh hok hf).1 ?_
                  refine px_iadd dX11_point_173 ?_
                  refine px_iload dX11_point_174 rfl ?_
                  refine px_if_eq 184 dX11_point_176 rfl (fun h176 => ?_) (fun h176 => ?_)
                  · refine px_iload dX11_point_184 rfl ?_
                    refine px_iadd dX11_point_186 ?_
                    refine px_si_8 dX11_point_187 rfl ?_
                    refine px_sipush dX11_point_189 sp_10000 ?_
                    refine px_aload_n dX11_point_192 rfl rfl ?_
                    refine px_getR dX11_point_193 fX11_35 (xol rfl) hM rfl (wr_11_23 hW (xol rfl)) (Nat.succ_pos _) ?_
                    refine px_iconst dX11_point_196 ic_4 ?_
                    refine px_iload_n dX11_point_197 rfl rfl ?_
                    refine px_imul dX11_point_198 ?_
                    refine px_iconst dX11_point_199 ic_0 ?_
                    refine px_iadd dX11_point_200 ?_
                    refine px_top (y := nI (4 * f + 0)) (ixA 4 f 0) ?_
                    refine px_iald dX11_point_201 (xal (n := 33) rfl) hM (vp_in_nI (by omega) (by decide)) ?_
                    refine px_top (y := nI p) (by rw [nI_clamp (by omega)]; exact (hl.2 f p x y t (by omega) e).1) ?_
                    refine px_imul dX11_point_202 ?_
                    refine px_bipush dX11_point_203 bp_100 ?_
                    refine px_iload dX11_point_205 rfl ?_
                    refine px_imul dX11_point_207 ?_
                    refine px_iadd dX11_point_208 ?_
                    refine px_iload dX11_point_209 rfl ?_
                    refine px_iadd dX11_point_211 ?_
                    exact px_iret dX11_point_212 rfl (by first | exact absurd h145 h176 | exact absurd h176 h145 | (refine ⟨?_, ?_⟩ <;> simp only [aPnt, h5, hnf, h21, h37, e, pnA, h84, h100, h145, not_true_eq_false, not_false_eq_true, if_true, if_false, and_self, or_true, true_or, or_false, false_or, true_and, and_true, false_and, and_false, or_self, ite_true, ite_false, reduceIte, oC, oR]; done)) (rfl)
                  · refine px_iload dX11_point_179 rfl ?_
                    refine px_goto 186 dX11_point_181 rfl ?_
                    refine px_iadd dX11_point_186 ?_
                    refine px_si_8 dX11_point_187 rfl ?_
                    refine px_sipush dX11_point_189 sp_10000 ?_
                    refine px_aload_n dX11_point_192 rfl rfl ?_
                    refine px_getR dX11_point_193 fX11_35 (xol rfl) hM rfl (wr_11_23 hW (xol rfl)) (Nat.succ_pos _) ?_
                    refine px_iconst dX11_point_196 ic_4 ?_
                    refine px_iload_n dX11_point_197 rfl rfl ?_
                    refine px_imul dX11_point_198 ?_
                    refine px_iconst dX11_point_199 ic_0 ?_
                    refine px_iadd dX11_point_200 ?_
                    refine px_top (y := nI (4 * f + 0)) (ixA 4 f 0) ?_
                    refine px_iald dX11_point_201 (xal (n := 33) rfl) hM (vp_in_nI (by omega) (by decide)) ?_
                    refine px_top (y := nI p) (by rw [nI_clamp (by omega)]; exact (hl.2 f p x y t (by omega) e).1) ?_
                    refine px_imul dX11_point_202 ?_
                    refine px_bipush dX11_point_203 bp_100 ?_
                    refine px_iload dX11_point_205 rfl ?_
                    refine px_imul dX11_point_207 ?_
                    refine px_iadd dX11_point_208 ?_
                    refine px_iload dX11_point_209 rfl ?_
                    refine px_iadd dX11_point_211 ?_
                    exact px_iret dX11_point_212 rfl (by first | exact absurd h145 h176 | exact absurd h176 h145 | (refine ⟨?_, ?_⟩ <;> simp only [aPnt, h5, hnf, h21, h37, e, pnA, h84, h100, h145, not_true_eq_false, not_false_eq_true, if_true, if_false, and_self, or_true, true_or, or_false, false_or, true_and, and_true, false_and, and_false, or_self, ite_true, ite_false, reduceIte, oC, oR]; done)) (rfl)
            · refine px_bipush dX11_point_103 bp_m9 ?_
              exact px_iret dX11_point_105 rfl (by first | (refine ⟨?_, ?_⟩ <;> simp only [aPnt, h5, hnf, h21, h37, e, pnA, h84, not_true_eq_false, not_false_eq_true, if_true, if_false, and_self, or_true, true_or, or_false, false_or, true_and, and_true, false_and, and_false, or_self, ite_true, ite_false, reduceIte, oC, oR]; done) | (refine ⟨?_, ?_⟩ <;> simp only [aPnt, h5, hnf, h21, h37, e, pnA, h84, h100, not_true_eq_false, not_false_eq_true, if_true, if_false, and_self, or_true, true_or, or_false, false_or, true_and, and_true, false_and, and_false, or_self, ite_true, ite_false, reduceIte, oC, oR]; done)) (rfl)
        · have e : S.1 f = none := Classical.byContradiction h47
          refine px_bipush dX11_point_50 bp_m4 ?_
          exact px_iret dX11_point_52 rfl (by (refine ⟨?_, ?_⟩ <;> simp only [aPnt, h5, hnf, h21, h37, e, pnA, not_true_eq_false, not_false_eq_true, if_true, if_false, and_self, or_true, true_or, or_false, false_or, true_and, and_true, false_and, and_false, or_self, ite_true, ite_false, reduceIte, oC, oR]; done)) (rfl)
      · refine px_iconst dX11_point_40 ic_m1 ?_
        exact px_iret dX11_point_41 rfl (by first | (refine ⟨?_, ?_⟩ <;> simp only [aPnt, h5, not_true_eq_false, not_false_eq_true, if_true, if_false, and_self, or_true, true_or, or_false, false_or, true_and, and_true, false_and, and_false, or_self, ite_true, ite_false, reduceIte, oC, oR]; done) | (refine ⟨?_, ?_⟩ <;> simp only [aPnt, h5, hnf, h21, not_true_eq_false, not_false_eq_true, if_true, if_false, and_self, or_true, true_or, or_false, false_or, true_and, and_true, false_and, and_false, or_self, ite_true, ite_false, reduceIte, oC, oR]; done) | (refine ⟨?_, ?_⟩ <;> simp only [aPnt, h5, hnf, h21, h37, not_true_eq_false, not_false_eq_true, if_true, if_false, and_self, or_true, true_or, or_false, false_or, true_and, and_true, false_and, and_false, or_self, ite_true, ite_false, reduceIte, oC, oR]; done)) (rfl)

def tkN (A D : Nat → Nat) (lay : gLay) (pg : Int32) : Nat → Nat
  | 0 => 0
  | f + 1 => match lay f with
    | none => tkN A D lay pg f
    | some q => if nI q.1 = pg then tkN A D lay pg f + A f * D f else tkN A D lay pg f
theorem tkN_n {A D : Nat → Nat} {lay : gLay} {pg : Int32} {f : Nat} (h : lay f = none) : tkN A D lay pg (f + 1) = tkN A D lay pg f := by rw [tkN, h]
theorem tkN_s {A D : Nat → Nat} {lay : gLay} {pg : Int32} {f p x y t : Nat} (h : lay f = some (p, x, y, t)) : tkN A D lay pg (f + 1) = if nI p = pg then tkN A D lay pg f + A f * D f else tkN A D lay pg f := by rw [tkN, h]
theorem tkF_N {M : xMem} {n W H : Nat} {A D : Nat → Nat} {lay : gLay} {p : Nat} (hp : p < 2 ^ 30) (hs : shM M n W H A D) (h : lyM (M.1 83) lay) : ∀ i, i ≤ n → tkF M (nI p) i = nI (tkN A D lay (nI p) i)
  | 0, _ => rfl
  | i + 1, hi => by
    have h8 : n ≤ 8 := hs.2.2.2.1
    have hs2 := hs.2.2.2.2.2.2 i (by omega)
    have e2 : mNY M i 0 = nI (D i) := hs2.2.1
    rw [tkF, tkF_N hp hs h i (by omega), hs2.1, e2]
    cases hc : lay i with
    | none =>
      have e := h.1 i (by omega) hc
      rw [tkN_n hc, if_neg (show ¬ mn M i 0 = nI p by rw [show mn M i 0 = M.1 83 (4 * i) from rfl, e.1]; intro z; have := congrArg Int32.toInt z; rw [nI_toInt (by omega)] at this; revert this; simp only [Int32.reduceToInt]; omega), Int32.add_zero]
    | some q =>
      obtain ⟨p', x, y, t⟩ := q
      have e := h.2 i p' x y t (by omega) hc
      rw [tkN_s hc, show mn M i 0 = nI p' from e.1]
      by_cases z : nI p' = nI p
      · rw [if_pos z, if_pos z, pk_mul, nI_add]
      · rw [if_neg z, if_neg z, Int32.add_zero]

set_option maxRecDepth 100000 in
theorem l_X7_placesTaken {E : xE} {M : xMem} {s la n W H : Nat} {A D : Nat → Nat} {lay : gLay} {pg : Int32} (hM : xNT ≤ xN M) (hW : xWire M.2.1) (hs : xob s 7) (hla : xob la 1) (hsh : shC M s n W H A D) (hl : lyC (M.1 (la + 1)) lay) (hb : lyB lay) : PR E mX7_placesTaken (xN M) 5 [some (.ref s), some (.ref la), some (.int pg), some (.int (nI (tkN A D lay pg 0))), some (.int (nI 0))] [] (M) (fun r m => r = some (.int (nI (tkN A D lay pg n))) ∧ m = M) := by
  have h8 : n ≤ 8 := hsh.2.2.2.1
  refine px_for (P := fun i => PR E mX7_placesTaken (xN M) 5 [some (.ref s), some (.ref la), some (.int pg), some (.int (nI (tkN A D lay pg i))), some (.int (nI i))] [] (M) (fun r m => r = some (.int (nI (tkN A D lay pg n))) ∧ m = M)) (n) (fun i hi nx => ?_) (0) (by omega)
  refine px_iload dX7_placesTaken_5 rfl ?_
  refine px_aload_n dX7_placesTaken_7 rfl rfl ?_
  refine px_getI dX7_placesTaken_8 fX7_17 hs hM rfl ?_
  refine px_top (y := nI n) hsh.1 ?_
  refine px_icmp_ge 52 dX7_placesTaken_11 rfl (fun h11 => ?_) (fun h11 => ?_)
  · refine px_iload_n dX7_placesTaken_52 rfl rfl ?_
    exact px_iret dX7_placesTaken_53 rfl ⟨by rw [show i = n by rw [nI_leI (by omega) (by omega)] at h11; omega], rfl⟩ (rfl)
  · have hlt : i < n := by rw [nI_leI (by omega) (by omega)] at h11; omega
    have hfi : vp_in (nI i) 8 := vp_in_nI (by omega) (by decide)
    have hnf : (nI i).toNatClampNeg = i := nI_clamp (by omega)
    refine px_aload_n dX7_placesTaken_14 rfl rfl ?_
    refine px_iload dX7_placesTaken_15 rfl ?_
    refine px_fV1i dX7_placesTaken_17 kX7_placesTaken_35 hla hM (Nat.le_of_ble_eq_true rfl) (c_X1_isSet hla hM hW hfi) ?_
    refine px_top (y := zb (¬ lay i = none)) (lyC_is hl hb (by omega)) ?_
    refine px_zif_eq 46 dX7_placesTaken_20 rfl (fun h20 => ?_) (fun h20 => ?_)
    · refine px_inc_4 dX7_placesTaken_46 rfl ic_1 ?_
      refine px_goto 5 dX7_placesTaken_49 rfl ?_
      first
        | exact px_eq (by rw [nI_1, tkN_s e, if_pos h30]) rfl (nx hlt)
        | exact px_eq (by rw [nI_1, tkN_s e, if_neg h30]) rfl (nx hlt)
        | exact px_eq (by rw [nI_1, tkN_n (Classical.byContradiction h20)]) rfl (nx hlt)
    · obtain ⟨pp, x, y, t, e⟩ := lay_some h20
      refine px_aload_n dX7_placesTaken_23 rfl rfl ?_
      refine px_iload dX7_placesTaken_24 rfl ?_
      refine px_fV1i dX7_placesTaken_26 kX7_placesTaken_41 hla hM (Nat.le_of_ble_eq_true rfl) (c_X1_pageOf hla hM hW hfi) ?_
      refine px_top (y := nI pp) (by rw [hnf]; exact (lyC_s hl hb e).2.1) ?_
      refine px_iload_n dX7_placesTaken_29 rfl rfl ?_
      refine px_icmp_ne 46 dX7_placesTaken_30 rfl (fun h30 => ?_) (fun h30 => ?_)
      · refine px_inc_4 dX7_placesTaken_46 rfl ic_1 ?_
        refine px_goto 5 dX7_placesTaken_49 rfl ?_
        first
          | exact px_eq (by rw [nI_1, tkN_s e, if_pos h30]) rfl (nx hlt)
          | exact px_eq (by rw [nI_1, tkN_s e, if_neg h30]) rfl (nx hlt)
          | exact px_eq (by rw [nI_1, tkN_n (Classical.byContradiction h20)]) rfl (nx hlt)
      · refine px_iload_n dX7_placesTaken_33 rfl rfl ?_
        refine px_aload_n dX7_placesTaken_34 rfl rfl ?_
        refine px_getR dX7_placesTaken_35 fX7_11 hs hM rfl (wr_7_0 hW hs) (Nat.succ_pos _) ?_
        refine px_iload dX7_placesTaken_38 rfl ?_
        refine px_aald (t0 := 6) dX7_placesTaken_40 (ar_7 hs) (by decide) (fun _ => rfl) hM hfi (show M.2.1 (s + 1) (nI i).toNatClampNeg = s + 1 + 1 + i by rw [hnf]; exact wa_26 hW (ar_7 hs) (by omega)) (by omega) ?_
        refine px_fV0i dX7_placesTaken_41 kX7_placesTaken_45 (ob_frame hs (by omega)) hM (Nat.le_of_ble_eq_true rfl) (c_X0_needsPlaces (ob_frame hs (by omega)) hM) ?_
        refine px_top (y := nI (A i * D i)) (by rw [(hsh.2.2.2.2.2.2 i hlt).1, (hsh.2.2.2.2.2.2 i hlt).2.1, pk_mul]) ?_
        refine px_iadd dX7_placesTaken_44 ?_
        refine px_top (y := nI (tkN A D lay pg i + A i * D i)) (nI_add _ _) ?_
        refine px_si_3 dX7_placesTaken_45 rfl ?_
        refine px_inc_4 dX7_placesTaken_46 rfl ic_1 ?_
        refine px_goto 5 dX7_placesTaken_49 rfl ?_
        first
          | exact px_eq (by rw [nI_1, tkN_s e, if_pos h30]) rfl (nx hlt)
          | exact px_eq (by rw [nI_1, tkN_s e, if_neg h30]) rfl (nx hlt)
          | exact px_eq (by rw [nI_1, tkN_n (Classical.byContradiction h20)]) rfl (nx hlt)

set_option maxRecDepth 100000 in
theorem c_X7_placesTaken {E : xE} {M : xMem} {s la n W H : Nat} {A D : Nat → Nat} {lay : gLay} {pg : Int32} (hM : xNT ≤ xN M) (hW : xWire M.2.1) (hs : xob s 7) (hla : xob la 1) (hsh : shC M s n W H A D) (hl : lyC (M.1 (la + 1)) lay) (hb : lyB lay) : Cf E mX7_placesTaken [.ref s, .ref la, .int pg] M (some (.int (nI (tkN A D lay pg n)))) M := by
  refine Ct.of (lo := [some (.ref s), some (.ref la), some (.int pg), none, none]) pln_X7 (Nat.le_of_ble_eq_true rfl) rfl (Nat.le_refl _) ?_
  refine px_iconst dX7_placesTaken_0 ic_0 ?_
  refine px_si_3 dX7_placesTaken_1 rfl ?_
  refine px_iconst dX7_placesTaken_2 ic_0 ?_
  refine px_si_4 dX7_placesTaken_3 rfl ?_
  exact l_X7_placesTaken hM hW hs hla hsh hl hb

theorem pg_n {n W H : Nat} {A D : Nat → Nat} {lay : gLay} (ho : lyOK n W H A D lay) {v : Int32} (hv : 0 ≤ v ∧ v < nI (pgL lay 8)) : 0 < n := by
  apply Classical.byContradiction
  intro z
  have e : n = 0 := by omega
  subst e
  rw [(L_more ho.1 8 (by omega)).1] at hv
  exact absurd hv.2 (n_le hv.1)
def aUse (W H : Nat) (A D : Nat → Nat) (lay : gLay) (n : Nat) (v : Int32) : aOut := if ¬ (0 ≤ v ∧ v < nI (pgL lay 8)) then aBad else (nI (tkN A D lay v n), some (100 * nI (tkN A D lay v n) / nI (W * H)), none)
theorem wh_nz {W H : Nat} (hW : W ≤ 16) (hH : H ≤ 16) (h : 4 ≤ W ∧ 4 ≤ H) : ¬ nI (W * H) = 0 := by
  have h1 : W * H ≤ 256 := Nat.mul_le_mul hW hH
  have h2 : 16 ≤ W * H := Nat.mul_le_mul h.1 h.2
  intro z
  have := nI_is (show (0 : Int32) = nI 0 from rfl) (by omega) (by decide) z
  omega

set_option maxRecDepth 100000 in
theorem c_X10_used {E : xE} {M : xMem} {s n W H B dd : Nat} {g : Nat → Nat → Nat} {S : gLay × Nat} {P : Nat → gLay × Nat} (hc : cHy M s n W H B g dd S P) {v : Int32} : Cf E mX10_used [.ref 1, .int v] M (some (.int (aUse W H (aA B g) (aD B g) S.1 n v).1)) (oC M (aUse W H (aA B g) (aD B g) S.1 n v).2.1 (aUse W H (aA B g) (aD B g) S.1 n v).2.2) := by
  refine Ct.of (lo := [some (.ref 1), some (.int v), none, none]) pln_X10 (Nat.le_of_ble_eq_true rfl) rfl (Nat.le_refl _) ?_
  have hc0 := hc
  obtain ⟨hM, hW, hs, hcu, hsh, hok, hst, hly, hru⟩ := hc
  have hp0 : 0 < s := hs.1
  have h8 : n ≤ 8 := hok.1
  have hb : lyB S.1 := (hsh.s hok).b hly
  have hl : lyC (M.1 8) S.1 := hst.2.2.1
  have hpg := pgL_le hb 8
  refine px_aload_n dX10_used_0 rfl rfl ?_
  refine px_iload_n dX10_used_1 rfl rfl ?_
  refine px_fV1i dX10_used_2 kX10_used_229 (xol rfl) hM (Nat.le_of_ble_eq_true rfl) (c_X10_isPage hc0) ?_
  refine px_zif_ne 10 dX10_used_5 rfl (fun h5 => ?_) (fun h5 => ?_)
  · have hn0 := pg_n hly h5
    have hnz := wh_nz hok.2.1 hok.2.2.1 (hok.2.2.2.2.1 hn0)
    
    refine px_aload_n dX10_used_10 rfl rfl ?_
    refine px_getR dX10_used_11 fX10_71 (xol rfl) hM rfl (by assumption) (by assumption) ?_
    refine px_aload_n dX10_used_14 rfl rfl ?_
    refine px_getR dX10_used_15 fX10_32 (xol rfl) hM rfl (wr_10_4 hW (xol rfl)) (Nat.succ_pos _) ?_
    refine px_getR dX10_used_18 fX10_163 (xol rfl) hM rfl (wr_8_0 hW (xol rfl)) (Nat.succ_pos _) ?_
    refine px_iload_n dX10_used_21 rfl rfl ?_
    refine px_fV2i dX10_used_22 kX10_used_281 hs hM (Nat.le_of_ble_eq_true rfl) (c_X7_placesTaken (la := 7) hM hW hs (xol rfl) (hsh.s hok) hl hb) ?_
    refine px_si_2 dX10_used_25 rfl ?_
    refine px_aload_n dX10_used_26 rfl rfl ?_
    refine px_getR dX10_used_27 fX10_71 (xol rfl) hM rfl (by assumption) (by assumption) ?_
    refine px_getI dX10_used_30 fX10_243 hs hM rfl ?_
    refine px_top (y := nI W) hsh.2.1 ?_
    refine px_aload_n dX10_used_33 rfl rfl ?_
    refine px_getR dX10_used_34 fX10_71 (xol rfl) hM rfl (by assumption) (by assumption) ?_
    refine px_getI dX10_used_37 fX10_246 hs hM rfl ?_
    refine px_top (y := nI H) hsh.2.2.1 ?_
    refine px_imul dX10_used_40 ?_
    refine px_top (y := nI (W * H)) (pk_mul W H) ?_
    refine px_si_3 dX10_used_41 rfl ?_
    refine px_aload_n dX10_used_42 rfl rfl ?_
    refine px_iload_n dX10_used_43 rfl rfl ?_
    refine px_if_ne 51 dX10_used_44 rfl (fun h44 => ?_) (fun h44 => ?_)
    · refine px_bipush dX10_used_51 bp_100 ?_
      refine px_iload_n dX10_used_53 rfl rfl ?_
      refine px_imul dX10_used_54 ?_
      refine px_iload_n dX10_used_55 rfl rfl ?_
      refine px_idiv dX10_used_56 hnz ?_
      refine px_putI dX10_used_57 fX10_75 p10_11 (xol rfl) hM rfl ?_
      refine px_iload_n dX10_used_60 rfl rfl ?_
      exact px_iret dX10_used_61 rfl (by first | exact absurd h44 hnz | (refine ⟨?_, ?_⟩ <;> simp only [aUse, h5, not_true_eq_false, not_false_eq_true, if_true, if_false, and_self, or_true, true_or, or_false, false_or, true_and, and_true, false_and, and_false, or_self, ite_true, ite_false, reduceIte, oC, oR]; done)) (rfl)
    · refine px_iconst dX10_used_47 ic_0 ?_
      refine px_goto 57 dX10_used_48 rfl ?_
      refine px_putI dX10_used_57 fX10_75 p10_11 (xol rfl) hM rfl ?_
      refine px_iload_n dX10_used_60 rfl rfl ?_
      exact px_iret dX10_used_61 rfl (by first | exact absurd h44 hnz | (refine ⟨?_, ?_⟩ <;> simp only [aUse, h5, not_true_eq_false, not_false_eq_true, if_true, if_false, and_self, or_true, true_or, or_false, false_or, true_and, and_true, false_and, and_false, or_self, ite_true, ite_false, reduceIte, oC, oR]; done)) (rfl)
  · refine px_iconst dX10_used_8 ic_m1 ?_
    exact px_iret dX10_used_9 rfl (by (refine ⟨?_, ?_⟩ <;> simp only [aUse, h5, not_true_eq_false, not_false_eq_true, if_true, if_false, and_self, or_true, true_or, or_false, false_or, true_and, and_true, false_and, and_false, or_self, ite_true, ite_false, reduceIte, oC, oR]; done)) (rfl)

set_option maxRecDepth 100000 in
theorem c_X11_used {E : xE} {M : xMem} {n W H B dd : Nat} {g : Nat → Nat → Nat} {S : gLay × Nat} {P : Nat → gLay × Nat} (hc : rHy M n W H B g dd S P) {v : Int32} : Cf E mX11_used [.ref 74, .int v] M (some (.int (aUse W H (aA B g) (aD B g) S.1 n v).1)) (oR M (aUse W H (aA B g) (aD B g) S.1 n v).2.1 (aUse W H (aA B g) (aD B g) S.1 n v).2.2) := by
  refine Ct.of (lo := [some (.ref 74), some (.int v), none]) pln_X11 (Nat.le_of_ble_eq_true rfl) rfl (Nat.le_refl _) ?_
  have hc0 := hc
  obtain ⟨hM, hW, hsh, hok, hst, hly, hru⟩ := hc
  have h8 : n ≤ 8 := hok.1
  have hb : lyB S.1 := (hsh.s hok).b hly
  have hl : lyM (M.1 83) S.1 := lyM_c hst.2.2.1.1 (fun k _ => by rw [Nat.zero_add])
  have hpg := pgL_le hb 8
  refine px_aload_n dX11_used_0 rfl rfl ?_
  refine px_iload_n dX11_used_1 rfl rfl ?_
  refine px_fV1i dX11_used_2 kX11_used_302 (xol rfl) hM (Nat.le_of_ble_eq_true rfl) (c_X11_isPage hc0) ?_
  refine px_zif_ne 10 dX11_used_5 rfl (fun h5 => ?_) (fun h5 => ?_)
  · have hn0 := pg_n hly h5
    have hnz := wh_nz hok.2.1 hok.2.2.1 (hok.2.2.2.2.1 hn0)
    obtain ⟨p, hp, rfl⟩ := in_nat (by omega) h5
    refine px_aload_n dX11_used_10 rfl rfl ?_
    refine px_iload_n dX11_used_11 rfl rfl ?_
    refine px_fV1i dX11_used_12 kX11_used_314 (xol rfl) hM (Nat.le_of_ble_eq_true rfl) (c_X11_takenOf hM hW h8 hsh.1) ?_
    refine px_top (y := nI (tkN (aA B g) (aD B g) S.1 (nI p) n)) (tkF_N (by omega) (hsh.s hok) hl n (Nat.le_refl _)) ?_
    refine px_si_2 dX11_used_15 rfl ?_
    refine px_aload_n dX11_used_16 rfl rfl ?_
    refine px_bipush dX11_used_17 bp_100 ?_
    refine px_iload_n dX11_used_19 rfl rfl ?_
    refine px_imul dX11_used_20 ?_
    refine px_aload_n dX11_used_21 rfl rfl ?_
    refine px_getI dX11_used_22 fX11_170 (xol rfl) hM rfl ?_
    refine px_top (y := nI W) hsh.2.1 ?_
    refine px_aload_n dX11_used_25 rfl rfl ?_
    refine px_getI dX11_used_26 fX11_173 (xol rfl) hM rfl ?_
    refine px_top (y := nI H) hsh.2.2.1 ?_
    refine px_imul dX11_used_29 ?_
    refine px_top (y := nI (W * H)) (pk_mul W H) ?_
    refine px_idiv dX11_used_30 hnz ?_
    refine px_iload_n dX11_used_31 rfl rfl ?_
    refine px_fV2i dX11_used_32 kX11_used_91 (xol rfl) hM (Nat.le_of_ble_eq_true rfl) (c_X11_tells hM) ?_
    exact px_iret dX11_used_35 rfl (by (refine ⟨?_, ?_⟩ <;> simp only [aUse, h5, not_true_eq_false, not_false_eq_true, if_true, if_false, and_self, or_true, true_or, or_false, false_or, true_and, and_true, false_and, and_false, or_self, ite_true, ite_false, reduceIte, oC, oR]; done)) (rfl)
  · refine px_iconst dX11_used_8 ic_m1 ?_
    exact px_iret dX11_used_9 rfl (by (refine ⟨?_, ?_⟩ <;> simp only [aUse, h5, not_true_eq_false, not_false_eq_true, if_true, if_false, and_self, or_true, true_or, or_false, false_or, true_and, and_true, false_and, and_false, or_self, ite_true, ite_false, reduceIte, oC, oR]; done)) (rfl)

def rP (r : gR) (w : Int32) : Int32 := if w = 0 then nI r.1 else if w = 1 then nI r.2.1 else if w = 2 then nI r.2.2.1 else nI r.2.2.2
noncomputable def aFre (W H : Nat) (A D : Nat → Nat) (lay : gLay) (v k w : Int32) : aOut := if ¬ (0 ≤ v ∧ v < nI (pgL lay 8)) then aBad else if k < 0 then aBad else if ¬ (0 ≤ w ∧ w < 4) then aBad else if ¬ k < nI (fL W H (lOcc A D lay v.toNatClampNeg)).length then (-9, none, none) else (1, some (rP (gd (fL W H (lOcc A D lay v.toNatClampNeg)) k.toNatClampNeg) w), none)

set_option maxRecDepth 100000 in
theorem c_X4_part {E : xE} {M : xMem} {L : List gR} {k : Nat} {w : Int32} (hM : xNT ≤ xN M) (hW : xWire M.2.1) (hC : frC M L) (hB : ∀ r ∈ L, rB r) (h729 : L.length ≤ 729) (hk : k < L.length) : Cf E mX4_part [.ref 25, .int (nI k), .int w] M (some (.int (rP (gd L k) w))) M := by
  refine Ct.of (lo := [some (.ref 25), some (.int (nI k)), some (.int w)]) pln_X4 (Nat.le_of_ble_eq_true rfl) rfl (Nat.le_refl _) ?_
  have hg := hC.2 k _ (gd_at hk)
  have hd := rc_dec (gd_B hB k)
  have hnk : (nI k).toNatClampNeg = k := nI_clamp (by omega)
  refine px_iload_n dX4_part_0 rfl rfl ?_
  by_cases s1_0 : w = 0
  · refine px_tableIn (off := 27) 28 dX4_part_1 (by rw [s1_0]; decide) (by rw [s1_0]; decide) (by rw [s1_0]; rfl) rfl ?_
    refine px_aload_n dX4_part_28 rfl rfl ?_
    refine px_getR dX4_part_29 fX4_15 (xol rfl) hM rfl (wr_4_1 hW (xol rfl)) (Nat.succ_pos _) ?_
    refine px_iload_n dX4_part_32 rfl rfl ?_
    refine px_iald dX4_part_33 (xal (n := 729) rfl) hM (vp_in_nI (by omega) (by decide)) ?_
    refine px_top (y := nI (gEnc (gd L k))) (by rw [hnk]; exact hg) ?_
    refine px_fS1i dX4_part_34 kX4_part_89 (Nat.le_of_ble_eq_true rfl) (c_X4_xOf) ?_
    refine px_top (y := nI (gd L k).1) hd.2.1 ?_
    exact px_iret dX4_part_37 rfl ⟨by unfold rP; simp only [s1_0, if_true, if_false, reduceIte]; try rfl, rfl⟩ (rfl)
  by_cases s1_1 : w = 1
  · refine px_tableIn (off := 37) 38 dX4_part_1 (by rw [s1_1]; decide) (by rw [s1_1]; decide) (by rw [s1_1]; rfl) rfl ?_
    refine px_aload_n dX4_part_38 rfl rfl ?_
    refine px_getR dX4_part_39 fX4_15 (xol rfl) hM rfl (wr_4_1 hW (xol rfl)) (Nat.succ_pos _) ?_
    refine px_iload_n dX4_part_42 rfl rfl ?_
    refine px_iald dX4_part_43 (xal (n := 729) rfl) hM (vp_in_nI (by omega) (by decide)) ?_
    refine px_top (y := nI (gEnc (gd L k))) (by rw [hnk]; exact hg) ?_
    refine px_fS1i dX4_part_44 kX4_part_90 (Nat.le_of_ble_eq_true rfl) (c_X4_yOf) ?_
    refine px_top (y := nI (gd L k).2.1) hd.1 ?_
    exact px_iret dX4_part_47 rfl ⟨by unfold rP; simp only [s1_0, s1_1, if_true, if_false, reduceIte]; try rfl, rfl⟩ (rfl)
  by_cases s1_2 : w = 2
  · refine px_tableIn (off := 47) 48 dX4_part_1 (by rw [s1_2]; decide) (by rw [s1_2]; decide) (by rw [s1_2]; rfl) rfl ?_
    refine px_aload_n dX4_part_48 rfl rfl ?_
    refine px_getR dX4_part_49 fX4_15 (xol rfl) hM rfl (wr_4_1 hW (xol rfl)) (Nat.succ_pos _) ?_
    refine px_iload_n dX4_part_52 rfl rfl ?_
    refine px_iald dX4_part_53 (xal (n := 729) rfl) hM (vp_in_nI (by omega) (by decide)) ?_
    refine px_top (y := nI (gEnc (gd L k))) (by rw [hnk]; exact hg) ?_
    refine px_fS1i dX4_part_54 kX4_part_91 (Nat.le_of_ble_eq_true rfl) (c_X4_acrossOf) ?_
    refine px_top (y := nI (gd L k).2.2.1) hd.2.2.1 ?_
    exact px_iret dX4_part_57 rfl ⟨by unfold rP; simp only [s1_0, s1_1, s1_2, if_true, if_false, reduceIte]; try rfl, rfl⟩ (rfl)
  refine px_tableOut 58 dX4_part_1 (by simp only [← Int32.toInt_inj, Int32.reduceToInt] at *; omega) rfl ?_
  refine px_aload_n dX4_part_58 rfl rfl ?_
  refine px_getR dX4_part_59 fX4_15 (xol rfl) hM rfl (wr_4_1 hW (xol rfl)) (Nat.succ_pos _) ?_
  refine px_iload_n dX4_part_62 rfl rfl ?_
  refine px_iald dX4_part_63 (xal (n := 729) rfl) hM (vp_in_nI (by omega) (by decide)) ?_
  refine px_top (y := nI (gEnc (gd L k))) (by rw [hnk]; exact hg) ?_
  refine px_fS1i dX4_part_64 kX4_part_94 (Nat.le_of_ble_eq_true rfl) (c_X4_downOf) ?_
  refine px_top (y := nI (gd L k).2.2.2) hd.2.2.2 ?_
  exact px_iret dX4_part_67 rfl ⟨by unfold rP; simp only [s1_0, s1_1, s1_2, if_true, if_false, reduceIte]; try rfl, rfl⟩ (rfl)

set_option maxRecDepth 100000 in
theorem c_X10_free {E : xE} {M : xMem} {s n W H B dd : Nat} {g : Nat → Nat → Nat} {S : gLay × Nat} {P : Nat → gLay × Nat} (hc : cHy M s n W H B g dd S P) {v k w : Int32} : Ct E mX10_free [.ref 1, .int v, .int k, .int w] M (xN M) (fun r m => r = some (.int (aFre W H (aA B g) (aD B g) S.1 v k w).1) ∧ cS (oC M (aFre W H (aA B g) (aD B g) S.1 v k w).2.1 (aFre W H (aA B g) (aD B g) S.1 v k w).2.2) m) := by
  have hc0 := hc
  obtain ⟨hM, hW, hs, hcu, hsh, hok, hst, hly, hru⟩ := hc
  have hp0 : 0 < s := hs.1
  have h8 : n ≤ 8 := hok.1
  have hb : lyB S.1 := (hsh.s hok).b hly
  have hl : lyC (M.1 8) S.1 := hst.2.2.1
  have hpg := pgL_le hb 8
  refine Ct.of (lo := [some (.ref 1), some (.int v), some (.int k), some (.int w), none]) pln_X10 (Nat.le_of_ble_eq_true rfl) rfl (Nat.le_refl _) ?_
  refine px_aload_n dX10_free_0 rfl rfl ?_
  refine px_iload_n dX10_free_1 rfl rfl ?_
  refine px_fV1i dX10_free_2 kX10_free_229 (xol rfl) hM (Nat.le_of_ble_eq_true rfl) (c_X10_isPage hc0) ?_
  refine px_zif_eq 20 dX10_free_5 rfl (fun h5 => ?_) (fun h5 => ?_)
  · refine px_iconst dX10_free_20 ic_m1 ?_
    exact px_iret dX10_free_21 rfl (by first | exact ⟨by simp only [aFre, h5, not_true_eq_false, not_false_eq_true, if_true, if_false, and_self, or_true, true_or, or_false, false_or, true_and, and_true, false_and, and_false, or_self, ite_true, ite_false, reduceIte, oC, oR], by simp only [aFre, h5, not_true_eq_false, not_false_eq_true, if_true, if_false, and_self, or_true, true_or, or_false, false_or, true_and, and_true, false_and, and_false, or_self, ite_true, ite_false, reduceIte, oC, oR]; exact cS.rf _⟩ | exact ⟨by simp only [aFre, h5, h9, not_true_eq_false, not_false_eq_true, if_true, if_false, and_self, or_true, true_or, or_false, false_or, true_and, and_true, false_and, and_false, or_self, ite_true, ite_false, reduceIte, oC, oR], by simp only [aFre, h5, h9, not_true_eq_false, not_false_eq_true, if_true, if_false, and_self, or_true, true_or, or_false, false_or, true_and, and_true, false_and, and_false, or_self, ite_true, ite_false, reduceIte, oC, oR]; exact cS.rf _⟩ | exact ⟨by simp only [aFre, h5, h9, h17, not_true_eq_false, not_false_eq_true, if_true, if_false, and_self, or_true, true_or, or_false, false_or, true_and, and_true, false_and, and_false, or_self, ite_true, ite_false, reduceIte, oC, oR], by simp only [aFre, h5, h9, h17, not_true_eq_false, not_false_eq_true, if_true, if_false, and_self, or_true, true_or, or_false, false_or, true_and, and_true, false_and, and_false, or_self, ite_true, ite_false, reduceIte, oC, oR]; exact cS.rf _⟩) (by first | rfl | exact hn45)
  · refine px_iload_n dX10_free_8 rfl rfl ?_
    refine px_if_lt 20 dX10_free_9 rfl (fun h9 => ?_) (fun h9 => ?_)
    · refine px_iconst dX10_free_20 ic_m1 ?_
      exact px_iret dX10_free_21 rfl (by first | exact ⟨by simp only [aFre, h5, not_true_eq_false, not_false_eq_true, if_true, if_false, and_self, or_true, true_or, or_false, false_or, true_and, and_true, false_and, and_false, or_self, ite_true, ite_false, reduceIte, oC, oR], by simp only [aFre, h5, not_true_eq_false, not_false_eq_true, if_true, if_false, and_self, or_true, true_or, or_false, false_or, true_and, and_true, false_and, and_false, or_self, ite_true, ite_false, reduceIte, oC, oR]; exact cS.rf _⟩ | exact ⟨by simp only [aFre, h5, h9, not_true_eq_false, not_false_eq_true, if_true, if_false, and_self, or_true, true_or, or_false, false_or, true_and, and_true, false_and, and_false, or_self, ite_true, ite_false, reduceIte, oC, oR], by simp only [aFre, h5, h9, not_true_eq_false, not_false_eq_true, if_true, if_false, and_self, or_true, true_or, or_false, false_or, true_and, and_true, false_and, and_false, or_self, ite_true, ite_false, reduceIte, oC, oR]; exact cS.rf _⟩ | exact ⟨by simp only [aFre, h5, h9, h17, not_true_eq_false, not_false_eq_true, if_true, if_false, and_self, or_true, true_or, or_false, false_or, true_and, and_true, false_and, and_false, or_self, ite_true, ite_false, reduceIte, oC, oR], by simp only [aFre, h5, h9, h17, not_true_eq_false, not_false_eq_true, if_true, if_false, and_self, or_true, true_or, or_false, false_or, true_and, and_true, false_and, and_false, or_self, ite_true, ite_false, reduceIte, oC, oR]; exact cS.rf _⟩) (by first | rfl | exact hn45)
    · refine px_iload_n dX10_free_12 rfl rfl ?_
      refine px_iconst dX10_free_13 ic_4 ?_
      refine px_fS2i dX10_free_14 kX10_free_84 (Nat.le_of_ble_eq_true rfl) (c_X10_isBelow) ?_
      refine px_zif_ne 22 dX10_free_17 rfl (fun h17 => ?_) (fun h17 => ?_)
      · obtain ⟨p, hp, rfl⟩ := in_nat (by omega) h5
        have hnp : (nI p).toNatClampNeg = p := nI_clamp (by omega)
        obtain ⟨kk, hkk, rfl⟩ := nI_of h9
        have hnk : (nI kk).toNatClampNeg = kk := nI_clamp (by omega)
        refine px_aload_n dX10_free_22 rfl rfl ?_
        refine px_getR dX10_free_23 fX10_53 (xol rfl) hM rfl (wr_10_7 hW (xol rfl)) (Nat.succ_pos _) ?_
        refine px_getR dX10_free_26 fX10_232 (xol rfl) hM rfl (wr_2_0 hW (xol rfl)) (Nat.succ_pos _) ?_
        refine px_sa_4 dX10_free_29 rfl ?_
        refine px_aload dX10_free_31 rfl ?_
        refine px_aload_n dX10_free_33 rfl rfl ?_
        refine px_getR dX10_free_34 fX10_71 (xol rfl) hM rfl (by assumption) (by assumption) ?_
        refine px_aload_n dX10_free_37 rfl rfl ?_
        refine px_getR dX10_free_38 fX10_32 (xol rfl) hM rfl (wr_10_4 hW (xol rfl)) (Nat.succ_pos _) ?_
        refine px_getR dX10_free_41 fX10_163 (xol rfl) hM rfl (wr_8_0 hW (xol rfl)) (Nat.succ_pos _) ?_
        refine px_iload_n dX10_free_44 rfl rfl ?_
        refine px_gV3 dX10_free_45 kX10_free_236 (xol rfl) hM (Nat.le_of_ble_eq_true rfl) (c_X4_look (n := n) (W := W) (H := H) (la := 7) hM hW hs (xol rfl) (hsh.s hok) hl hly (by omega)) (fun r45 M45 hq45 hn45 => ?_)
        obtain ⟨rfl, L, q1, q2, q3⟩ := hq45
        have hcap := lcap (p := p) hly h8 L q3.1 (fun q hq => (q3.2 q).mp hq)
        have hB := gIs_B hok.2.1 hok.2.2.1 q3
        have eL := fL_eq q3
        have hm : xNT ≤ xN M45 := by rw [hn45]; exact hM
        have hw : xWire M45.2.1 := by rw [q1.w]; exact hW
        refine px_iload_n dX10_free_48 rfl rfl ?_
        refine px_aload dX10_free_49 rfl ?_
        refine px_getI dX10_free_51 fX10_241 (xol rfl) hm rfl ?_
        refine px_top (y := nI L.length) q2.1 ?_
        refine px_icmp_lt 60 dX10_free_54 rfl (fun h54 => ?_) (fun h54 => ?_)
        · have hkl : kk < L.length := by rw [nI_ltI (by omega) (by omega)] at h54; exact h54
          refine px_aload_n dX10_free_60 rfl rfl ?_
          refine px_aload dX10_free_61 rfl ?_
          refine px_iload_n dX10_free_63 rfl rfl ?_
          refine px_iload_n dX10_free_64 rfl rfl ?_
          refine px_fV2i dX10_free_65 kX10_free_242 (xol rfl) hm (Nat.le_of_ble_eq_true rfl) (c_X4_part hm hw q2 hB hcap hkl) ?_
          refine px_fV1i dX10_free_68 kX10_free_106 (xol rfl) hm (Nat.le_of_ble_eq_true rfl) (c_X10_tell hm) ?_
          exact px_iret dX10_free_71 rfl ⟨by subst eL; simp only [aFre, h5, h9, h17, hnp, hnk, h54, not_true_eq_false, not_false_eq_true, if_true, if_false, and_self, or_true, true_or, or_false, false_or, true_and, and_true, false_and, and_false, or_self, ite_true, ite_false, reduceIte, oC, oR], by subst eL; simp only [aFre, h5, h9, h17, hnp, hnk, h54, not_true_eq_false, not_false_eq_true, if_true, if_false, and_self, or_true, true_or, or_false, false_or, true_and, and_true, false_and, and_false, or_self, ite_true, ite_false, reduceIte, oC, oR]; exact q1.c.wI _ _ _⟩ (by first | rfl | exact hn45)
        · refine px_bipush dX10_free_57 bp_m9 ?_
          exact px_iret dX10_free_59 rfl ⟨by subst eL; simp only [aFre, h5, h9, h17, hnp, h54, not_true_eq_false, not_false_eq_true, if_true, if_false, and_self, or_true, true_or, or_false, false_or, true_and, and_true, false_and, and_false, or_self, ite_true, ite_false, reduceIte, oC, oR], by subst eL; simp only [aFre, h5, h9, h17, hnp, h54, not_true_eq_false, not_false_eq_true, if_true, if_false, and_self, or_true, true_or, or_false, false_or, true_and, and_true, false_and, and_false, or_self, ite_true, ite_false, reduceIte, oC, oR]; exact q1.c⟩ (by first | rfl | exact hn45)
      · refine px_iconst dX10_free_20 ic_m1 ?_
        exact px_iret dX10_free_21 rfl (by first | exact ⟨by simp only [aFre, h5, not_true_eq_false, not_false_eq_true, if_true, if_false, and_self, or_true, true_or, or_false, false_or, true_and, and_true, false_and, and_false, or_self, ite_true, ite_false, reduceIte, oC, oR], by simp only [aFre, h5, not_true_eq_false, not_false_eq_true, if_true, if_false, and_self, or_true, true_or, or_false, false_or, true_and, and_true, false_and, and_false, or_self, ite_true, ite_false, reduceIte, oC, oR]; exact cS.rf _⟩ | exact ⟨by simp only [aFre, h5, h9, not_true_eq_false, not_false_eq_true, if_true, if_false, and_self, or_true, true_or, or_false, false_or, true_and, and_true, false_and, and_false, or_self, ite_true, ite_false, reduceIte, oC, oR], by simp only [aFre, h5, h9, not_true_eq_false, not_false_eq_true, if_true, if_false, and_self, or_true, true_or, or_false, false_or, true_and, and_true, false_and, and_false, or_self, ite_true, ite_false, reduceIte, oC, oR]; exact cS.rf _⟩ | exact ⟨by simp only [aFre, h5, h9, h17, not_true_eq_false, not_false_eq_true, if_true, if_false, and_self, or_true, true_or, or_false, false_or, true_and, and_true, false_and, and_false, or_self, ite_true, ite_false, reduceIte, oC, oR], by simp only [aFre, h5, h9, h17, not_true_eq_false, not_false_eq_true, if_true, if_false, and_self, or_true, true_or, or_false, false_or, true_and, and_true, false_and, and_false, or_self, ite_true, ite_false, reduceIte, oC, oR]; exact cS.rf _⟩) (by first | rfl | exact hn45)

set_option maxRecDepth 100000 in
theorem c_X11_free {E : xE} {M : xMem} {n W H B dd : Nat} {g : Nat → Nat → Nat} {S : gLay × Nat} {P : Nat → gLay × Nat} (hc : rHy M n W H B g dd S P) {v k w : Int32} : Ct E mX11_free [.ref 74, .int v, .int k, .int w] M (xN M) (fun r m => r = some (.int (aFre W H (aA B g) (aD B g) S.1 v k w).1) ∧ rS (oR M (aFre W H (aA B g) (aD B g) S.1 v k w).2.1 (aFre W H (aA B g) (aD B g) S.1 v k w).2.2) m) := by
  have hc0 := hc
  obtain ⟨hM, hW, hsh, hok, hst, hly, hru⟩ := hc
  have h8 : n ≤ 8 := hok.1
  have hb : lyB S.1 := (hsh.s hok).b hly
  have hl : lyM (M.1 83) S.1 := lyM_c hst.2.2.1.1 (fun k _ => by rw [Nat.zero_add])
  have hpg := pgL_le hb 8
  refine Ct.of (lo := [some (.ref 74), some (.int v), some (.int k), some (.int w)]) pln_X11 (Nat.le_of_ble_eq_true rfl) rfl (Nat.le_refl _) ?_
  refine px_aload_n dX11_free_0 rfl rfl ?_
  refine px_iload_n dX11_free_1 rfl rfl ?_
  refine px_fV1i dX11_free_2 kX11_free_302 (xol rfl) hM (Nat.le_of_ble_eq_true rfl) (c_X11_isPage hc0) ?_
  refine px_zif_eq 21 dX11_free_5 rfl (fun h5 => ?_) (fun h5 => ?_)
  · refine px_iconst dX11_free_21 ic_m1 ?_
    exact px_iret dX11_free_22 rfl (by first | exact ⟨by simp only [aFre, h5, not_true_eq_false, not_false_eq_true, if_true, if_false, and_self, or_true, true_or, or_false, false_or, true_and, and_true, false_and, and_false, or_self, ite_true, ite_false, reduceIte, oC, oR], by simp only [aFre, h5, not_true_eq_false, not_false_eq_true, if_true, if_false, and_self, or_true, true_or, or_false, false_or, true_and, and_true, false_and, and_false, or_self, ite_true, ite_false, reduceIte, oC, oR]; exact rS.rf _⟩ | exact ⟨by simp only [aFre, h5, h9, not_true_eq_false, not_false_eq_true, if_true, if_false, and_self, or_true, true_or, or_false, false_or, true_and, and_true, false_and, and_false, or_self, ite_true, ite_false, reduceIte, oC, oR], by simp only [aFre, h5, h9, not_true_eq_false, not_false_eq_true, if_true, if_false, and_self, or_true, true_or, or_false, false_or, true_and, and_true, false_and, and_false, or_self, ite_true, ite_false, reduceIte, oC, oR]; exact rS.rf _⟩ | exact ⟨by simp only [aFre, h5, h9, h18, not_true_eq_false, not_false_eq_true, if_true, if_false, and_self, or_true, true_or, or_false, false_or, true_and, and_true, false_and, and_false, or_self, ite_true, ite_false, reduceIte, oC, oR], by simp only [aFre, h5, h9, h18, not_true_eq_false, not_false_eq_true, if_true, if_false, and_self, or_true, true_or, or_false, false_or, true_and, and_true, false_and, and_false, or_self, ite_true, ite_false, reduceIte, oC, oR]; exact rS.rf _⟩) (by first | rfl | exact hn25)
  · refine px_iload_n dX11_free_8 rfl rfl ?_
    refine px_if_lt 21 dX11_free_9 rfl (fun h9 => ?_) (fun h9 => ?_)
    · refine px_iconst dX11_free_21 ic_m1 ?_
      exact px_iret dX11_free_22 rfl (by first | exact ⟨by simp only [aFre, h5, not_true_eq_false, not_false_eq_true, if_true, if_false, and_self, or_true, true_or, or_false, false_or, true_and, and_true, false_and, and_false, or_self, ite_true, ite_false, reduceIte, oC, oR], by simp only [aFre, h5, not_true_eq_false, not_false_eq_true, if_true, if_false, and_self, or_true, true_or, or_false, false_or, true_and, and_true, false_and, and_false, or_self, ite_true, ite_false, reduceIte, oC, oR]; exact rS.rf _⟩ | exact ⟨by simp only [aFre, h5, h9, not_true_eq_false, not_false_eq_true, if_true, if_false, and_self, or_true, true_or, or_false, false_or, true_and, and_true, false_and, and_false, or_self, ite_true, ite_false, reduceIte, oC, oR], by simp only [aFre, h5, h9, not_true_eq_false, not_false_eq_true, if_true, if_false, and_self, or_true, true_or, or_false, false_or, true_and, and_true, false_and, and_false, or_self, ite_true, ite_false, reduceIte, oC, oR]; exact rS.rf _⟩ | exact ⟨by simp only [aFre, h5, h9, h18, not_true_eq_false, not_false_eq_true, if_true, if_false, and_self, or_true, true_or, or_false, false_or, true_and, and_true, false_and, and_false, or_self, ite_true, ite_false, reduceIte, oC, oR], by simp only [aFre, h5, h9, h18, not_true_eq_false, not_false_eq_true, if_true, if_false, and_self, or_true, true_or, or_false, false_or, true_and, and_true, false_and, and_false, or_self, ite_true, ite_false, reduceIte, oC, oR]; exact rS.rf _⟩) (by first | rfl | exact hn25)
    · refine px_iload_n dX11_free_12 rfl rfl ?_
      refine px_iconst dX11_free_13 ic_0 ?_
      refine px_iconst dX11_free_14 ic_3 ?_
      refine px_fS3i dX11_free_15 kX11_free_75 (Nat.le_of_ble_eq_true rfl) (c_X11_in) ?_
      refine px_top (y := zb (0 ≤ w ∧ w < 4)) in_c3 ?_
      refine px_zif_ne 23 dX11_free_18 rfl (fun h18 => ?_) (fun h18 => ?_)
      · obtain ⟨p, hp, rfl⟩ := in_nat (by omega) h5
        have hnp : (nI p).toNatClampNeg = p := nI_clamp (by omega)
        obtain ⟨kk, hkk, rfl⟩ := nI_of h9
        have hnk : (nI kk).toNatClampNeg = kk := nI_clamp (by omega)
        refine px_aload_n dX11_free_23 rfl rfl ?_
        refine px_iload_n dX11_free_24 rfl rfl ?_
        refine px_gV1 dX11_free_25 kX11_free_274 (xol rfl) hM (Nat.le_of_ble_eq_true rfl) (c_X11_layFree (n := n) (W := W) (H := H) hM hW (hsh.s hok) hl hly (by omega)) (fun r25 M25 hq25 hn25 => ?_)
        obtain ⟨rfl, L, q1, q2, q3, q4⟩ := hq25
        have hcap := lcap (p := p) hly h8 L q3.1 (fun q hq => (q3.2 q).mp hq)
        have eL := fL_eq q3
        have hm : xNT ≤ xN M25 := by rw [hn25]; exact hM
        have hw : xWire M25.2.1 := by rw [q1.1]; exact hW
        refine px_iload_n dX11_free_28 rfl rfl ?_
        refine px_aload_n dX11_free_29 rfl rfl ?_
        refine px_getI dX11_free_30 fX11_242 (xol rfl) hm rfl ?_
        refine px_top (y := nI L.length) q2.1 ?_
        refine px_icmp_lt 39 dX11_free_33 rfl (fun h33 => ?_) (fun h33 => ?_)
        · have hkl : kk < L.length := by rw [nI_ltI (by omega) (by omega)] at h33; exact h33
          have ha := q2.2 kk _ (gd_at hkl)
          refine px_aload_n dX11_free_39 rfl rfl ?_
          refine px_iload_n dX11_free_40 rfl rfl ?_
          refine px_if_ne 53 dX11_free_41 rfl (fun h41 => ?_) (fun h41 => ?_)
          · refine px_iload_n dX11_free_53 rfl rfl ?_
            refine px_iconst dX11_free_54 ic_1 ?_
            refine px_icmp_ne 67 dX11_free_55 rfl (fun h55 => ?_) (fun h55 => ?_)
            · refine px_iload_n dX11_free_67 rfl rfl ?_
              refine px_iconst dX11_free_68 ic_2 ?_
              refine px_icmp_ne 81 dX11_free_69 rfl (fun h69 => ?_) (fun h69 => ?_)
              · refine px_aload_n dX11_free_81 rfl rfl ?_
                refine px_getR dX11_free_82 fX11_53 (xol rfl) hm rfl (wr_11_31 hw (xol rfl)) (Nat.succ_pos _) ?_
                refine px_iload_n dX11_free_85 rfl rfl ?_
                refine px_iald dX11_free_86 (xal (n := 4096) rfl) hm (vp_in_nI (by omega) (by decide)) ?_
                refine px_top (y := rP (gd L kk) w) (by rw [hnk]; unfold rP; first | (rw [if_pos h41]; exact ha.1) | (rw [if_neg h41, if_pos h55]; exact ha.2.1) | (rw [if_neg h41, if_neg h55, if_pos h69]; exact ha.2.2.1) | (rw [if_neg h41, if_neg h55, if_neg h69]; exact ha.2.2.2)) ?_
                refine px_iconst dX11_free_87 ic_1 ?_
                refine px_fV2i dX11_free_88 kX11_free_91 (xol rfl) hm (Nat.le_of_ble_eq_true rfl) (c_X11_tells hm) ?_
                exact px_iret dX11_free_91 rfl ⟨by subst eL; simp only [aFre, h5, h9, h18, hnp, hnk, h33, not_true_eq_false, not_false_eq_true, if_true, if_false, and_self, or_true, true_or, or_false, false_or, true_and, and_true, false_and, and_false, or_self, ite_true, ite_false, reduceIte, oC, oR], by subst eL; simp only [aFre, h5, h9, h18, hnp, hnk, h33, not_true_eq_false, not_false_eq_true, if_true, if_false, and_self, or_true, true_or, or_false, false_or, true_and, and_true, false_and, and_false, or_self, ite_true, ite_false, reduceIte, oC, oR]; exact q1.s.r.wI _ _ _⟩ (by first | rfl | exact hn25)
              · refine px_aload_n dX11_free_72 rfl rfl ?_
                refine px_getR dX11_free_73 fX11_50 (xol rfl) hm rfl (wr_11_30 hw (xol rfl)) (Nat.succ_pos _) ?_
                refine px_iload_n dX11_free_76 rfl rfl ?_
                refine px_iald dX11_free_77 (xal (n := 4096) rfl) hm (vp_in_nI (by omega) (by decide)) ?_
                refine px_goto 87 dX11_free_78 rfl ?_
                refine px_top (y := rP (gd L kk) w) (by rw [hnk]; unfold rP; first | (rw [if_pos h41]; exact ha.1) | (rw [if_neg h41, if_pos h55]; exact ha.2.1) | (rw [if_neg h41, if_neg h55, if_pos h69]; exact ha.2.2.1) | (rw [if_neg h41, if_neg h55, if_neg h69]; exact ha.2.2.2)) ?_
                refine px_iconst dX11_free_87 ic_1 ?_
                refine px_fV2i dX11_free_88 kX11_free_91 (xol rfl) hm (Nat.le_of_ble_eq_true rfl) (c_X11_tells hm) ?_
                exact px_iret dX11_free_91 rfl ⟨by subst eL; simp only [aFre, h5, h9, h18, hnp, hnk, h33, not_true_eq_false, not_false_eq_true, if_true, if_false, and_self, or_true, true_or, or_false, false_or, true_and, and_true, false_and, and_false, or_self, ite_true, ite_false, reduceIte, oC, oR], by subst eL; simp only [aFre, h5, h9, h18, hnp, hnk, h33, not_true_eq_false, not_false_eq_true, if_true, if_false, and_self, or_true, true_or, or_false, false_or, true_and, and_true, false_and, and_false, or_self, ite_true, ite_false, reduceIte, oC, oR]; exact q1.s.r.wI _ _ _⟩ (by first | rfl | exact hn25)
            · refine px_aload_n dX11_free_58 rfl rfl ?_
              refine px_getR dX11_free_59 fX11_47 (xol rfl) hm rfl (wr_11_29 hw (xol rfl)) (Nat.succ_pos _) ?_
              refine px_iload_n dX11_free_62 rfl rfl ?_
              refine px_iald dX11_free_63 (xal (n := 4096) rfl) hm (vp_in_nI (by omega) (by decide)) ?_
              refine px_goto 87 dX11_free_64 rfl ?_
              refine px_top (y := rP (gd L kk) w) (by rw [hnk]; unfold rP; first | (rw [if_pos h41]; exact ha.1) | (rw [if_neg h41, if_pos h55]; exact ha.2.1) | (rw [if_neg h41, if_neg h55, if_pos h69]; exact ha.2.2.1) | (rw [if_neg h41, if_neg h55, if_neg h69]; exact ha.2.2.2)) ?_
              refine px_iconst dX11_free_87 ic_1 ?_
              refine px_fV2i dX11_free_88 kX11_free_91 (xol rfl) hm (Nat.le_of_ble_eq_true rfl) (c_X11_tells hm) ?_
              exact px_iret dX11_free_91 rfl ⟨by subst eL; simp only [aFre, h5, h9, h18, hnp, hnk, h33, not_true_eq_false, not_false_eq_true, if_true, if_false, and_self, or_true, true_or, or_false, false_or, true_and, and_true, false_and, and_false, or_self, ite_true, ite_false, reduceIte, oC, oR], by subst eL; simp only [aFre, h5, h9, h18, hnp, hnk, h33, not_true_eq_false, not_false_eq_true, if_true, if_false, and_self, or_true, true_or, or_false, false_or, true_and, and_true, false_and, and_false, or_self, ite_true, ite_false, reduceIte, oC, oR]; exact q1.s.r.wI _ _ _⟩ (by first | rfl | exact hn25)
          · refine px_aload_n dX11_free_44 rfl rfl ?_
            refine px_getR dX11_free_45 fX11_44 (xol rfl) hm rfl (wr_11_28 hw (xol rfl)) (Nat.succ_pos _) ?_
            refine px_iload_n dX11_free_48 rfl rfl ?_
            refine px_iald dX11_free_49 (xal (n := 4096) rfl) hm (vp_in_nI (by omega) (by decide)) ?_
            refine px_goto 87 dX11_free_50 rfl ?_
            refine px_top (y := rP (gd L kk) w) (by rw [hnk]; unfold rP; first | (rw [if_pos h41]; exact ha.1) | (rw [if_neg h41, if_pos h55]; exact ha.2.1) | (rw [if_neg h41, if_neg h55, if_pos h69]; exact ha.2.2.1) | (rw [if_neg h41, if_neg h55, if_neg h69]; exact ha.2.2.2)) ?_
            refine px_iconst dX11_free_87 ic_1 ?_
            refine px_fV2i dX11_free_88 kX11_free_91 (xol rfl) hm (Nat.le_of_ble_eq_true rfl) (c_X11_tells hm) ?_
            exact px_iret dX11_free_91 rfl ⟨by subst eL; simp only [aFre, h5, h9, h18, hnp, hnk, h33, not_true_eq_false, not_false_eq_true, if_true, if_false, and_self, or_true, true_or, or_false, false_or, true_and, and_true, false_and, and_false, or_self, ite_true, ite_false, reduceIte, oC, oR], by subst eL; simp only [aFre, h5, h9, h18, hnp, hnk, h33, not_true_eq_false, not_false_eq_true, if_true, if_false, and_self, or_true, true_or, or_false, false_or, true_and, and_true, false_and, and_false, or_self, ite_true, ite_false, reduceIte, oC, oR]; exact q1.s.r.wI _ _ _⟩ (by first | rfl | exact hn25)
        · refine px_bipush dX11_free_36 bp_m9 ?_
          exact px_iret dX11_free_38 rfl ⟨by subst eL; simp only [aFre, h5, h9, h18, hnp, h33, not_true_eq_false, not_false_eq_true, if_true, if_false, and_self, or_true, true_or, or_false, false_or, true_and, and_true, false_and, and_false, or_self, ite_true, ite_false, reduceIte, oC, oR], by subst eL; simp only [aFre, h5, h9, h18, hnp, h33, not_true_eq_false, not_false_eq_true, if_true, if_false, and_self, or_true, true_or, or_false, false_or, true_and, and_true, false_and, and_false, or_self, ite_true, ite_false, reduceIte, oC, oR]; exact q1.s.r⟩ (by first | rfl | exact hn25)
      · refine px_iconst dX11_free_21 ic_m1 ?_
        exact px_iret dX11_free_22 rfl (by first | exact ⟨by simp only [aFre, h5, not_true_eq_false, not_false_eq_true, if_true, if_false, and_self, or_true, true_or, or_false, false_or, true_and, and_true, false_and, and_false, or_self, ite_true, ite_false, reduceIte, oC, oR], by simp only [aFre, h5, not_true_eq_false, not_false_eq_true, if_true, if_false, and_self, or_true, true_or, or_false, false_or, true_and, and_true, false_and, and_false, or_self, ite_true, ite_false, reduceIte, oC, oR]; exact rS.rf _⟩ | exact ⟨by simp only [aFre, h5, h9, not_true_eq_false, not_false_eq_true, if_true, if_false, and_self, or_true, true_or, or_false, false_or, true_and, and_true, false_and, and_false, or_self, ite_true, ite_false, reduceIte, oC, oR], by simp only [aFre, h5, h9, not_true_eq_false, not_false_eq_true, if_true, if_false, and_self, or_true, true_or, or_false, false_or, true_and, and_true, false_and, and_false, or_self, ite_true, ite_false, reduceIte, oC, oR]; exact rS.rf _⟩ | exact ⟨by simp only [aFre, h5, h9, h18, not_true_eq_false, not_false_eq_true, if_true, if_false, and_self, or_true, true_or, or_false, false_or, true_and, and_true, false_and, and_false, or_self, ite_true, ite_false, reduceIte, oC, oR], by simp only [aFre, h5, h9, h18, not_true_eq_false, not_false_eq_true, if_true, if_false, and_self, or_true, true_or, or_false, false_or, true_and, and_true, false_and, and_false, or_self, ite_true, ite_false, reduceIte, oC, oR]; exact rS.rf _⟩) (by first | rfl | exact hn25)
