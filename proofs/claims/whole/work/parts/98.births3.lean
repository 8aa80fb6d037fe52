/-! ===== the constructor of the class ===== -/
/-- the cells from 2 on, below a -/
def blw (a : Nat) (M m : xMem) : Prop := ∀ b, 2 ≤ b → b < a → m.1 b = M.1 b ∧ m.2.1 b = M.2.1 b
theorem blw_b {a c j v : Nat} {M m : xMem} (h : bel a (wN (wR M 1 j v)) m) (hc : c ≤ a) (hn : c ≤ xN M + 1) : blw c M m := fun b b1 b2 => by
  have e := h b (by omega)
  have hb : b ≠ xN (wR M 1 j v) + 1 := by rw [xN_wR]; omega
  rw [wN_1 hb, wN_2 hb] at e
  exact ⟨e.1, by rw [e.2]; funext k; rw [xR_wR, if_neg (fun z => by omega)]⟩
theorem blw_tr {a b : Nat} {M m m' : xMem} (h : blw a M m) (h2 : blw b m m') (hc : a ≤ b) : blw a M m' := fun c c1 c2 => ⟨((h2 c c1 (by omega)).1).trans (h c c1 c2).1, ((h2 c c1 (by omega)).2).trans (h c c1 c2).2⟩
def fsF (m : xMem) : Prop := (∀ j, j < 11 → m.2.1 1 j = [2, 3, 4, 5, 6, 10, 22, 24, 29, 31, 32].getD j 0) ∧ (m.1 1 11 = 0 ∧ m.1 1 12 = 0) ∧ (∀ k, k < 3 → m.1 5 k = 0) ∧ stoN 6 m ∧ m.2.1 10 0 = 11 ∧ sheN 11 m ∧ m.2.1 22 0 = 23 ∧ (m.2.1 24 0 = 25 ∧ m.2.1 24 1 = 28 ∧ m.2.1 25 0 = 26 ∧ m.2.1 25 1 = 27) ∧ layN 29 m ∧ (∀ k, k < 6 → m.1 31 k = 0) ∧ sheN 32 m
theorem fsF_k {M m : xMem} (h : fsF M) (e : ∀ b, b ≤ 41 → (b < 2 ∨ 4 < b) → m.1 b = M.1 b ∧ m.2.1 b = M.2.1 b) : fsF m := by
  obtain ⟨h1, h2, h3, h4, h5, h6, h7, h8, h9, h10, h11⟩ := h
  refine ⟨?_, ?_, ?_, stoN_k h4 (fun b b1 b2 => e b (by omega) (by omega)), ?_, sheN_k h6 (fun b b1 b2 => e b (by omega) (by omega)), ?_, ?_, layN_k h9 (fun b b1 b2 => e b (by omega) (by omega)), ?_, sheN_k h11 (fun b b1 b2 => e b (by omega) (by omega))⟩
  · rw [(e 1 (by decide) (by decide)).2]; exact h1
  · rw [(e 1 (by decide) (by decide)).1]; exact h2
  · rw [(e 5 (by decide) (by decide)).1]; exact h3
  · rw [(e 10 (by decide) (by decide)).2]; exact h5
  · rw [(e 22 (by decide) (by decide)).2]; exact h7
  · rw [(e 24 (by decide) (by decide)).2, (e 25 (by decide) (by decide)).2]; exact h8
  · rw [(e 31 (by decide) (by decide)).1]; exact h10
def fsR (n : Nat) (m : xMem) : Prop := ∀ r, r < n → rowN (42 + 2 * r) m ∧ m.2.1 2 r = 42 + 2 * r
def fsT (n : Nat) (m : xMem) : Prop := ∀ r, r < n → rowN (54 + 2 * r) m ∧ m.2.1 3 r = 54 + 2 * r
def fsK (n : Nat) (m : xMem) : Prop := ∀ r, r < n → stoN (62 + 4 * r) m ∧ m.2.1 4 r = 62 + 4 * r
theorem fsR_k {n : Nat} {M m : xMem} (h : fsR n M) (e : ∀ b, b = 2 ∨ (42 ≤ b ∧ b < 42 + 2 * n) → m.1 b = M.1 b ∧ m.2.1 b = M.2.1 b) : fsR n m := fun r hr => ⟨rowN_k (h r hr).1 (e _ (by omega)), by rw [(e 2 (by omega)).2]; exact (h r hr).2⟩
theorem fsT_k {n : Nat} {M m : xMem} (h : fsT n M) (e : ∀ b, b = 3 ∨ (54 ≤ b ∧ b < 54 + 2 * n) → m.1 b = M.1 b ∧ m.2.1 b = M.2.1 b) : fsT n m := fun r hr => ⟨rowN_k (h r hr).1 (e _ (by omega)), by rw [(e 3 (by omega)).2]; exact (h r hr).2⟩
/-- one object more: its constructor, then its place in a row of references -/
theorem fs_o {M m : xMem} {a b i : Nat} (hb : bel b (wN M) m) (hn : b ≤ xN M + 1) : ∀ c, c < b → c ≠ a → (wR m a i b).1 c = M.1 c ∧ (wR m a i b).2.1 c = M.2.1 c := fun c h1 h2 => by
  have e := hb c h1
  rw [wN_1 (by omega), wN_2 (by omega)] at e
  exact ⟨e.1, by rw [← e.2]; funext k; rw [xR_wR, if_neg (fun z => h2 z.1)]⟩
theorem fs_s {M m : xMem} {a b i : Nat} (hb : bel b (wN M) m) (hn : b ≤ xN M + 1) (ha : a < b) : ∀ j, j ≠ i → (wR m a i b).2.1 a j = M.2.1 a j := fun j hj => by
  have e := hb a ha
  rw [wN_1 (by omega), wN_2 (by omega)] at e
  rw [xR_wR, if_neg (fun z => hj z.2), e.2]
theorem kd_l_k10 : ∀ i, i < 3 → (xK (62 + 4 * i)).1 = 8 ∧ ((xK (62 + 4 * i + 1)).1 = 1 ∧ xK (62 + 4 * i + 2) = (20, 8) ∧ xK (62 + 4 * i + 3) = (20, 360)) := by decide
set_option maxRecDepth 100000 in
theorem l_k10 {E : xE} {M : xMem}  : ∀ m, (xN m = 61 + 4 * 0 ∧ fsF m ∧ fsR 6 m ∧ fsT 4 m ∧ fsK 0 m) → PR E mX10_init (73) 175 [some (.ref 1), some (.int (nI 0))] [] (m) (fun r m => r = none ∧ fsF m ∧ fsR 6 m ∧ fsT 4 m ∧ fsK 3 m) := by
  refine px_for (P := fun i => ∀ m, (xN m = 61 + 4 * i ∧ fsF m ∧ fsR 6 m ∧ fsT 4 m ∧ fsK i m) → PR E mX10_init (73) 175 [some (.ref 1), some (.int (nI i))] [] (m) (fun r m => r = none ∧ fsF m ∧ fsR 6 m ∧ fsT 4 m ∧ fsK 3 m)) (3) (fun i hi nx => ?_) (0) (Nat.zero_le _)
  intro m hI
  obtain ⟨hn, hF, hRr, hTt, hf⟩ := hI
  refine px_iload_n dX10_init_175 rfl rfl ?_
  refine px_iconst dX10_init_176 ic_3 ?_
  refine px_icmp_ge 199 dX10_init_177 rfl (fun h177 => ?_) (fun h177 => ?_)
  · have hi2 : i = 3 := by rw [show (3 : Int32) = nI 3 from rfl, nI_leI (by omega) (by omega)] at h177; omega
    subst hi2
    exact px_ret dX10_init_199 rfl ⟨rfl, hF, hRr, hTt, hf⟩ (by omega)
  · have hlt : i < 3 := by rw [show (3 : Int32) = nI 3 from rfl, nI_leI (by omega) (by omega)] at h177; omega
    have kA := (kd_l_k10 i hlt).1
    have kB := (kd_l_k10 i hlt).2
    have h93 : xNT = 93 := rfl
    refine px_aload_n dX10_init_180 rfl rfl ?_
    refine px_getRA (r := 4) dX10_init_181 fX10_23 (by decide) (by first | omega | (simp only [xN_wI, xN_wR, xN_wN]; omega)) (by decide) rfl rfl (hF.1 2 (by decide)) (by decide) ?_
    refine px_iload_n dX10_init_184 rfl rfl ?_
    refine px_newA (b := 62 + 4 * i) dX10_init_185 nX10_init_21 (by first | omega | (simp only [xN_wI, xN_wR, xN_wN]; omega)) kA (by first | omega | (simp only [xN_wI, xN_wR, xN_wN]; omega)) (by decide) ?_
    first | refine px_dupi dX10_init_188 ?_ | refine px_dupa dX10_init_188 ?_
    refine px_cIN0 (ne' := 62 + 4 * i + 3) dX10_init_189 kX10_init_31 (by first | omega | (simp only [xN_wI, xN_wR, xN_wN]; omega)) (by first | omega | (simp only [xN_wI, xN_wR, xN_wN]; omega)) (Nat.le_of_ble_eq_true rfl) (n_X8 (a := 62 + 4 * i) (by first | omega | (simp only [xN_wI, xN_wR, xN_wN]; omega)) (by first | omega | (simp only [xN_wI, xN_wR, xN_wN]; omega)) (by first | omega | (simp only [xN_wI, xN_wR, xN_wN]; omega)) kA kB.1 kB.2.1 kB.2.2) (fun r189 M189 hq189 hn189 => ?_)
    obtain ⟨rfl, hb189, hw189⟩ := hq189
    refine px_aast0 (kk := 25) (n := 3) (t0 := 5) (c := 8) dX10_init_192 (by decide) (by first | omega | (simp only [xN_wI, xN_wR, xN_wN]; omega)) (by decide) rfl (by decide) rfl (fun _ => rfl) (vp_in_nI (by omega) (by decide)) (by first | omega | (simp only [xN_wI, xN_wR, xN_wN]; omega)) (by first | omega | (simp only [xN_wI, xN_wR, xN_wN]; omega)) (by omega) kA (by decide) ?_
    refine px_inc_1 dX10_init_193 rfl ic_1 ?_
    refine px_goto 175 dX10_init_196 rfl ?_
    have ei : (nI i).toNatClampNeg = i := nI_clamp (by omega)
    have fo := fs_o (a := 4) (i := i) hb189 (by omega)
    have fs := fs_s (a := 4) (i := i) hb189 (by omega) (by omega)
    rw [ei]
    exact px_eq (by rw [nI_1]) rfl (nx hlt _ ⟨by rw [xN_wR, hn189]; omega, fsF_k hF (fun b b1 b2 => fo b (by omega) (by omega)), fsR_k hRr (fun b hb => fo b (by omega) (by omega)), fsT_k hTt (fun b hb => fo b (by omega) (by omega)), fun r hr => by
      by_cases e : r = i
      · subst e
        exact ⟨stoN_k hw189 (fun b b1 b2 => ⟨rfl, by funext k; rw [xR_wR, if_neg (fun z => by omega)]⟩), by rw [xR_wR, if_pos ⟨rfl, rfl⟩]⟩
      · exact ⟨stoN_k (hf r (by omega)).1 (fun b b1 b2 => fo b (by omega) (by omega)), by rw [fs r e]; exact (hf r (by omega)).2⟩⟩)
theorem kd_l_t10 : ∀ i, i < 4 → (xK (54 + 2 * i)).1 = 9 ∧ xK (54 + 2 * i + 1) = (21, 120) := by decide
set_option maxRecDepth 100000 in
theorem l_t10 {E : xE} {M : xMem}  : ∀ m, (xN m = 53 + 2 * 0 ∧ fsF m ∧ fsR 6 m ∧ fsT 0 m) → PR E mX10_init (73) 149 [some (.ref 1), some (.int (nI 0))] [] (m) (fun r m => r = none ∧ fsF m ∧ fsR 6 m ∧ fsT 4 m ∧ fsK 3 m) := by
  refine px_for (P := fun i => ∀ m, (xN m = 53 + 2 * i ∧ fsF m ∧ fsR 6 m ∧ fsT i m) → PR E mX10_init (73) 149 [some (.ref 1), some (.int (nI i))] [] (m) (fun r m => r = none ∧ fsF m ∧ fsR 6 m ∧ fsT 4 m ∧ fsK 3 m)) (4) (fun i hi nx => ?_) (0) (Nat.zero_le _)
  intro m hI
  obtain ⟨hn, hF, hRr, hf⟩ := hI
  refine px_iload_n dX10_init_149 rfl rfl ?_
  refine px_iconst dX10_init_150 ic_4 ?_
  refine px_icmp_ge 173 dX10_init_151 rfl (fun h151 => ?_) (fun h151 => ?_)
  · have hi2 : i = 4 := by rw [show (4 : Int32) = nI 4 from rfl, nI_leI (by omega) (by omega)] at h151; omega
    subst hi2
    refine px_iconst dX10_init_173 ic_0 ?_
    refine px_si_1 dX10_init_174 rfl ?_
    exact l_k10 (M := m) m ⟨hn, hF, hRr, hf, fun r hr => absurd hr (Nat.not_lt_zero _)⟩
  · have hlt : i < 4 := by rw [show (4 : Int32) = nI 4 from rfl, nI_leI (by omega) (by omega)] at h151; omega
    have kA := (kd_l_t10 i hlt).1
    have kB := (kd_l_t10 i hlt).2
    have h93 : xNT = 93 := rfl
    refine px_aload_n dX10_init_154 rfl rfl ?_
    refine px_getRA (r := 3) dX10_init_155 fX10_17 (by decide) (by first | omega | (simp only [xN_wI, xN_wR, xN_wN]; omega)) (by decide) rfl rfl (hF.1 1 (by decide)) (by decide) ?_
    refine px_iload_n dX10_init_158 rfl rfl ?_
    refine px_newA (b := 54 + 2 * i) dX10_init_159 nX10_init_15 (by first | omega | (simp only [xN_wI, xN_wR, xN_wN]; omega)) kA (by first | omega | (simp only [xN_wI, xN_wR, xN_wN]; omega)) (by decide) ?_
    first | refine px_dupi dX10_init_162 ?_ | refine px_dupa dX10_init_162 ?_
    refine px_cIN0 (ne' := 54 + 2 * i + 1) dX10_init_163 kX10_init_83 (by first | omega | (simp only [xN_wI, xN_wR, xN_wN]; omega)) (by first | omega | (simp only [xN_wI, xN_wR, xN_wN]; omega)) (Nat.le_of_ble_eq_true rfl) (n_X9 (a := 54 + 2 * i) (by first | omega | (simp only [xN_wI, xN_wR, xN_wN]; omega)) (by first | omega | (simp only [xN_wI, xN_wR, xN_wN]; omega)) (by first | omega | (simp only [xN_wI, xN_wR, xN_wN]; omega)) kA kB) (fun r163 M163 hq163 hn163 => ?_)
    obtain ⟨rfl, hb163, hw163⟩ := hq163
    refine px_aast0 (kk := 24) (n := 4) (t0 := 4) (c := 9) dX10_init_166 (by decide) (by first | omega | (simp only [xN_wI, xN_wR, xN_wN]; omega)) (by decide) rfl (by decide) rfl (fun _ => rfl) (vp_in_nI (by omega) (by decide)) (by first | omega | (simp only [xN_wI, xN_wR, xN_wN]; omega)) (by first | omega | (simp only [xN_wI, xN_wR, xN_wN]; omega)) (by omega) kA (by decide) ?_
    refine px_inc_1 dX10_init_167 rfl ic_1 ?_
    refine px_goto 149 dX10_init_170 rfl ?_
    have ei : (nI i).toNatClampNeg = i := nI_clamp (by omega)
    have fo := fs_o (a := 3) (i := i) hb163 (by omega)
    have fs := fs_s (a := 3) (i := i) hb163 (by omega) (by omega)
    rw [ei]
    exact px_eq (by rw [nI_1]) rfl (nx hlt _ ⟨by rw [xN_wR, hn163]; omega, fsF_k hF (fun b b1 b2 => fo b (by omega) (by omega)), fsR_k hRr (fun b hb => fo b (by omega) (by omega)), fun r hr => by
      by_cases e : r = i
      · subst e
        exact ⟨rowN_k hw163 ⟨rfl, by funext k; rw [xR_wR, if_neg (fun z => by omega)]⟩, by rw [xR_wR, if_pos ⟨rfl, rfl⟩]⟩
      · exact ⟨rowN_k (hf r (by omega)).1 (fo _ (by omega) (by omega)), by rw [fs r e]; exact (hf r (by omega)).2⟩⟩)
theorem kd_l_r10 : ∀ i, i < 6 → (xK (42 + 2 * i)).1 = 5 ∧ xK (42 + 2 * i + 1) = (20, 40) := by decide
set_option maxRecDepth 100000 in
theorem l_r10 {E : xE} {M : xMem}  : ∀ m, (xN m = 41 + 2 * 0 ∧ fsF m ∧ fsR 0 m) → PR E mX10_init (73) 122 [some (.ref 1), some (.int (nI 0))] [] (m) (fun r m => r = none ∧ fsF m ∧ fsR 6 m ∧ fsT 4 m ∧ fsK 3 m) := by
  refine px_for (P := fun i => ∀ m, (xN m = 41 + 2 * i ∧ fsF m ∧ fsR i m) → PR E mX10_init (73) 122 [some (.ref 1), some (.int (nI i))] [] (m) (fun r m => r = none ∧ fsF m ∧ fsR 6 m ∧ fsT 4 m ∧ fsK 3 m)) (6) (fun i hi nx => ?_) (0) (Nat.zero_le _)
  intro m hI
  obtain ⟨hn, hF, hf⟩ := hI
  refine px_iload_n dX10_init_122 rfl rfl ?_
  refine px_bipush dX10_init_123 bp_6 ?_
  refine px_icmp_ge 147 dX10_init_125 rfl (fun h125 => ?_) (fun h125 => ?_)
  · have hi2 : i = 6 := by rw [show (6 : Int32) = nI 6 from rfl, nI_leI (by omega) (by omega)] at h125; omega
    subst hi2
    refine px_iconst dX10_init_147 ic_0 ?_
    refine px_si_1 dX10_init_148 rfl ?_
    exact l_t10 (M := m) m ⟨hn, hF, hf, fun r hr => absurd hr (Nat.not_lt_zero _)⟩
  · have hlt : i < 6 := by rw [show (6 : Int32) = nI 6 from rfl, nI_leI (by omega) (by omega)] at h125; omega
    have kA := (kd_l_r10 i hlt).1
    have kB := (kd_l_r10 i hlt).2
    have h93 : xNT = 93 := rfl
    refine px_aload_n dX10_init_128 rfl rfl ?_
    refine px_getRA (r := 2) dX10_init_129 fX10_11 (by decide) (by first | omega | (simp only [xN_wI, xN_wR, xN_wN]; omega)) (by decide) rfl rfl (hF.1 0 (by decide)) (by decide) ?_
    refine px_iload_n dX10_init_132 rfl rfl ?_
    refine px_newA (b := 42 + 2 * i) dX10_init_133 nX10_init_9 (by first | omega | (simp only [xN_wI, xN_wR, xN_wN]; omega)) kA (by first | omega | (simp only [xN_wI, xN_wR, xN_wN]; omega)) (by decide) ?_
    first | refine px_dupi dX10_init_136 ?_ | refine px_dupa dX10_init_136 ?_
    refine px_cIN0 (ne' := 42 + 2 * i + 1) dX10_init_137 kX10_init_82 (by first | omega | (simp only [xN_wI, xN_wR, xN_wN]; omega)) (by first | omega | (simp only [xN_wI, xN_wR, xN_wN]; omega)) (Nat.le_of_ble_eq_true rfl) (n_X5 (a := 42 + 2 * i) (by first | omega | (simp only [xN_wI, xN_wR, xN_wN]; omega)) (by first | omega | (simp only [xN_wI, xN_wR, xN_wN]; omega)) (by first | omega | (simp only [xN_wI, xN_wR, xN_wN]; omega)) kA kB) (fun r137 M137 hq137 hn137 => ?_)
    obtain ⟨rfl, hb137, hw137⟩ := hq137
    refine px_aast0 (kk := 23) (n := 6) (t0 := 3) (c := 5) dX10_init_140 (by decide) (by first | omega | (simp only [xN_wI, xN_wR, xN_wN]; omega)) (by decide) rfl (by decide) rfl (fun _ => rfl) (vp_in_nI (by omega) (by decide)) (by first | omega | (simp only [xN_wI, xN_wR, xN_wN]; omega)) (by first | omega | (simp only [xN_wI, xN_wR, xN_wN]; omega)) (by omega) kA (by decide) ?_
    refine px_inc_1 dX10_init_141 rfl ic_1 ?_
    refine px_goto 122 dX10_init_144 rfl ?_
    have ei : (nI i).toNatClampNeg = i := nI_clamp (by omega)
    have fo := fs_o (a := 2) (i := i) hb137 (by omega)
    have fs := fs_s (a := 2) (i := i) hb137 (by omega) (by omega)
    rw [ei]
    exact px_eq (by rw [nI_1]) rfl (nx hlt _ ⟨by rw [xN_wR, hn137]; omega, fsF_k hF (fun b b1 b2 => fo b (by omega) (by omega)), fun r hr => by
      by_cases e : r = i
      · subst e
        exact ⟨rowN_k hw137 ⟨rfl, by funext k; rw [xR_wR, if_neg (fun z => by omega)]⟩, by rw [xR_wR, if_pos ⟨rfl, rfl⟩]⟩
      · exact ⟨rowN_k (hf r (by omega)).1 (fo _ (by omega) (by omega)), by rw [fs r e]; exact (hf r (by omega)).2⟩⟩)
set_option maxRecDepth 100000 in
theorem n_X10 {E : xE} {M : xMem} (ha : xN M = 1) : Ct E mX10_init [.ref 1] M (73) (fun r m => r = none ∧ fsF m ∧ fsR 6 m ∧ fsT 4 m ∧ fsK 3 m) := by
  refine Ct.of (lo := [some (.ref 1), none]) pln_X10 (Nat.le_of_ble_eq_true rfl) rfl (by first | omega | (simp only [xN_wI, xN_wR, xN_wN]; omega)) ?_
  refine px_aload_n dX10_init_0 rfl rfl ?_
  refine px_obj dX10_init_1 kX10_init_1 (Nat.le_of_ble_eq_true rfl) (Nat.le_of_ble_eq_true rfl) ?_
  refine px_aload_n dX10_init_4 rfl rfl ?_
  refine px_bipush dX10_init_5 bp_6 ?_
  refine px_newqA (b := 2) (N := 6) (kk := 23) (t0 := 3) (C := RX5) dX10_init_7 xw116 (List.mem_of_getElem? (i := 0) rfl) (fun _ => rfl) (by decide) (by first | omega | (simp only [xN_wI, xN_wR, xN_wN]; omega)) rfl (by decide) rfl (by decide) (by first | omega | (simp only [xN_wI, xN_wR, xN_wN]; omega)) (by decide) ?_
  refine px_putR0 dX10_init_10 fX10_11 p10_0 (fun _ => ⟨rfl, rfl⟩) (by decide) (by first | omega | (simp only [xN_wI, xN_wR, xN_wN]; omega)) (by decide) rfl rfl (by first | omega | (simp only [xN_wI, xN_wR, xN_wN]; omega)) (fun _ => rfl) (fun _ => rfl) ?_
  refine px_aload_n dX10_init_13 rfl rfl ?_
  refine px_iconst dX10_init_14 ic_4 ?_
  refine px_newqA (b := 3) (N := 4) (kk := 24) (t0 := 4) (C := RX9) dX10_init_15 xw118 (List.mem_of_getElem? (i := 1) rfl) (fun _ => rfl) (by decide) (by first | omega | (simp only [xN_wI, xN_wR, xN_wN]; omega)) rfl (by decide) rfl (by decide) (by first | omega | (simp only [xN_wI, xN_wR, xN_wN]; omega)) (by decide) ?_
  refine px_putR0 dX10_init_18 fX10_17 p10_1 (fun _ => ⟨rfl, rfl⟩) (by decide) (by first | omega | (simp only [xN_wI, xN_wR, xN_wN]; omega)) (by decide) rfl rfl (by first | omega | (simp only [xN_wI, xN_wR, xN_wN]; omega)) (fun _ => rfl) (fun _ => rfl) ?_
  refine px_aload_n dX10_init_21 rfl rfl ?_
  refine px_iconst dX10_init_22 ic_3 ?_
  refine px_newqA (b := 4) (N := 3) (kk := 25) (t0 := 5) (C := RX8) dX10_init_23 xw120 (List.mem_of_getElem? (i := 2) rfl) (fun _ => rfl) (by decide) (by first | omega | (simp only [xN_wI, xN_wR, xN_wN]; omega)) rfl (by decide) rfl (by decide) (by first | omega | (simp only [xN_wI, xN_wR, xN_wN]; omega)) (by decide) ?_
  refine px_putR0 dX10_init_26 fX10_23 p10_2 (fun _ => ⟨rfl, rfl⟩) (by decide) (by first | omega | (simp only [xN_wI, xN_wR, xN_wN]; omega)) (by decide) rfl rfl (by first | omega | (simp only [xN_wI, xN_wR, xN_wN]; omega)) (fun _ => rfl) (fun _ => rfl) ?_
  refine px_aload_n dX10_init_29 rfl rfl ?_
  refine px_iconst dX10_init_30 ic_3 ?_
  refine px_newaA (b := 5) (N := 3) (kk := 22) (t0 := 2) dX10_init_31 xw146 (fun _ => rfl) (fun _ _ h => h) rfl (by decide) (by decide) (by first | omega | (simp only [xN_wI, xN_wR, xN_wN]; omega)) rfl (by decide) rfl (by decide) (by first | omega | (simp only [xN_wI, xN_wR, xN_wN]; omega)) (by decide) ?_
  refine px_putR0 dX10_init_33 fX10_27 p10_3 (fun _ => ⟨rfl, rfl⟩) (by decide) (by first | omega | (simp only [xN_wI, xN_wR, xN_wN]; omega)) (by decide) rfl rfl (by first | omega | (simp only [xN_wI, xN_wR, xN_wN]; omega)) (fun _ => rfl) (fun _ => rfl) ?_
  refine px_aload_n dX10_init_36 rfl rfl ?_
  refine px_newA (b := 6) dX10_init_37 nX10_init_21 (by first | omega | (simp only [xN_wI, xN_wR, xN_wN]; omega)) rfl (by first | omega | (simp only [xN_wI, xN_wR, xN_wN]; omega)) (by decide) ?_
  refine px_dupa dX10_init_40 ?_
  refine px_cIN0 (ne' := 9) dX10_init_41 kX10_init_31 (by first | omega | (simp only [xN_wI, xN_wR, xN_wN]; omega)) (by first | omega | (simp only [xN_wI, xN_wR, xN_wN]; omega)) (Nat.le_of_ble_eq_true rfl) (n_X8 (a := 6) (by first | omega | (simp only [xN_wI, xN_wR, xN_wN]; omega)) (by decide) (by decide) rfl rfl rfl rfl) (fun r41 M41 hq41 hn41 => ?_)
  obtain ⟨rfl, hb41, hs41⟩ := hq41
  have z5 : ∀ k, M41.1 5 k = 0 := fun k => by
    rw [(hb41 5 (by decide)).1, wN_1 (by first | omega | (simp only [xN_wI, xN_wR, xN_wN]; omega)), xI_wR]
    rw [show (5 : Nat) = xN (wR (wN (wR (wN (wR (wN M) 1 0 2)) 1 1 3)) 1 2 4) + 1 from by simp only [xN_wR, xN_wN]; omega]; exact (wN_cell _ k).1
  refine px_putR0 dX10_init_44 fX10_32 p10_4 (fun _ => ⟨rfl, rfl⟩) (by decide) (by first | omega | (simp only [xN_wI, xN_wR, xN_wN]; omega)) (by decide) rfl rfl (by first | omega | (simp only [xN_wI, xN_wR, xN_wN]; omega)) (fun _ => rfl) (fun _ => rfl) ?_
  refine px_aload_n dX10_init_47 rfl rfl ?_
  refine px_newA (b := 10) dX10_init_48 nX10_init_36 (by first | omega | (simp only [xN_wI, xN_wR, xN_wN]; omega)) rfl (by first | omega | (simp only [xN_wI, xN_wR, xN_wN]; omega)) (by decide) ?_
  refine px_dupa dX10_init_51 ?_
  refine px_cIN0 (ne' := 21) dX10_init_52 kX10_init_38 (by first | omega | (simp only [xN_wI, xN_wR, xN_wN]; omega)) (by first | omega | (simp only [xN_wI, xN_wR, xN_wN]; omega)) (Nat.le_of_ble_eq_true rfl) (n_X3 (by first | omega | (simp only [xN_wI, xN_wR, xN_wN]; omega))) (fun r52 M52 hq52 hn52 => ?_)
  obtain ⟨rfl, hb52, hs52, ht52⟩ := hq52
  have hB52 : blw 10 M41 M52 := blw_b hb52 (by omega) (by omega)
  refine px_putR0 dX10_init_55 fX10_39 p10_5 (fun _ => ⟨rfl, rfl⟩) (by decide) (by first | omega | (simp only [xN_wI, xN_wR, xN_wN]; omega)) (by decide) rfl rfl (by first | omega | (simp only [xN_wI, xN_wR, xN_wN]; omega)) (fun _ => rfl) (fun _ => rfl) ?_
  refine px_aload_n dX10_init_58 rfl rfl ?_
  refine px_newA (b := 22) dX10_init_59 nX10_init_43 (by first | omega | (simp only [xN_wI, xN_wR, xN_wN]; omega)) rfl (by first | omega | (simp only [xN_wI, xN_wR, xN_wN]; omega)) (by decide) ?_
  refine px_dupa dX10_init_62 ?_
  refine px_cIN0 (ne' := 23) dX10_init_63 kX10_init_45 (by first | omega | (simp only [xN_wI, xN_wR, xN_wN]; omega)) (by first | omega | (simp only [xN_wI, xN_wR, xN_wN]; omega)) (Nat.le_of_ble_eq_true rfl) (n_X6 (a := 22) (by first | omega | (simp only [xN_wI, xN_wR, xN_wN]; omega)) (by decide) (by decide) rfl rfl) (fun r63 M63 hq63 hn63 => ?_)
  obtain ⟨rfl, hb63, hs63⟩ := hq63
  have hB63 : blw 22 M52 M63 := blw_b hb63 (by omega) (by omega)
  refine px_putR0 dX10_init_66 fX10_46 p10_6 (fun _ => ⟨rfl, rfl⟩) (by decide) (by first | omega | (simp only [xN_wI, xN_wR, xN_wN]; omega)) (by decide) rfl rfl (by first | omega | (simp only [xN_wI, xN_wR, xN_wN]; omega)) (fun _ => rfl) (fun _ => rfl) ?_
  refine px_aload_n dX10_init_69 rfl rfl ?_
  refine px_newA (b := 24) dX10_init_70 nX10_init_50 (by first | omega | (simp only [xN_wI, xN_wR, xN_wN]; omega)) rfl (by first | omega | (simp only [xN_wI, xN_wR, xN_wN]; omega)) (by decide) ?_
  refine px_dupa dX10_init_73 ?_
  refine px_cIN0 (ne' := 28) dX10_init_74 kX10_init_52 (by first | omega | (simp only [xN_wI, xN_wR, xN_wN]; omega)) (by first | omega | (simp only [xN_wI, xN_wR, xN_wN]; omega)) (Nat.le_of_ble_eq_true rfl) (n_X2 (by first | omega | (simp only [xN_wI, xN_wR, xN_wN]; omega))) (fun r74 M74 hq74 hn74 => ?_)
  obtain ⟨rfl, hb74, hs74⟩ := hq74
  have hB74 : blw 24 M63 M74 := blw_b hb74 (by omega) (by omega)
  refine px_putR0 dX10_init_77 fX10_53 p10_7 (fun _ => ⟨rfl, rfl⟩) (by decide) (by first | omega | (simp only [xN_wI, xN_wR, xN_wN]; omega)) (by decide) rfl rfl (by first | omega | (simp only [xN_wI, xN_wR, xN_wN]; omega)) (fun _ => rfl) (fun _ => rfl) ?_
  refine px_aload_n dX10_init_80 rfl rfl ?_
  refine px_newA (b := 29) dX10_init_81 nX10_init_57 (by first | omega | (simp only [xN_wI, xN_wR, xN_wN]; omega)) rfl (by first | omega | (simp only [xN_wI, xN_wR, xN_wN]; omega)) (by decide) ?_
  refine px_dupa dX10_init_84 ?_
  refine px_cI0 (ne' := 30) dX10_init_85 kX10_init_59 (by first | omega | (simp only [xN_wI, xN_wR, xN_wN]; omega)) (by first | omega | (simp only [xN_wI, xN_wR, xN_wN]; omega)) (Nat.le_of_ble_eq_true rfl) (n_X1 (a := 29) (by first | omega | (simp only [xN_wI, xN_wR, xN_wN]; omega)) (by decide) (by decide) rfl rfl) (fun r85 M85 hq85 hn85 => ?_)
  obtain ⟨rfl, hb85, hs85⟩ := hq85
  have hB85 : blw 29 M74 M85 := blw_b hb85 (by omega) (by omega)
  refine px_putR0 dX10_init_88 fX10_60 p10_8 (fun _ => ⟨rfl, rfl⟩) (by decide) (by first | omega | (simp only [xN_wI, xN_wR, xN_wN]; omega)) (by decide) rfl rfl (by first | omega | (simp only [xN_wI, xN_wR, xN_wN]; omega)) (fun _ => rfl) (fun _ => rfl) ?_
  refine px_aload_n dX10_init_91 rfl rfl ?_
  refine px_bipush dX10_init_92 bp_6 ?_
  refine px_newaA (b := 31) (N := 6) (kk := 20) (t0 := 0) dX10_init_94 xw147 (fun _ => rfl) (fun _ _ h => h) rfl (by decide) (by decide) (by first | omega | (simp only [xN_wI, xN_wR, xN_wN]; omega)) rfl (by decide) rfl (by decide) (by first | omega | (simp only [xN_wI, xN_wR, xN_wN]; omega)) (by decide) ?_
  refine px_putR0 dX10_init_96 fX10_64 p10_9 (fun _ => ⟨rfl, rfl⟩) (by decide) (by first | omega | (simp only [xN_wI, xN_wR, xN_wN]; omega)) (by decide) rfl rfl (by first | omega | (simp only [xN_wI, xN_wR, xN_wN]; omega)) (fun _ => rfl) (fun _ => rfl) ?_
  refine px_aload_n dX10_init_99 rfl rfl ?_
  refine px_newA (b := 32) dX10_init_100 nX10_init_68 (by first | omega | (simp only [xN_wI, xN_wR, xN_wN]; omega)) rfl (by first | omega | (simp only [xN_wI, xN_wR, xN_wN]; omega)) (by decide) ?_
  refine px_dupa dX10_init_103 ?_
  refine px_cI0 (ne' := 41) dX10_init_104 kX10_init_70 (by first | omega | (simp only [xN_wI, xN_wR, xN_wN]; omega)) (by first | omega | (simp only [xN_wI, xN_wR, xN_wN]; omega)) (Nat.le_of_ble_eq_true rfl) (n_X7 (a := 32) (by first | omega | (simp only [xN_wI, xN_wR, xN_wN]; omega)) (by decide) (by decide) rfl rfl (by decide)) (fun r104 M104 hq104 hn104 => ?_)
  obtain ⟨rfl, hb104, hs104⟩ := hq104
  have hB104 : blw 31 M85 M104 := fun b b1 b2 => by
    have e := hb104 b (by omega)
    rw [wN_1 (by first | omega | (simp only [xN_wI, xN_wR, xN_wN]; omega)), wN_2 (by first | omega | (simp only [xN_wI, xN_wR, xN_wN]; omega)), xI_wR, wN_1 (by first | omega | (simp only [xN_wI, xN_wR, xN_wN]; omega))] at e
    refine ⟨e.1, ?_⟩
    rw [e.2]; funext k; rw [xR_wR, if_neg (fun z => by omega), wN_2 (by first | omega | (simp only [xN_wI, xN_wR, xN_wN]; omega)), xR_wR, if_neg (fun z => by omega)]
  have z31 : ∀ k, M104.1 31 k = 0 := fun k => by
    rw [(hb104 31 (by decide)).1, wN_1 (by first | omega | (simp only [xN_wI, xN_wR, xN_wN]; omega)), xI_wR]
    rw [show (31 : Nat) = xN (wR M85 1 8 29) + 1 from by simp only [xN_wR]; omega]; exact (wN_cell _ k).1
  refine px_putR0 dX10_init_107 fX10_71 p10_10 (fun _ => ⟨rfl, rfl⟩) (by decide) (by first | omega | (simp only [xN_wI, xN_wR, xN_wN]; omega)) (by decide) rfl rfl (by first | omega | (simp only [xN_wI, xN_wR, xN_wN]; omega)) (fun _ => rfl) (fun _ => rfl) ?_
  refine px_aload_n dX10_init_110 rfl rfl ?_
  refine px_iconst dX10_init_111 ic_0 ?_
  refine px_putI0 dX10_init_112 fX10_75 p10_11 (fun _ => ⟨rfl, rfl⟩) (by decide) (by first | omega | (simp only [xN_wI, xN_wR, xN_wN]; omega)) (by decide) rfl rfl rfl rfl ?_
  refine px_aload_n dX10_init_115 rfl rfl ?_
  refine px_iconst dX10_init_116 ic_0 ?_
  refine px_putI0 dX10_init_117 fX10_79 p10_12 (fun _ => ⟨rfl, rfl⟩) (by decide) (by first | omega | (simp only [xN_wI, xN_wR, xN_wN]; omega)) (by decide) rfl rfl rfl rfl ?_
  refine px_iconst dX10_init_120 ic_0 ?_
  refine px_si_1 dX10_init_121 rfl ?_
  generalize hmA : wI (wI (wR M104 1 10 32) 1 11 0) 1 12 0 = mA
  have w : mA.2.2.2 = M104.2.2.2 := by rw [← hmA]; rfl
  have hBA : blw 1000 M104 mA := fun b b1 b2 => by
    rw [← hmA]
    exact ⟨by funext k; rw [xI_wI, if_neg (fun z => by omega), xI_wI, if_neg (fun z => by omega), xI_wR], by funext k; rw [xR_wI, xR_wI, xR_wR, if_neg (fun z => by omega)]⟩
  have hA85 : blw 31 M85 mA := blw_tr hB104 hBA (by omega)
  have hA74 : blw 29 M74 mA := blw_tr hB85 hA85 (by omega)
  have hA63 : blw 24 M63 mA := blw_tr hB74 hA74 (by omega)
  have hA52 : blw 22 M52 mA := blw_tr hB63 hA63 (by omega)
  have hA41 : blw 10 M41 mA := blw_tr hB52 hA52 (by omega)
  refine l_r10 (M := mA) mA ⟨by show mA.2.2.2 = _; rw [w]; exact hn104, ⟨?_, ⟨?_, ?_⟩, ?_, ?_, ?_, ?_, ?_, ?_, ?_, ?_, ?_⟩, fun r hr => absurd hr (Nat.not_lt_zero _)⟩
  · intro j hj
    rw [← hmA]
    rcases (show j = 0 ∨ j = 1 ∨ j = 2 ∨ j = 3 ∨ j = 4 ∨ j = 5 ∨ j = 6 ∨ j = 7 ∨ j = 8 ∨ j = 9 ∨ j = 10 by omega) with rfl | rfl | rfl | rfl | rfl | rfl | rfl | rfl | rfl | rfl | rfl <;> (repeat (first | rfl | rw [if_neg (by omega)] | rw [if_pos (by omega)] | rw [xR_wI] | rw [xR_wR] | rw [wN_2 (by first | omega | (simp only [xN_wI, xN_wR, xN_wN]; omega))] | rw [(hb104 1 (by decide)).2] | rw [(hb85 1 (by decide)).2] | rw [(hb74 1 (by decide)).2] | rw [(hb63 1 (by decide)).2] | rw [(hb52 1 (by decide)).2] | rw [(hb41 1 (by decide)).2]))
  · rw [← hmA]; rfl
  · rw [← hmA]; rfl
  · intro k _
    rw [(hA41 5 (by decide) (by decide)).1]; exact z5 k
  · exact stoN_k hs41 (fun b b1 b2 => hA41 b (by omega) (by omega))
  · rw [(hA52 10 (by decide) (by decide)).2]; exact hs52
  · exact sheN_k ht52 (fun b b1 b2 => hA52 b (by omega) (by omega))
  · rw [(hA63 22 (by decide) (by decide)).2]; exact hs63
  · rw [(hA74 24 (by decide) (by decide)).2, (hA74 25 (by decide) (by decide)).2]; exact hs74
  · exact layN_k hs85 (fun b b1 b2 => hA85 b (by omega) (by omega))
  · intro k _
    rw [(hBA 31 (by decide) (by decide)).1]; exact z31 k
  · exact sheN_k hs104 (fun b b1 b2 => hBA b (by omega) (by omega))
