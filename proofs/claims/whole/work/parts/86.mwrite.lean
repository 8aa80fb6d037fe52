/-! ===== write, reference ===== -/
def bI (s : aW) : Prop := ∀ i, i < s.1 → ∃ c : Int32, s.2 i = c.toInt8.toInt32
theorem bIC {s : aW} (h : bI s) (c : Int32) : bI (adC s c) := by
  intro i hi
  have hi2 : i < s.1 + 1 := hi
  show ∃ c' : Int32, (if i = s.1 then c.toInt8.toInt32 else s.2 i) = c'.toInt8.toInt32
  by_cases e : i = s.1
  · exact ⟨c, if_pos e⟩
  · rw [if_neg e]; exact h i (by omega)
theorem bIN {s : aW} (h : bI s) (x : Int32) : bI (adN s x) := by
  unfold adN
  by_cases e : x < 10
  · rw [if_pos e]; exact bIC (bIC h _) _
  · rw [if_neg e]; exact bIC (bIC (bIC h _) _) _
theorem bIWn {s : aW} (h : bI s) (i : Nat) : ∀ k, bI (adWn s i k)
  | 0 => h
  | k + 1 => bIC (bIWn h i k) _
theorem bINs {s : aW} (h : bI s) (g : Nat → Nat) : ∀ k, bI (adNs s g k)
  | 0 => h
  | k + 1 => bIN (bINs h g k) _
theorem bIFs {s : aW} (h : bI s) (g : Nat → Nat → Nat) : ∀ k, bI (adFs s g k)
  | 0 => h
  | k + 1 => bIC (bINs (bIWn (bIFs h g k) _ _) _ _) _
theorem bIS (n W H B : Nat) (g : Nat → Nat → Nat) : bI (adS n W H B g) := by
  have h0 : bI (0, fun _ => 0) := fun i hi => absurd hi (Nat.not_lt_zero i)
  have h1 := bIC (bIN (bIN (bIWn h0 0 (xslen.getD 0 0)) (nI W)) (nI H)) 59
  refine bIFs ?_ g n
  unfold adH
  by_cases e : B = 0
  · rw [if_pos e]; exact h1
  · rw [if_neg e]; exact bIC (bIN (bIWn h1 1 _) (nI B)) 59

set_option maxRecDepth 100000 in
theorem l_mw198 {E : xE} {M : xMem} {t N : Nat} {x3 x4 : Option Value} {QQ : Option Value → xMem → Prop} (hM : xNT ≤ xN M) (hW : xWire M.2.1) (ht : t < 4) (hN : N ≤ 120) (e24 : M.1 74 24 = nI N) (hbI : ∀ i, i < N → ∃ c : Int32, M.1 84 i = c.toInt8.toInt32) (kf : ∀ m, m.2 = M.2 → (∀ a, a ≠ 80 → m.1 a = M.1 a) → (∀ k, k < N → m.1 80 (120 * t + k) = M.1 84 k) → (∀ j, (j < 120 * t ∨ 120 * t + 120 ≤ j) → m.1 80 j = M.1 80 j) → QQ (some (.int (nI N))) m) : ∀ m, m.2 = M.2 → (∀ a, a ≠ 80 → m.1 a = M.1 a) → (∀ k, k < 0 → k < N → m.1 80 (120 * t + k) = M.1 84 k) → (∀ j, (j < 120 * t ∨ 120 * t + 120 ≤ j) → m.1 80 j = M.1 80 j) → PR E mX11_write (xN M) 198 [some (.ref 74), some (.int (nI t)), some (.int (nI 0)), x3, x4] [] (m) (QQ) := by
  refine px_for (P := fun i => ∀ m, m.2 = M.2 → (∀ a, a ≠ 80 → m.1 a = M.1 a) → (∀ k, k < i → k < N → m.1 80 (120 * t + k) = M.1 84 k) → (∀ j, (j < 120 * t ∨ 120 * t + 120 ≤ j) → m.1 80 j = M.1 80 j) → PR E mX11_write (xN M) 198 [some (.ref 74), some (.int (nI t)), some (.int (nI i)), x3, x4] [] (m) (QQ)) (120) (fun i hi nx => ?_) (0) (Nat.zero_le _)
  intro m g1 g2 g3 g4
  have hnm : xN m = xN M := by show m.2.2.2 = M.2.2.2; rw [g1]
  have hM : xNT ≤ xN m := by rw [hnm]; exact hM
  have hW : xWire m.2.1 := by rw [g1]; exact hW
  refine px_iload_n dX11_write_198 rfl rfl ?_
  refine px_bipush dX11_write_199 bp_120 ?_
  refine px_icmp_ge 240 dX11_write_201 rfl (fun h201 => ?_) (fun h201 => ?_)
  · have hi2 : i = 120 := by rw [show (120 : Int32) = nI 120 from rfl, nI_leI (by omega) (by omega)] at h201; omega
    refine px_aload_n dX11_write_240 rfl rfl ?_
    refine px_getI dX11_write_241 fX11_188 (xol rfl) hM rfl ?_
    refine px_top (y := nI N) (by rw [g2 74 (by decide)]; exact e24) ?_
    exact px_iret dX11_write_244 rfl (kf _ g1 g2 (fun k hk => g3 k (by omega) hk) g4) (hnm)
  · have hlt : i < 120 := by rw [show (120 : Int32) = nI 120 from rfl, nI_leI (by omega) (by omega)] at h201; omega
    refine px_aload_n dX11_write_204 rfl rfl ?_
    refine px_getR dX11_write_205 fX11_25 (xol rfl) hM rfl (wr_11_7 hW (xol rfl)) (Nat.succ_pos _) ?_
    refine px_bipush dX11_write_208 bp_120 ?_
    refine px_iload_n dX11_write_210 rfl rfl ?_
    refine px_imul dX11_write_211 ?_
    refine px_iload_n dX11_write_212 rfl rfl ?_
    refine px_iadd dX11_write_213 ?_
    refine px_top (ixA 120 t i) ?_
    refine px_iload_n dX11_write_214 rfl rfl ?_
    refine px_aload_n dX11_write_215 rfl rfl ?_
    refine px_getI dX11_write_216 fX11_188 (xol rfl) hM rfl ?_
    refine px_top (y := nI N) (by rw [g2 74 (by decide)]; exact e24) ?_
    refine px_icmp_ge 231 dX11_write_219 rfl (fun h219 => ?_) (fun h219 => ?_)
    · refine px_bipush dX11_write_231 bp_32 ?_
      refine px_bast dX11_write_233 (xal (n := 480) rfl) hM (vp_in_nI (by omega) (by decide)) ?_
      refine px_inc_2 dX11_write_234 rfl ic_1 ?_
      refine px_goto 198 dX11_write_237 rfl ?_
      refine px_eq (by rw [nI_1]) rfl (nx hlt _ g1 (fun a a1 => by rw [← g2 a a1]; funext q; rw [xI_wI, if_neg (fun z => a1 z.1)]) (fun k hk hkN => ?_) (fun j hj => by rw [nI_clamp (by omega), xI_wI, if_neg (fun y => by omega)]; exact g4 j hj))
      rw [nI_clamp (by omega), xI_wI]
      by_cases z : k = i
      · rw [if_pos ⟨rfl, by omega⟩]
        rw [nI_leI (by omega) (by omega)] at h219
        first | exact absurd h219 (by omega) | (obtain ⟨c, ec⟩ := hbI i (by omega); rw [nI_clamp (by omega), g2 84 (by decide), z, ec, pk_vb])
      · rw [if_neg (fun y => z (by omega))]
        exact g3 k (by omega) hkN
    · refine px_aload_n dX11_write_222 rfl rfl ?_
      refine px_getR dX11_write_223 fX11_38 (xol rfl) hM rfl (wr_11_25 hW (xol rfl)) (Nat.succ_pos _) ?_
      refine px_iload_n dX11_write_226 rfl rfl ?_
      refine px_bald dX11_write_227 (xal (n := 120) rfl) hM (vp_in_nI (by omega) (by decide)) ?_
      refine px_goto 233 dX11_write_228 rfl ?_
      refine px_bast dX11_write_233 (xal (n := 480) rfl) hM (vp_in_nI (by omega) (by decide)) ?_
      refine px_inc_2 dX11_write_234 rfl ic_1 ?_
      refine px_goto 198 dX11_write_237 rfl ?_
      refine px_eq (by rw [nI_1]) rfl (nx hlt _ g1 (fun a a1 => by rw [← g2 a a1]; funext q; rw [xI_wI, if_neg (fun z => a1 z.1)]) (fun k hk hkN => ?_) (fun j hj => by rw [nI_clamp (by omega), xI_wI, if_neg (fun y => by omega)]; exact g4 j hj))
      rw [nI_clamp (by omega), xI_wI]
      by_cases z : k = i
      · rw [if_pos ⟨rfl, by omega⟩]
        rw [nI_leI (by omega) (by omega)] at h219
        first | exact absurd h219 (by omega) | (obtain ⟨c, ec⟩ := hbI i (by omega); rw [nI_clamp (by omega), g2 84 (by decide), z, ec, pk_vb])
      · rw [if_neg (fun y => z (by omega))]
        exact g3 k (by omega) hkN
