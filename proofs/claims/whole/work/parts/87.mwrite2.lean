/-! ===== write of the reference, the whole ===== -/
set_option maxRecDepth 100000 in
theorem l_mw174 {E : xE} {M : xMem} {n W H B t : Nat} {g : Nat → Nat → Nat} {M0 : xMem} {x2 x3 x4 : Option Value} (hM : xNT ≤ xN M) (hW : xWire M.2.1) (hok : okSh n W H B g) (ht : t < 4) (h0 : ¬ n = 0) (q0 : wrG 74 24 84 M0 M) (sE : scG M 74 24 84 (adS n W H B g)) (hx2 : xnl x2 = true) (hv : 0 ≤ nI t ∧ nI t < 4) : PR E mX11_write (xN M) 174 [some (.ref 74), some (.int (nI t)), x2, x3, x4] [] M (fun r m => r = some (.int (aWri (nI t) n (adS n W H B g))) ∧ (¬ wOk (nI t) n (adS n W H B g) → wrG 74 24 84 M0 m) ∧ (wOk (nI t) n (adS n W H B g) → m.2 = M0.2 ∧ (∀ a, a ≠ 74 → a ≠ 84 → a ≠ 79 → a ≠ 80 → m.1 a = M0.1 a) ∧ (∀ k, k ≠ 24 → m.1 74 k = M0.1 74 k) ∧ m.1 79 ((nI t)).toNatClampNeg = nI (adS n W H B g).1 ∧ (∀ u, u ≠ ((nI t)).toNatClampNeg → m.1 79 u = M0.1 79 u) ∧ (∀ i, i < (adS n W H B g).1 → m.1 80 (120 * ((nI t)).toNatClampNeg + i) = (adS n W H B g).2 i) ∧ ∀ j, (j < 120 * ((nI t)).toNatClampNeg ∨ 120 * ((nI t)).toNatClampNeg + 120 ≤ j) → m.1 80 j = M0.1 80 j)) := by
  have hwb := adS_b hok
  have hbi := bIS n W H B g
  have htc : (nI t).toNatClampNeg = t := nI_clamp (by omega)
  refine px_aload_n dX11_write_174 rfl rfl ?_
  refine px_getI dX11_write_175 fX11_188 (xol rfl) hM rfl ?_
  refine px_top (y := nI (adS n W H B g).1) sE.1 ?_
  refine px_bipush dX11_write_178 bp_120 ?_
  refine px_icmp_le 186 dX11_write_180 rfl (fun h180 => ?_) (fun h180 => ?_)
  · have hle : (adS n W H B g).1 ≤ 120 := by rw [show (120 : Int32) = nI 120 from rfl, nI_leI (by omega) (by decide)] at h180; exact h180
    refine px_aload_n dX11_write_186 rfl rfl ?_
    refine px_getR dX11_write_187 fX11_22 (xol rfl) hM rfl (wr_11_6 hW (xol rfl)) (Nat.succ_pos _) ?_
    refine px_iload_n dX11_write_190 rfl rfl ?_
    refine px_aload_n dX11_write_191 rfl rfl ?_
    refine px_getI dX11_write_192 fX11_188 (xol rfl) hM rfl ?_
    refine px_top (y := nI (adS n W H B g).1) sE.1 ?_
    refine px_iast dX11_write_195 (xal (n := 4) rfl) hM (vp_in_nI ht (by decide)) ?_
    refine px_iconst dX11_write_196 ic_0 ?_
    refine px_si_2 dX11_write_197 rfl ?_
    have hx := l_mw198 (E := E) (M := wI M 79 (nI t).toNatClampNeg (nI (adS n W H B g).1)) (t := t) (N := (adS n W H B g).1) (x3 := x3) (x4 := x4) (QQ := fun r m => r = some (.int (aWri (nI t) n (adS n W H B g))) ∧ (¬ wOk (nI t) n (adS n W H B g) → wrG 74 24 84 M0 m) ∧ (wOk (nI t) n (adS n W H B g) → m.2 = M0.2 ∧ (∀ a, a ≠ 74 → a ≠ 84 → a ≠ 79 → a ≠ 80 → m.1 a = M0.1 a) ∧ (∀ k, k ≠ 24 → m.1 74 k = M0.1 74 k) ∧ m.1 79 ((nI t)).toNatClampNeg = nI (adS n W H B g).1 ∧ (∀ u, u ≠ ((nI t)).toNatClampNeg → m.1 79 u = M0.1 79 u) ∧ (∀ i, i < (adS n W H B g).1 → m.1 80 (120 * ((nI t)).toNatClampNeg + i) = (adS n W H B g).2 i) ∧ ∀ j, (j < 120 * ((nI t)).toNatClampNeg ∨ 120 * ((nI t)).toNatClampNeg + 120 ≤ j) → m.1 80 j = M0.1 80 j)) hM hW ht hle (by rw [xI_wI, if_neg (fun z => by omega)]; exact sE.1) (fun i hi => by rw [xI_wI, if_neg (fun z => by omega), sE.2 i hi (by omega)]; exact hbi i hi)
      (fun m g1 g2 g3 g4 => by
        refine ⟨by unfold aWri; rw [if_neg (not_not_intro hv), if_neg h0, if_neg (by omega)], fun z => absurd ⟨hv, h0, hle⟩ z, fun _ => ⟨g1.trans q0.1, fun a a1 a2 a3 a4 => ?_, fun k hk => ?_, ?_, fun u hu => ?_, fun i hi => ?_, fun j hj => ?_⟩⟩
        · rw [g2 a a4, ← q0.2.1 a a1 a2]; funext q; rw [xI_wI, if_neg (fun z => a3 z.1)]
        · rw [g2 74 (by decide), xI_wI, if_neg (fun z => by omega)]; exact q0.2.2 k hk
        · rw [g2 79 (by decide), wI_self]
        · rw [g2 79 (by decide), xI_wI, if_neg (fun z => hu z.2)]; exact congrFun (q0.2.1 79 (by decide) (by decide)) u
        · rw [htc, g3 i hi, xI_wI, if_neg (fun z => by omega)]; exact sE.2 i hi (by omega)
        · rw [htc] at hj
          rw [g4 j hj, xI_wI, if_neg (fun z => by omega)]
          exact congrFun (q0.2.1 80 (by decide) (by decide)) j)
      _ rfl (fun _ _ => rfl) (fun k hk => absurd hk (Nat.not_lt_zero k)) (fun j _ => rfl)
    exact hx
  · have hgt : 120 < (adS n W H B g).1 := by rw [show (120 : Int32) = nI 120 from rfl, nI_leI (by omega) (by decide)] at h180; omega
    refine px_bipush dX11_write_183 bp_m6 ?_
    exact px_iret dX11_write_185 rfl ⟨by unfold aWri; rw [if_neg (not_not_intro hv), if_neg h0, if_pos hgt], fun _ => q0, fun z => absurd z.2.2 (by omega)⟩ (rfl)

set_option maxRecDepth 100000 in
theorem c_X11_write {E : xE} {M : xMem} {n W H B dd : Nat} {g : Nat → Nat → Nat} {S : gLay × Nat} {P : Nat → gLay × Nat} (hc : rHy M n W H B g dd S P) {v : Int32} : Ct E mX11_write [.ref 74, .int v] M (xN M) (fun r m => r = some (.int (aWri v n (adS n W H B g))) ∧ (¬ wOk v n (adS n W H B g) → wrG 74 24 84 M m) ∧ (wOk v n (adS n W H B g) → m.2 = M.2 ∧ (∀ a, a ≠ 74 → a ≠ 84 → a ≠ 79 → a ≠ 80 → m.1 a = M.1 a) ∧ (∀ k, k ≠ 24 → m.1 74 k = M.1 74 k) ∧ m.1 79 (v).toNatClampNeg = nI (adS n W H B g).1 ∧ (∀ u, u ≠ (v).toNatClampNeg → m.1 79 u = M.1 79 u) ∧ (∀ i, i < (adS n W H B g).1 → m.1 80 (120 * (v).toNatClampNeg + i) = (adS n W H B g).2 i) ∧ ∀ j, (j < 120 * (v).toNatClampNeg ∨ 120 * (v).toNatClampNeg + 120 ≤ j) → m.1 80 j = M.1 80 j)) := by
  obtain ⟨hM, hW, hsh, hok, hst, hly, hru⟩ := hc
  have h8 : n ≤ 8 := hok.1
  have hb : lyB S.1 := (hsh.s hok).b hly
  have hl : lyM (M.1 83) S.1 := lyM_c hst.2.2.1.1 (fun k _ => by rw [Nat.zero_add])
  have hpg := pgL_le hb 8
  have hiv : (0 ≤ v ∧ v ≤ 3) ↔ (0 ≤ v ∧ v < 4) := in_l2 (n := 4) (c := 3) (by decide) rfl
  have hwb := adS_b hok
  have hbi := bIS n W H B g
  have b1 := adW_b ((0, fun _ => 0) : aW) (i := 0) (by decide)
  have b2 := adN_b (adW ((0, fun _ => 0) : aW) 0) (nI W)
  have b3 := adN_b (adN (adW ((0, fun _ => 0) : aW) 0) (nI W)) (nI H)
  have b0 : ((0, fun _ => 0) : aW).1 = 0 := rfl
  have b4 : (adC (adN (adN (adW ((0, fun _ => 0) : aW) 0) (nI W)) (nI H)) 59).1 = (adN (adN (adW ((0, fun _ => 0) : aW) 0) (nI W)) (nI H)).1 + 1 := rfl
  have b5 := adW_b (adC (adN (adN (adW ((0, fun _ => 0) : aW) 0) (nI W)) (nI H)) 59) (i := 1) (by decide)
  have b6 := adN_b (adW (adC (adN (adN (adW ((0, fun _ => 0) : aW) 0) (nI W)) (nI H)) 59) 1) (nI B)
  have b7 : (adC (adN (adW (adC (adN (adN (adW ((0, fun _ => 0) : aW) 0) (nI W)) (nI H)) 59) 1) (nI B)) 59).1 = (adN (adW (adC (adN (adN (adW ((0, fun _ => 0) : aW) 0) (nI W)) (nI H)) 59) 1) (nI B)).1 + 1 := rfl
  refine Ct.of (lo := [some (.ref 74), some (.int v), none, none, none]) pln_X11 (Nat.le_of_ble_eq_true rfl) rfl (Nat.le_refl _) ?_
  refine px_iload_n dX11_write_0 rfl rfl ?_
  refine px_fS1i dX11_write_1 kX11_write_94 (Nat.le_of_ble_eq_true rfl) (c_X11_isText) ?_
  refine px_zif_ne 9 dX11_write_4 rfl (fun h4 => ?_) (fun h4 => ?_)
  · obtain ⟨t, ht, rfl⟩ := in_nat (n := 4) (by decide) (show 0 ≤ v ∧ v < nI 4 from hiv.mp h4)
    have hti : vp_in (nI t) 4 := vp_in_nI ht (by decide)
    have htc : (nI t).toNatClampNeg = t := nI_clamp (by omega)
    refine px_aload_n dX11_write_9 rfl rfl ?_
    refine px_getI dX11_write_10 fX11_179 (xol rfl) hM rfl ?_
    refine px_top (y := nI n) hsh.1 ?_
    refine px_if_ne 19 dX11_write_13 rfl (fun h13 => ?_) (fun h13 => ?_)
    · have hn0 : ¬ n = 0 := fun z => h13 (by rw [z]; rfl)
      refine px_aload_n dX11_write_19 rfl rfl ?_
      refine px_iconst dX11_write_20 ic_0 ?_
      refine px_putI dX11_write_21 fX11_188 p11_24 (xol rfl) hM rfl ?_
      have q0 : wrG 74 24 84 M (wI M 74 24 0) := ⟨rfl, fun a a1 a2 => by funext k; rw [xI_wI, if_neg (fun z => a1 z.1)], fun k k1 => by rw [xI_wI, if_neg (fun z => k1 z.2)]⟩
      have s0 : scG (wI M 74 24 0) 74 24 84 ((0, fun _ => 0) : aW) := ⟨rfl, fun i hi => absurd hi (Nat.not_lt_zero i)⟩
      have hsh : mSh (wI M 74 24 0) n W H B g := mShw q0 hsh
      refine px_aload_n dX11_write_24 rfl rfl ?_
      refine px_ldc dX11_write_25 xw1263 ?_
      refine px_top (y := nI (wC 0)) mkwc.2.2.2.2.1 ?_
      refine px_gV1 dX11_write_27 kX11_write_194 (xol rfl) hM (Nat.le_of_ble_eq_true rfl) (c_X11_writesWord (w := 0) (s := ((0, fun _ => 0) : aW)) hM hW (by decide) s0 (by decide)) (fun r27 M27 hq27 hn27 => ?_)
      obtain ⟨rfl, q27, s27⟩ := hq27
      have hM : xNT ≤ xN M27 := by rw [hn27]; exact hM
      have hW : xWire M27.2.1 := by rw [q27.1]; exact hW
      have hsh : mSh M27 n W H B g := mShw q27 hsh
      refine px_aload_n dX11_write_30 rfl rfl ?_
      refine px_aload_n dX11_write_31 rfl rfl ?_
      refine px_getI dX11_write_32 fX11_170 (xol rfl) hM rfl ?_
      refine px_top (y := nI W) hsh.2.1 ?_
      refine px_gV1 dX11_write_35 kX11_write_197 (xol rfl) hM (Nat.le_of_ble_eq_true rfl) (c_X11_writesNumber (s := adW ((0, fun _ => 0) : aW) 0) (x := nI W) hM hW s27 (by omega)) (fun r35 M35 hq35 hn35 => ?_)
      obtain ⟨rfl, q35, s35⟩ := hq35
      have hM : xNT ≤ xN M35 := by rw [hn35]; exact hM
      have hW : xWire M35.2.1 := by rw [q35.1]; exact hW
      have hsh : mSh M35 n W H B g := mShw q35 hsh
      refine px_aload_n dX11_write_38 rfl rfl ?_
      refine px_aload_n dX11_write_39 rfl rfl ?_
      refine px_getI dX11_write_40 fX11_173 (xol rfl) hM rfl ?_
      refine px_top (y := nI H) hsh.2.2.1 ?_
      refine px_gV1 dX11_write_43 kX11_write_197 (xol rfl) hM (Nat.le_of_ble_eq_true rfl) (c_X11_writesNumber (s := adN (adW ((0, fun _ => 0) : aW) 0) (nI W)) (x := nI H) hM hW s35 (by omega)) (fun r43 M43 hq43 hn43 => ?_)
      obtain ⟨rfl, q43, s43⟩ := hq43
      have hM : xNT ≤ xN M43 := by rw [hn43]; exact hM
      have hW : xWire M43.2.1 := by rw [q43.1]; exact hW
      have hsh : mSh M43 n W H B g := mShw q43 hsh
      refine px_aload_n dX11_write_46 rfl rfl ?_
      refine px_bipush dX11_write_47 bp_59 ?_
      refine px_gV1 dX11_write_49 kX11_write_191 (xol rfl) hM (Nat.le_of_ble_eq_true rfl) (c_X11_writes (s := adN (adN (adW ((0, fun _ => 0) : aW) 0) (nI W)) (nI H)) hM hW s43 (by omega)) (fun r49 M49 hq49 hn49 => ?_)
      obtain ⟨rfl, q49, s49⟩ := hq49
      have hM : xNT ≤ xN M49 := by rw [hn49]; exact hM
      have hW : xWire M49.2.1 := by rw [q49.1]; exact hW
      have hsh : mSh M49 n W H B g := mShw q49 hsh
      refine px_aload_n dX11_write_52 rfl rfl ?_
      refine px_getI dX11_write_53 fX11_176 (xol rfl) hM rfl ?_
      refine px_top (y := nI B) hsh.2.2.2.1 ?_
      refine px_if_le 79 dX11_write_56 rfl (fun h56 => ?_) (fun h56 => ?_)
      · refine px_iconst dX11_write_79 ic_0 ?_
        refine px_si_2 dX11_write_80 rfl ?_
        have hB0 : B = 0 := by rw [show (0 : Int32) = nI 0 from rfl, nI_leI (by have := hok.2.2.2.1; omega) (by decide)] at h56; omega
        have eH : adH W H B = adC (adN (adN (adW ((0, fun _ => 0) : aW) 0) (nI W)) (nI H)) 59 := if_pos hB0
        have hxn : xN M49 = xN M := hn49.trans (hn43.trans (hn35.trans hn27))
        have qq : wrG 74 24 84 M M49 := wrGtr q0 (wrGtr q27 (wrGtr q35 (wrGtr q43 q49)))
        have hx := l_mw81 (E := E) (M := M49) (s0 := adC (adN (adN (adW ((0, fun _ => 0) : aW) 0) (nI W)) (nI H)) 59) (v := nI t) (QQ := fun r m => r = some (.int (aWri (nI t) n (adS n W H B g))) ∧ (¬ wOk (nI t) n (adS n W H B g) → wrG 74 24 84 M m) ∧ (wOk (nI t) n (adS n W H B g) → m.2 = M.2 ∧ (∀ a, a ≠ 74 → a ≠ 84 → a ≠ 79 → a ≠ 80 → m.1 a = M.1 a) ∧ (∀ k, k ≠ 24 → m.1 74 k = M.1 74 k) ∧ m.1 79 ((nI t)).toNatClampNeg = nI (adS n W H B g).1 ∧ (∀ u, u ≠ ((nI t)).toNatClampNeg → m.1 79 u = M.1 79 u) ∧ (∀ i, i < (adS n W H B g).1 → m.1 80 (120 * ((nI t)).toNatClampNeg + i) = (adS n W H B g).2 i) ∧ ∀ j, (j < 120 * ((nI t)).toNatClampNeg ∨ 120 * ((nI t)).toNatClampNeg + 120 ≤ j) → m.1 80 j = M.1 80 j)) hM hW hsh hok (by omega) (fun m x2 x3 x4 y0 y1 y2 => by
          have hnm : xN m = xN M49 := by show m.2.2.2 = (M49).2.2.2; rw [y1.1]
          rw [← hnm]
          exact l_mw174 (M0 := M) (by rw [hnm]; exact hM) (by rw [y1.1]; exact hW) hok ht hn0 (wrGtr qq y1) (by unfold adS; rw [eH]; exact y2) y0 (hiv.mp h4)) M49 none none (wrGrf _ _ _ _) s49
        rw [hxn] at hx
        exact hx
      · refine px_aload_n dX11_write_59 rfl rfl ?_
        refine px_ldc dX11_write_60 xw1312 ?_
        refine px_top (y := nI (wC 1)) mkwc.2.2.2.2.2 ?_
        refine px_gV1 dX11_write_62 kX11_write_194 (xol rfl) hM (Nat.le_of_ble_eq_true rfl) (c_X11_writesWord (w := 1) (s := adC (adN (adN (adW ((0, fun _ => 0) : aW) 0) (nI W)) (nI H)) 59) hM hW (by decide) s49 (by omega)) (fun r62 M62 hq62 hn62 => ?_)
        obtain ⟨rfl, q62, s62⟩ := hq62
        have hM : xNT ≤ xN M62 := by rw [hn62]; exact hM
        have hW : xWire M62.2.1 := by rw [q62.1]; exact hW
        have hsh : mSh M62 n W H B g := mShw q62 hsh
        refine px_aload_n dX11_write_65 rfl rfl ?_
        refine px_aload_n dX11_write_66 rfl rfl ?_
        refine px_getI dX11_write_67 fX11_176 (xol rfl) hM rfl ?_
        refine px_top (y := nI B) hsh.2.2.2.1 ?_
        refine px_gV1 dX11_write_70 kX11_write_197 (xol rfl) hM (Nat.le_of_ble_eq_true rfl) (c_X11_writesNumber (s := adW (adC (adN (adN (adW ((0, fun _ => 0) : aW) 0) (nI W)) (nI H)) 59) 1) (x := nI B) hM hW s62 (by omega)) (fun r70 M70 hq70 hn70 => ?_)
        obtain ⟨rfl, q70, s70⟩ := hq70
        have hM : xNT ≤ xN M70 := by rw [hn70]; exact hM
        have hW : xWire M70.2.1 := by rw [q70.1]; exact hW
        have hsh : mSh M70 n W H B g := mShw q70 hsh
        refine px_aload_n dX11_write_73 rfl rfl ?_
        refine px_bipush dX11_write_74 bp_59 ?_
        refine px_gV1 dX11_write_76 kX11_write_191 (xol rfl) hM (Nat.le_of_ble_eq_true rfl) (c_X11_writes (s := adN (adW (adC (adN (adN (adW ((0, fun _ => 0) : aW) 0) (nI W)) (nI H)) 59) 1) (nI B)) hM hW s70 (by omega)) (fun r76 M76 hq76 hn76 => ?_)
        obtain ⟨rfl, q76, s76⟩ := hq76
        have hM : xNT ≤ xN M76 := by rw [hn76]; exact hM
        have hW : xWire M76.2.1 := by rw [q76.1]; exact hW
        have hsh : mSh M76 n W H B g := mShw q76 hsh
        refine px_iconst dX11_write_79 ic_0 ?_
        refine px_si_2 dX11_write_80 rfl ?_
        have hB0 : ¬ B = 0 := fun z => h56 (by rw [z]; decide)
        have eH : adH W H B = adC (adN (adW (adC (adN (adN (adW ((0, fun _ => 0) : aW) 0) (nI W)) (nI H)) 59) 1) (nI B)) 59 := if_neg hB0
        have hxn : xN M76 = xN M := hn76.trans (hn70.trans (hn62.trans (hn49.trans (hn43.trans (hn35.trans hn27)))))
        have qq : wrG 74 24 84 M M76 := wrGtr q0 (wrGtr q27 (wrGtr q35 (wrGtr q43 (wrGtr q49 (wrGtr q62 (wrGtr q70 q76))))))
        have hx := l_mw81 (E := E) (M := M76) (s0 := adC (adN (adW (adC (adN (adN (adW ((0, fun _ => 0) : aW) 0) (nI W)) (nI H)) 59) 1) (nI B)) 59) (v := nI t) (QQ := fun r m => r = some (.int (aWri (nI t) n (adS n W H B g))) ∧ (¬ wOk (nI t) n (adS n W H B g) → wrG 74 24 84 M m) ∧ (wOk (nI t) n (adS n W H B g) → m.2 = M.2 ∧ (∀ a, a ≠ 74 → a ≠ 84 → a ≠ 79 → a ≠ 80 → m.1 a = M.1 a) ∧ (∀ k, k ≠ 24 → m.1 74 k = M.1 74 k) ∧ m.1 79 ((nI t)).toNatClampNeg = nI (adS n W H B g).1 ∧ (∀ u, u ≠ ((nI t)).toNatClampNeg → m.1 79 u = M.1 79 u) ∧ (∀ i, i < (adS n W H B g).1 → m.1 80 (120 * ((nI t)).toNatClampNeg + i) = (adS n W H B g).2 i) ∧ ∀ j, (j < 120 * ((nI t)).toNatClampNeg ∨ 120 * ((nI t)).toNatClampNeg + 120 ≤ j) → m.1 80 j = M.1 80 j)) hM hW hsh hok (by omega) (fun m x2 x3 x4 y0 y1 y2 => by
          have hnm : xN m = xN M76 := by show m.2.2.2 = (M76).2.2.2; rw [y1.1]
          rw [← hnm]
          exact l_mw174 (M0 := M) (by rw [hnm]; exact hM) (by rw [y1.1]; exact hW) hok ht hn0 (wrGtr qq y1) (by unfold adS; rw [eH]; exact y2) y0 (hiv.mp h4)) M76 none none (wrGrf _ _ _ _) s76
        rw [hxn] at hx
        exact hx
    · refine px_bipush dX11_write_16 bp_m4 ?_
      exact px_iret dX11_write_18 rfl ⟨by unfold aWri; rw [if_neg (not_not_intro (hiv.mp h4)), if_pos (nI_is (show (0 : Int32) = nI 0 from rfl) (by omega) (by decide) h13)], fun _ => wrGrf _ _ _ _, fun z => absurd (nI_is (show (0 : Int32) = nI 0 from rfl) (by omega) (by decide) h13) z.2.1⟩ (rfl)
  · refine px_iconst dX11_write_7 ic_m1 ?_
    exact px_iret dX11_write_8 rfl ⟨by unfold aWri; rw [if_pos (fun y => h4 (hiv.mpr y))], fun _ => wrGrf _ _ _ _, fun z => absurd (hiv.mpr z.1) h4⟩ (rfl)
