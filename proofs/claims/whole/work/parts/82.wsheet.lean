/-! ===== the scribe: a sheet ===== -/
set_option maxRecDepth 100000 in
theorem l_ws62 {E : xE} {M : xMem} {s0 : aW} {QQ : Option Value → xMem → Prop} {s n W H B : Nat} {g : Nat → Nat → Nat} (hM : xNT ≤ xN M) (hW : xWire M.2.1) (hs : xob s 7) (hsh : cSh M s n W H B g) (hok : okSh n W H B g) (hs0 : scG M 22 1 23 s0) (hb : s0.1 < 300) (kf : ∀ m, wrG 22 1 23 M m → scG m 22 1 23 (adFs s0 g n) → QQ none m) : ∀ m, wrG 22 1 23 M m → scG m 22 1 23 (adFs s0 g 0) → PR E mX6_writeSheet (xN M) 62 [some (.ref 22), some (.ref s), some (.int (nI 0))] [] (m) (QQ) := by
  have h8 : n ≤ 8 := hok.1
  have h7 := xob_7 hs
  have hp0 : 0 < s := hs.1
  refine px_for (P := fun i => ∀ m, wrG 22 1 23 M m → scG m 22 1 23 (adFs s0 g i) → PR E mX6_writeSheet (xN M) 62 [some (.ref 22), some (.ref s), some (.int (nI i))] [] (m) (QQ)) (n) (fun i hi nx => ?_) (0) (Nat.zero_le _)
  intro m g1 g2
  have hnm : xN m = xN M := by show m.2.2.2 = M.2.2.2; rw [g1.1]
  have hM : xNT ≤ xN m := by rw [hnm]; exact hM
  have hW : xWire m.2.1 := by rw [g1.1]; exact hW
  have hsm := cShw g1 hs h8 hsh
  have hfb := adFs_b s0 g i (fun f hf => (hok.2.2.2.2.2 f (by omega)).1)
  refine px_iload_n dX6_writeSheet_62 rfl rfl ?_
  refine px_aload_n dX6_writeSheet_63 rfl rfl ?_
  refine px_getI dX6_writeSheet_64 fX6_44 hs hM rfl ?_
  refine px_top (y := nI n) hsm.1 ?_
  refine px_icmp_ge 86 dX6_writeSheet_67 rfl (fun h67 => ?_) (fun h67 => ?_)
  · have hi2 : i = n := by rw [nI_leI (by omega) (by omega)] at h67; omega
    exact px_ret dX6_writeSheet_86 rfl (by rw [hi2] at g2; exact kf _ g1 g2) (by first | exact hnm | exact hn77.trans hnm)
  · have hlt : i < n := by rw [nI_leI (by omega) (by omega)] at h67; omega
    refine px_aload_n dX6_writeSheet_70 rfl rfl ?_
    refine px_aload_n dX6_writeSheet_71 rfl rfl ?_
    refine px_getR dX6_writeSheet_72 fX6_45 hs hM rfl (wr_7_0 hW hs) (Nat.succ_pos _) ?_
    refine px_iload_n dX6_writeSheet_75 rfl rfl ?_
    refine px_aald (t0 := 6) dX6_writeSheet_76 (ar_7 hs) (by decide) (fun _ => rfl) hM (vp_in_nI (by omega) (by decide)) (show m.2.1 (s + 1) (nI i).toNatClampNeg = s + 1 + 1 + i by rw [nI_clamp (by omega)]; exact wa_26 hW (ar_7 hs) (by omega)) (by omega) ?_
    refine px_gV1 dX6_writeSheet_77 kX6_writeSheet_49 (xol rfl) hM (Nat.le_of_ble_eq_true rfl) (c_X6_writeFrame (g := g i) hM hW g2 (by omega) (ob_frame hs (by omega)) (by omega) (by omega) (fun k hk => (hsm.2.2.2.2 i hlt k (by omega)).trans (congrArg nI (if_pos hk))) (hok.2.2.2.2.2 i hlt).1) (fun r77 M77 hq77 hn77 => ?_)
    obtain ⟨rfl, q77, s77⟩ := hq77
    refine px_inc_2 dX6_writeSheet_80 rfl ic_1 ?_
    refine px_goto 62 dX6_writeSheet_83 rfl ?_
    exact px_eq (by rw [nI_1]) rfl (nx hlt _ (wrGtr g1 q77) s77)

set_option maxRecDepth 100000 in
theorem c_X6_writeSheet {E : xE} {M : xMem} {s n W H B : Nat} {g : Nat → Nat → Nat} (hM : xNT ≤ xN M) (hW : xWire M.2.1) (hs : xob s 7) (hsh : cSh M s n W H B g) (hok : okSh n W H B g) : Ct E mX6_writeSheet [.ref 22, .ref s] M (xN M) (fun r m => r = none ∧ wrG 22 1 23 M m ∧ scG m 22 1 23 (adS n W H B g)) := by
  have h8 : n ≤ 8 := hok.1
  have h7 := xob_7 hs
  have hp0 : 0 < s := hs.1
  have b1 := adW_b ((0, fun _ => 0) : aW) (i := 0) (by decide)
  have b2 := adN_b (adW ((0, fun _ => 0) : aW) 0) (nI W)
  have b3 := adN_b (adN (adW ((0, fun _ => 0) : aW) 0) (nI W)) (nI H)
  have b0 : ((0, fun _ => 0) : aW).1 = 0 := rfl
  have b4 : (adC (adN (adN (adW ((0, fun _ => 0) : aW) 0) (nI W)) (nI H)) 59).1 = (adN (adN (adW ((0, fun _ => 0) : aW) 0) (nI W)) (nI H)).1 + 1 := rfl
  have b5 := adW_b (adC (adN (adN (adW ((0, fun _ => 0) : aW) 0) (nI W)) (nI H)) 59) (i := 1) (by decide)
  have b6 := adN_b (adW (adC (adN (adN (adW ((0, fun _ => 0) : aW) 0) (nI W)) (nI H)) 59) 1) (nI B)
  have b7 : (adC (adN (adW (adC (adN (adN (adW ((0, fun _ => 0) : aW) 0) (nI W)) (nI H)) 59) 1) (nI B)) 59).1 = (adN (adW (adC (adN (adN (adW ((0, fun _ => 0) : aW) 0) (nI W)) (nI H)) 59) 1) (nI B)).1 + 1 := rfl
  refine Ct.of (lo := [some (.ref 22), some (.ref s), none]) pln_X6 (Nat.le_of_ble_eq_true rfl) rfl (Nat.le_refl _) ?_
  refine px_aload_n dX6_writeSheet_0 rfl rfl ?_
  refine px_iconst dX6_writeSheet_1 ic_0 ?_
  refine px_putI dX6_writeSheet_2 fX6_15 p6_1 (xol rfl) hM rfl ?_
  have q0 : wrG 22 1 23 M (wI M 22 1 0) := ⟨rfl, fun a a1 a2 => by funext k; rw [xI_wI, if_neg (fun z => a1 z.1)], fun k k1 => by rw [xI_wI, if_neg (fun z => k1 z.2)]⟩
  have s0 : scG (wI M 22 1 0) 22 1 23 ((0, fun _ => 0) : aW) := ⟨rfl, fun i hi => absurd hi (Nat.not_lt_zero i)⟩
  have hsh : cSh (wI M 22 1 0) s n W H B g := cShw q0 hs h8 hsh
  refine px_aload_n dX6_writeSheet_5 rfl rfl ?_
  refine px_ldcS dX6_writeSheet_6 (List.mem_of_getElem? (i := 6) rfl) ?_
  refine px_gV1 dX6_writeSheet_8 kX6_writeSheet_21 (xol rfl) hM (Nat.le_of_ble_eq_true rfl) (c_X6_addWord (w := 0) (s := ((0, fun _ => 0) : aW)) hM hW (by decide) s0 (by decide)) (fun r8 M8 hq8 hn8 => ?_)
  obtain ⟨rfl, q8, s8⟩ := hq8
  have hM : xNT ≤ xN M8 := by rw [hn8]; exact hM
  have hW : xWire M8.2.1 := by rw [q8.1]; exact hW
  have hsh : cSh M8 s n W H B g := cShw q8 hs h8 hsh
  refine px_aload_n dX6_writeSheet_11 rfl rfl ?_
  refine px_aload_n dX6_writeSheet_12 rfl rfl ?_
  refine px_getI dX6_writeSheet_13 fX6_25 hs hM rfl ?_
  refine px_top (y := nI W) hsh.2.1 ?_
  refine px_gV1 dX6_writeSheet_16 kX6_writeSheet_30 (xol rfl) hM (Nat.le_of_ble_eq_true rfl) (c_X6_addNumber (s := adW ((0, fun _ => 0) : aW) 0) (x := nI W) hM hW s8 (by omega)) (fun r16 M16 hq16 hn16 => ?_)
  obtain ⟨rfl, q16, s16⟩ := hq16
  have hM : xNT ≤ xN M16 := by rw [hn16]; exact hM
  have hW : xWire M16.2.1 := by rw [q16.1]; exact hW
  have hsh : cSh M16 s n W H B g := cShw q16 hs h8 hsh
  refine px_aload_n dX6_writeSheet_19 rfl rfl ?_
  refine px_aload_n dX6_writeSheet_20 rfl rfl ?_
  refine px_getI dX6_writeSheet_21 fX6_34 hs hM rfl ?_
  refine px_top (y := nI H) hsh.2.2.1 ?_
  refine px_gV1 dX6_writeSheet_24 kX6_writeSheet_30 (xol rfl) hM (Nat.le_of_ble_eq_true rfl) (c_X6_addNumber (s := adN (adW ((0, fun _ => 0) : aW) 0) (nI W)) (x := nI H) hM hW s16 (by omega)) (fun r24 M24 hq24 hn24 => ?_)
  obtain ⟨rfl, q24, s24⟩ := hq24
  have hM : xNT ≤ xN M24 := by rw [hn24]; exact hM
  have hW : xWire M24.2.1 := by rw [q24.1]; exact hW
  have hsh : cSh M24 s n W H B g := cShw q24 hs h8 hsh
  refine px_aload_n dX6_writeSheet_27 rfl rfl ?_
  refine px_bipush dX6_writeSheet_28 bp_59 ?_
  refine px_gV1 dX6_writeSheet_30 kX6_writeSheet_37 (xol rfl) hM (Nat.le_of_ble_eq_true rfl) (c_X6_addSign (s := adN (adN (adW ((0, fun _ => 0) : aW) 0) (nI W)) (nI H)) hM hW s24 (by omega)) (fun r30 M30 hq30 hn30 => ?_)
  obtain ⟨rfl, q30, s30⟩ := hq30
  have hM : xNT ≤ xN M30 := by rw [hn30]; exact hM
  have hW : xWire M30.2.1 := by rw [q30.1]; exact hW
  have hsh : cSh M30 s n W H B g := cShw q30 hs h8 hsh
  refine px_aload_n dX6_writeSheet_33 rfl rfl ?_
  refine px_getI dX6_writeSheet_34 fX6_40 hs hM rfl ?_
  refine px_top (y := nI B) hsh.2.2.2.1 ?_
  refine px_if_eq 60 dX6_writeSheet_37 rfl (fun h37 => ?_) (fun h37 => ?_)
  · refine px_iconst dX6_writeSheet_60 ic_0 ?_
    refine px_si_2 dX6_writeSheet_61 rfl ?_
    have hB0 : B = 0 := nI_is (show (0 : Int32) = nI 0 from rfl) (by have := hok.2.2.2.1; omega) (by decide) h37
    have eH : adH W H B = adC (adN (adN (adW ((0, fun _ => 0) : aW) 0) (nI W)) (nI H)) 59 := if_pos hB0
    have hx := l_ws62 (E := E) (M := M30) (s0 := adC (adN (adN (adW ((0, fun _ => 0) : aW) 0) (nI W)) (nI H)) 59) (QQ := fun r m => r = none ∧ wrG 22 1 23 M m ∧ scG m 22 1 23 (adS n W H B g)) hM hW hs hsh hok s30 (by omega) (fun m y1 y2 => ⟨rfl, wrGtr (wrGtr q0 (wrGtr q8 (wrGtr q16 (wrGtr q24 q30)))) y1, by unfold adS; rw [eH]; exact y2⟩) M30 (wrGrf _ _ _ _) s30
    rw [show xN M30 = xN M from hn30.trans (hn24.trans (hn16.trans hn8))] at hx
    exact hx
  · refine px_aload_n dX6_writeSheet_40 rfl rfl ?_
    refine px_ldcS dX6_writeSheet_41 (List.mem_of_getElem? (i := 7) rfl) ?_
    refine px_gV1 dX6_writeSheet_43 kX6_writeSheet_21 (xol rfl) hM (Nat.le_of_ble_eq_true rfl) (c_X6_addWord (w := 1) (s := adC (adN (adN (adW ((0, fun _ => 0) : aW) 0) (nI W)) (nI H)) 59) hM hW (by decide) s30 (by omega)) (fun r43 M43 hq43 hn43 => ?_)
    obtain ⟨rfl, q43, s43⟩ := hq43
    have hM : xNT ≤ xN M43 := by rw [hn43]; exact hM
    have hW : xWire M43.2.1 := by rw [q43.1]; exact hW
    have hsh : cSh M43 s n W H B g := cShw q43 hs h8 hsh
    refine px_aload_n dX6_writeSheet_46 rfl rfl ?_
    refine px_aload_n dX6_writeSheet_47 rfl rfl ?_
    refine px_getI dX6_writeSheet_48 fX6_40 hs hM rfl ?_
    refine px_top (y := nI B) hsh.2.2.2.1 ?_
    refine px_gV1 dX6_writeSheet_51 kX6_writeSheet_30 (xol rfl) hM (Nat.le_of_ble_eq_true rfl) (c_X6_addNumber (s := adW (adC (adN (adN (adW ((0, fun _ => 0) : aW) 0) (nI W)) (nI H)) 59) 1) (x := nI B) hM hW s43 (by omega)) (fun r51 M51 hq51 hn51 => ?_)
    obtain ⟨rfl, q51, s51⟩ := hq51
    have hM : xNT ≤ xN M51 := by rw [hn51]; exact hM
    have hW : xWire M51.2.1 := by rw [q51.1]; exact hW
    have hsh : cSh M51 s n W H B g := cShw q51 hs h8 hsh
    refine px_aload_n dX6_writeSheet_54 rfl rfl ?_
    refine px_bipush dX6_writeSheet_55 bp_59 ?_
    refine px_gV1 dX6_writeSheet_57 kX6_writeSheet_37 (xol rfl) hM (Nat.le_of_ble_eq_true rfl) (c_X6_addSign (s := adN (adW (adC (adN (adN (adW ((0, fun _ => 0) : aW) 0) (nI W)) (nI H)) 59) 1) (nI B)) hM hW s51 (by omega)) (fun r57 M57 hq57 hn57 => ?_)
    obtain ⟨rfl, q57, s57⟩ := hq57
    have hM : xNT ≤ xN M57 := by rw [hn57]; exact hM
    have hW : xWire M57.2.1 := by rw [q57.1]; exact hW
    have hsh : cSh M57 s n W H B g := cShw q57 hs h8 hsh
    refine px_iconst dX6_writeSheet_60 ic_0 ?_
    refine px_si_2 dX6_writeSheet_61 rfl ?_
    have hB0 : ¬ B = 0 := fun z => h37 (by rw [z]; rfl)
    have eH : adH W H B = adC (adN (adW (adC (adN (adN (adW ((0, fun _ => 0) : aW) 0) (nI W)) (nI H)) 59) 1) (nI B)) 59 := if_neg hB0
    have hx := l_ws62 (E := E) (M := M57) (s0 := adC (adN (adW (adC (adN (adN (adW ((0, fun _ => 0) : aW) 0) (nI W)) (nI H)) 59) 1) (nI B)) 59) (QQ := fun r m => r = none ∧ wrG 22 1 23 M m ∧ scG m 22 1 23 (adS n W H B g)) hM hW hs hsh hok s57 (by omega) (fun m y1 y2 => ⟨rfl, wrGtr (wrGtr q0 (wrGtr q8 (wrGtr q16 (wrGtr q24 (wrGtr q30 (wrGtr q43 (wrGtr q51 q57))))))) y1, by unfold adS; rw [eH]; exact y2⟩) M57 (wrGrf _ _ _ _) s57
    rw [show xN M57 = xN M from hn57.trans (hn51.trans (hn43.trans (hn30.trans (hn24.trans (hn16.trans hn8)))))] at hx
    exact hx
