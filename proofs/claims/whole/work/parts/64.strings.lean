/-! ===== the string constants: length, charAt ===== -/
abbrev mJcod : xMD := (⟨"java/lang/String", "coder", "()B"⟩, prog_15_method_152_code, 1, some .byte, 0, 0)
abbrev mJlen : xMD := (⟨"java/lang/String", "length", "()I"⟩, prog_15_method_54_code, 1, some .int, 1, 20)
abbrev mJlat : xMD := (⟨"java/lang/String", "isLatin1", "()Z"⟩, prog_15_method_154_code, 1, some .boolean, 0, 0)
abbrev mPchk : xMD := (⟨"jdk/internal/util/Preconditions", "checkIndex", "(IILjava/util/function/BiFunction;)I"⟩, prog_19_method_11_code, 3, some .int, 0, 0)
abbrev mJchk : xMD := (⟨"java/lang/String", "checkIndex", "(II)V"⟩, prog_15_method_155_code, 2, none, 1, 22)
abbrev mLchr : xMD := (⟨"java/lang/StringLatin1", "charAt", "([BI)C"⟩, prog_16_method_2_code, 2, some .char, 2, 43)
abbrev mJchr : xMD := (⟨"java/lang/String", "charAt", "(I)C"⟩, prog_15_method_56_code, 2, some .char, 3, 64)
theorem hne_J0 : "java/lang/String" ≠ "java/lang/invoke/MethodHandle" ∧ "java/lang/String" ≠ "java/lang/invoke/VarHandle" := by decide +kernel
theorem hne_J1 : "java/lang/StringLatin1" ≠ "java/lang/invoke/MethodHandle" ∧ "java/lang/StringLatin1" ≠ "java/lang/invoke/VarHandle" := by decide +kernel
theorem hne_J3 : "jdk/internal/util/Preconditions" ≠ "java/lang/invoke/MethodHandle" ∧ "jdk/internal/util/Preconditions" ≠ "java/lang/invoke/VarHandle" := by decide +kernel
theorem pln_J0 : plainName "java/lang/String" = true := by decide +kernel
theorem pln_J1 : plainName "java/lang/StringLatin1" = true := by decide +kernel
theorem pln_J3 : plainName "jdk/internal/util/Preconditions" = true := by decide +kernel
theorem eJcod : xD mJcod 0 := ⟨xw104, xw539, hne_J0, by decide +kernel⟩
theorem eJlen : xD mJlen 0 := ⟨xw104, xw535, hne_J0, by decide +kernel⟩
theorem eJlat : xD mJlat 0 := ⟨xw104, xw549, hne_J0, by decide +kernel⟩
theorem ePchk : xD mPchk 3 := ⟨xw106, xw560, hne_J3, by decide +kernel⟩
theorem eJchk : xD mJchk 2 := ⟨xw104, xw555, hne_J0, by decide +kernel⟩
theorem eLchr : xD mLchr 2 := ⟨xw105, xw552, hne_J1, by decide +kernel⟩
theorem eJchr : xD mJchr 1 := ⟨xw104, xw545, hne_J0, by decide +kernel⟩
def sch (i k : Nat) : Int32 := (xsbyt.getD i []).getD k 0
theorem sch_a : ∀ i, i < 6 → ∀ k, k < xslen.getD i 0 → sch i k &&& 255 = sch i k := by decide +kernel
theorem sln_lt : ∀ i, i < 6 → xslen.getD i 0 < 7 := by decide +kernel
theorem cv_s {E : xE} (i : Nat) : cv E (.ref (1000 + i)) = .ref (E.sk i) := by
  show Value.ref (ad E (1000 + i)) = _
  unfold ad
  rw [if_neg (by omega), if_neg (by omega), show 1000 + i - 1000 = i by omega]
theorem cv_s2 {E : xE} (i : Nat) : cv E (.ref (2000 + i)) = .ref (E.sk (1000 + i)) := by
  rw [show 2000 + i = 1000 + (1000 + i) by omega]; exact cv_s _
theorem dJcod_0 : decode mJcod.co 0 = .ok (.getstatic 38, 3) := by decide +kernel
theorem dJcod_3 : decode mJcod.co 3 = .ok (.ifCond .eq 10, 3) := by decide +kernel
theorem dJcod_6 : decode mJcod.co 6 = .ok (.aload_n 0, 1) := by decide +kernel
theorem dJcod_7 : decode mJcod.co 7 = .ok (.getfield 15, 3) := by decide +kernel
theorem dJcod_10 : decode mJcod.co 10 = .ok (.goto 4, 3) := by decide +kernel
theorem dJcod_13 : decode mJcod.co 13 = .ok (.iconst 1, 1) := by decide +kernel
theorem dJcod_14 : decode mJcod.co 14 = .ok (.ireturn, 1) := by decide +kernel
theorem dJlen_0 : decode mJlen.co 0 = .ok (.aload_n 0, 1) := by decide +kernel
theorem dJlen_1 : decode mJlen.co 1 = .ok (.getfield 9, 3) := by decide +kernel
theorem dJlen_4 : decode mJlen.co 4 = .ok (.arraylength, 1) := by decide +kernel
theorem dJlen_5 : decode mJlen.co 5 = .ok (.aload_n 0, 1) := by decide +kernel
theorem dJlen_6 : decode mJlen.co 6 = .ok (.invokevirtual 335, 3) := by decide +kernel
theorem dJlen_9 : decode mJlen.co 9 = .ok (.ishr, 1) := by decide +kernel
theorem dJlen_10 : decode mJlen.co 10 = .ok (.ireturn, 1) := by decide +kernel
theorem dJlat_0 : decode mJlat.co 0 = .ok (.getstatic 38, 3) := by decide +kernel
theorem dJlat_3 : decode mJlat.co 3 = .ok (.ifCond .eq 14, 3) := by decide +kernel
theorem dJlat_6 : decode mJlat.co 6 = .ok (.aload_n 0, 1) := by decide +kernel
theorem dJlat_7 : decode mJlat.co 7 = .ok (.getfield 15, 3) := by decide +kernel
theorem dJlat_10 : decode mJlat.co 10 = .ok (.ifCond .ne 7, 3) := by decide +kernel
theorem dJlat_13 : decode mJlat.co 13 = .ok (.iconst 1, 1) := by decide +kernel
theorem dJlat_14 : decode mJlat.co 14 = .ok (.goto 4, 3) := by decide +kernel
theorem dJlat_17 : decode mJlat.co 17 = .ok (.iconst 0, 1) := by decide +kernel
theorem dJlat_18 : decode mJlat.co 18 = .ok (.ireturn, 1) := by decide +kernel
theorem dPchk_0 : decode mPchk.co 0 = .ok (.iload_n 0, 1) := by decide +kernel
theorem dPchk_1 : decode mPchk.co 1 = .ok (.ifCond .lt 8, 3) := by decide +kernel
theorem dPchk_4 : decode mPchk.co 4 = .ok (.iload_n 0, 1) := by decide +kernel
theorem dPchk_5 : decode mPchk.co 5 = .ok (.iload_n 1, 1) := by decide +kernel
theorem dPchk_6 : decode mPchk.co 6 = .ok (.if_icmp .lt 10, 3) := by decide +kernel
theorem dPchk_9 : decode mPchk.co 9 = .ok (.aload_n 2, 1) := by decide +kernel
theorem dPchk_10 : decode mPchk.co 10 = .ok (.iload_n 0, 1) := by decide +kernel
theorem dPchk_11 : decode mPchk.co 11 = .ok (.iload_n 1, 1) := by decide +kernel
theorem dPchk_12 : decode mPchk.co 12 = .ok (.invokestatic 95, 3) := by decide +kernel
theorem dPchk_15 : decode mPchk.co 15 = .ok (.athrow, 1) := by decide +kernel
theorem dPchk_16 : decode mPchk.co 16 = .ok (.iload_n 0, 1) := by decide +kernel
theorem dPchk_17 : decode mPchk.co 17 = .ok (.ireturn, 1) := by decide +kernel
theorem dJchk_0 : decode mJchk.co 0 = .ok (.iload_n 0, 1) := by decide +kernel
theorem dJchk_1 : decode mJchk.co 1 = .ok (.iload_n 1, 1) := by decide +kernel
theorem dJchk_2 : decode mJchk.co 2 = .ok (.getstatic 1053, 3) := by decide +kernel
theorem dJchk_5 : decode mJchk.co 5 = .ok (.invokestatic 1059, 3) := by decide +kernel
theorem dJchk_8 : decode mJchk.co 8 = .ok (.pop, 1) := by decide +kernel
theorem dJchk_9 : decode mJchk.co 9 = .ok (.return_, 1) := by decide +kernel
theorem dLchr_0 : decode mLchr.co 0 = .ok (.iload_n 1, 1) := by decide +kernel
theorem dLchr_1 : decode mLchr.co 1 = .ok (.aload_n 0, 1) := by decide +kernel
theorem dLchr_2 : decode mLchr.co 2 = .ok (.arraylength, 1) := by decide +kernel
theorem dLchr_3 : decode mLchr.co 3 = .ok (.invokestatic 9, 3) := by decide +kernel
theorem dLchr_6 : decode mLchr.co 6 = .ok (.aload_n 0, 1) := by decide +kernel
theorem dLchr_7 : decode mLchr.co 7 = .ok (.iload_n 1, 1) := by decide +kernel
theorem dLchr_8 : decode mLchr.co 8 = .ok (.baload, 1) := by decide +kernel
theorem dLchr_9 : decode mLchr.co 9 = .ok (.sipush 255, 3) := by decide +kernel
theorem dLchr_12 : decode mLchr.co 12 = .ok (.iand, 1) := by decide +kernel
theorem dLchr_13 : decode mLchr.co 13 = .ok (.i2c, 1) := by decide +kernel
theorem dLchr_14 : decode mLchr.co 14 = .ok (.ireturn, 1) := by decide +kernel
theorem dJchr_0 : decode mJchr.co 0 = .ok (.aload_n 0, 1) := by decide +kernel
theorem dJchr_1 : decode mJchr.co 1 = .ok (.invokevirtual 492, 3) := by decide +kernel
theorem dJchr_4 : decode mJchr.co 4 = .ok (.ifCond .eq 12, 3) := by decide +kernel
theorem dJchr_7 : decode mJchr.co 7 = .ok (.aload_n 0, 1) := by decide +kernel
theorem dJchr_8 : decode mJchr.co 8 = .ok (.getfield 9, 3) := by decide +kernel
theorem dJchr_11 : decode mJchr.co 11 = .ok (.iload_n 1, 1) := by decide +kernel
theorem dJchr_12 : decode mJchr.co 12 = .ok (.invokestatic 495, 3) := by decide +kernel
theorem dJchr_15 : decode mJchr.co 15 = .ok (.ireturn, 1) := by decide +kernel
theorem dJchr_16 : decode mJchr.co 16 = .ok (.aload_n 0, 1) := by decide +kernel
theorem dJchr_17 : decode mJchr.co 17 = .ok (.getfield 9, 3) := by decide +kernel
theorem dJchr_20 : decode mJchr.co 20 = .ok (.iload_n 1, 1) := by decide +kernel
theorem dJchr_21 : decode mJchr.co 21 = .ok (.invokestatic 498, 3) := by decide +kernel
theorem dJchr_24 : decode mJchr.co 24 = .ok (.ireturn, 1) := by decide +kernel
section STRS
variable {E : xE} {d : xMD} {ne pc : Nat} {lo : List (Option Value)} {st : List Value} {M : xMem} {Q : Option Value → xMem → Prop}
theorem px_sv {i : Nat} (hi : i < 6) (hc : d.nm.cls = "java/lang/String") (hd : decode d.co pc = .ok (.getfield 9, 3)) (k : PR E d ne (pc + 3) lo (.ref (2000 + i) :: st) M Q) : PR E d ne pc lo (.ref (1000 + i) :: st) M Q := by
  intro p e R s m args below meth c H ls locs cells slots Z S
  obtain ⟨hC, hR, hl0, hlen, hH, hS, hb1, hb2, hb3⟩ := id S
  obtain ⟨hx, hb, hml, hown, hts, hKN, hfr, hlo, hnm, hbs⟩ := id hC
  obtain ⟨cf, kk, fi, f, cell, h1, h2, h3, h4, h5, h6⟩ := (hH.2.2.2.1.1.1 i hi).2.2.1
  rw [hc] at hown
  rw [List.map_cons, cv_s]
  refine W.getf hx hb hown (hts _ xw1555) h1 h2 h3 h4 (v := .ref (E.sk (1000 + i))) h5 rfl rfl hd ?_
  rw [← cv_s2, ← List.map_cons]
  exact k _ _ _ _ _ _ _ _ _ _ _ _ _ _ _ S
theorem px_sc {i : Nat} (hi : i < 6) (hc : d.nm.cls = "java/lang/String") (hd : decode d.co pc = .ok (.getfield 15, 3)) (k : PR E d ne (pc + 3) lo (.int 0 :: st) M Q) : PR E d ne pc lo (.ref (1000 + i) :: st) M Q := by
  intro p e R s m args below meth c H ls locs cells slots Z S
  obtain ⟨hC, hR, hl0, hlen, hH, hS, hb1, hb2, hb3⟩ := id S
  obtain ⟨hx, hb, hml, hown, hts, hKN, hfr, hlo, hnm, hbs⟩ := id hC
  obtain ⟨cf, kk, fi, f, cell, h1, h2, h3, h4, h5, h6⟩ := (hH.2.2.2.1.1.1 i hi).2.1
  rw [hc] at hown
  rw [List.map_cons, cv_s]
  exact W.getf hx hb hown (hts _ xw1556) h1 h2 h3 h4 (v := .int 0) h5 rfl rfl hd (k _ _ _ _ _ _ _ _ _ _ _ _ _ _ _ S)
theorem px_gs1 (hc : d.nm.cls = "java/lang/String") (hd : decode d.co pc = .ok (.getstatic 38, 3)) (k : PR E d ne (pc + 3) lo (.int 1 :: st) M Q) : PR E d ne pc lo st M Q := by
  intro p e R s m args below meth c H ls locs cells slots Z S
  obtain ⟨hC, hR, hl0, hlen, hH, hS, hb1, hb2, hb3⟩ := id S
  obtain ⟨hx, hb, hml, hown, hts, hKN, hfr, hlo, hnm, hbs⟩ := id hC
  obtain ⟨cf, kf, fi, f, a, cell, h1, h2, h3, h4, h5, h6, h7, h8⟩ := hH.2.2.2.1.2.1
  rw [hc] at hown
  exact W.gets hx hb hown (hts _ xw540) h1 h2 h3 h4 h5 (fun e => by rw [e] at h6; cases h6) h7 rfl hd (k _ _ _ _ _ _ _ _ _ _ _ _ _ _ _ S)
theorem px_gs2 (hc : d.nm.cls = "java/lang/String") (hd : decode d.co pc = .ok (.getstatic 1053, 3)) (k0 : PR E d ne (pc + 3) lo (.null :: st) M Q) (k : PR E d ne (pc + 3) lo (.ref 3000 :: st) M Q) : PR E d ne pc lo st M Q := by
  intro p e R s m args below meth c H ls locs cells slots Z S
  obtain ⟨hC, hR, hl0, hlen, hH, hS, hb1, hb2, hb3⟩ := id S
  obtain ⟨hx, hb, hml, hown, hts, hKN, hfr, hlo, hnm, hbs⟩ := id hC
  rw [hc] at hown
  rcases hH.2.2.2.1.2.2 with ⟨cf, kf, fi, f, a, cell, h1, h2, h3, h4, h5, h6, h7, h8⟩ | ⟨cf, kf, fi, f, a, cell, h1, h2, h3, h4, h5, h6, h7, h8⟩
  · exact W.gets hx hb hown (hts _ xw556) h1 h2 h3 h4 h5 (fun e => by rw [e] at h6; cases h6) h7 rfl hd (k0 _ _ _ _ _ _ _ _ _ _ _ _ _ _ _ S)
  · refine W.gets hx hb hown (hts _ xw556) h1 h2 h3 h4 h5 (fun e => by rw [e] at h6; cases h6) h7 rfl hd ?_
    have e2 : (Value.ref (E.sk 2000)) = cv E (.ref 3000) := (cv_s (E := E) 2000).symm
    rw [e2, ← List.map_cons]
    exact k _ _ _ _ _ _ _ _ _ _ _ _ _ _ _ S
theorem px_sl {i : Nat} (hi : i < 6) (hd : decode d.co pc = .ok (.arraylength, 1)) (k : PR E d ne (pc + 1) lo (.int (Int32.ofNat (xslen.getD i 0)) :: st) M Q) : PR E d ne pc lo (.ref (2000 + i) :: st) M Q := by
  intro p e R s m args below meth c H ls locs cells slots Z S
  obtain ⟨hC, hR, hl0, hlen, hH, hS, hb1, hb2, hb3⟩ := id S
  obtain ⟨hx, hb, hml, hown, hts, hKN, hfr, hlo, hnm, hbs⟩ := id hC
  obtain ⟨cell, h1, h2, h3, h4, h5, h6, h7⟩ := (hH.2.2.2.1.1.1 i hi).2.2.2
  rw [List.map_cons, cv_s2]
  exact W.alen (n := Int32.ofNat (xslen.getD i 0)) hx hb h1 h2 h5 rfl rfl hd (k _ _ _ _ _ _ _ _ _ _ _ _ _ _ _ S)
theorem px_sb {i j : Nat} (hi : i < 6) (hj : j < xslen.getD i 0) (hd : decode d.co pc = .ok (.baload, 1)) (k : PR E d ne (pc + 1) lo (.int (sch i j) :: st) M Q) : PR E d ne pc lo (.int (nI j) :: .ref (2000 + i) :: st) M Q := by
  intro p e R s m args below meth c H ls locs cells slots Z S
  obtain ⟨hC, hR, hl0, hlen, hH, hS, hb1, hb2, hb3⟩ := id S
  obtain ⟨hx, hb, hml, hown, hts, hKN, hfr, hlo, hnm, hbs⟩ := id hC
  obtain ⟨cell, h1, h2, h3, h4, h5, h6, h7⟩ := (hH.2.2.2.1.1.1 i hi).2.2.2
  have hL := sln_lt i hi
  have hnj : (nI j).toNatClampNeg = j := nI_clamp (by omega)
  rw [List.map_cons, List.map_cons, cv_s2]
  refine W.bald (v := .int (sch i j)) hx hb h1 h2 h3 (fun q => ?_) (by rw [hnj]; exact h6 j hj) rfl rfl hd (k _ _ _ _ _ _ _ _ _ _ _ _ _ _ _ S)
  rcases q with q | q
  · exact absurd q (nI_pos (by omega))
  · rw [hnj] at q; omega
theorem px_i2c {x : Int32} (hd : decode d.co pc = .ok (.i2c, 1)) (k : PR E d ne (pc + 1) lo (.int (x.toUInt32 % 65536).toInt32 :: st) M Q) : PR E d ne pc lo (.int x :: st) M Q := by
  intro p e R s m args below meth c H ls locs cells slots Z S
  exact lv_i2c S.1.1 S.1.2.1 hd rfl (k _ _ _ _ _ _ _ _ _ _ _ _ _ _ _ S)
theorem px_pop {x : Int32} (hd : decode d.co pc = .ok (.pop, 1)) (k : PR E d ne (pc + 1) lo st M Q) : PR E d ne pc lo (.int x :: st) M Q := by
  intro p e R s m args below meth c H ls locs cells slots Z S
  exact lv_pop S.1.1 S.1.2.1 hd rfl (k _ _ _ _ _ _ _ _ _ _ _ _ _ _ _ S)
theorem px_nret {v : Int32} {ty : FieldType} (hd : decode d.co pc = .ok (.ireturn, 1)) (hr : d.rt = some ty) (hv : narrow ty (.int v) = .int v) (hq : Q (some (.int v)) M) (hn : xN M = ne) : PR E d ne pc lo [.int v] M Q := by
  intro p e R s m args below meth c H ls locs cells slots Z S
  exact S.2.1 (some (.int v)) M H ls pc locs cells slots hq hn ⟨hd, ty, hr, hv⟩ S.2.2.2.2.1 S.2.2.2.2.2.1 (by have := S.2.2.2.2.2.2.2.1; omega) (by have := S.2.2.2.2.2.2.2.2; omega)
theorem px_cVS {d' : xMD} {idx i : Nat} {As : List Value} {Q' : Option Value → xMem → Prop} (hi : i < 6) (hd : decode d.co pc = .ok (.invokevirtual idx, 3)) (hw0 : xC0 d d' As.length) (hw1 : Cond.methodLink d.nm.cls idx d'.nm ∈ xwl) (hw2 : Cond.instanceMethod d'.nm ∈ xwl) (hw3 : Cond.selects d'.nm.cls d'.nm d'.nm ∈ xwl) (hcl : d'.nm.cls = "java/lang/String") (hW : (st.map fun v => v.category).sum ≤ 8)
    (h : Ct E d' (.ref (1000 + i) :: As) M (xN M) Q') (k : ∀ r M', Q' r M' → xN M' = xN M → PR E d ne (pc + 3) lo (r.toList ++ st) M' Q) : PR E d ne pc lo (As.reverse ++ .ref (1000 + i) :: st) M Q := by
  intro p e R s m args below meth c H ls locs cells slots Z S
  obtain ⟨hC, hR, hl0, hlen, hH, hS, hb1, hb2, hb3⟩ := id S
  obtain ⟨hx, hb, hml, hown, hts, hKN, hfr, hlo, hnm, hbs⟩ := id hC
  rw [List.map_append, List.map_reverse, List.map_cons]
  refine px_after (va_runV (C := d'.nm.cls) (As := As.map (cv E)) (rest := st.map (cv E)) (b := ad E (1000 + i)) ⟨hx, hb, hml, hown, hts⟩ h ⟨xC0.b (own := 0) hw0 hts hfr hlo hw1, hts _ hw2, hts _ hw3⟩ ⟨Pc0.blind _ _ _, ?_, fun U hU hWm => ⟨rfl, by rw [hU]; exact hH.moved hWm.alike, hKN.warm hWm⟩⟩ rfl (by rw [List.length_map]) hl0.1 rfl (lv_room (by rw [cv_sum]; exact hW)) hd ⟨by omega, by omega⟩) hS (fun r M' H1 locs1 hq hn hH1 hS1 => ?_)
  · obtain ⟨cell, q1, q2, q3, -⟩ := (hH.2.2.2.1.1.1 i hi).1
    have e1 : ad E (1000 + i) = E.sk i := Value.ref.inj (cv_s (E := E) i)
    rw [e1, hcl]
    exact ⟨cell, q1, q2, q3⟩
  · have e1 : (r.map (cv E)).toList ++ st.map (cv E) = (r.toList ++ st).map (cv E) := by cases r <;> rfl
    rw [e1]
    exact k r M' hq hn p e R s m args below meth c H1 ls locs1 _ _ Z ⟨hC, hR, hl0, hlen, hH1, hS1, by omega, by rw [hn]; omega, by rw [hn]; omega⟩
end STRS
set_option maxRecDepth 100000 in
theorem c_Jcod {E : xE} {M : xMem} {i : Nat} (hi : i < 6) : Cf E mJcod [.ref (1000 + i)] M (some (.int 0)) M := by
  refine Ct.of (lo := [some (.ref (1000 + i))]) pln_J0 (Nat.le_of_ble_eq_true rfl) rfl (Nat.le_refl _) ?_
  refine px_gs1 rfl dJcod_0 ?_
  refine px_if_eq 13 dJcod_3 rfl (fun h3 => absurd h3 (by decide)) (fun h3 => ?_)
  refine px_aload_n dJcod_6 rfl rfl ?_
  refine px_sc hi rfl dJcod_7 ?_
  refine px_goto 14 dJcod_10 rfl ?_
  exact px_nret dJcod_14 rfl rfl ⟨rfl, rfl⟩ rfl
set_option maxRecDepth 100000 in
theorem c_Jlen {E : xE} {M : xMem} {i : Nat} (hi : i < 6) : Cf E mJlen [.ref (1000 + i)] M (some (.int (nI (xslen.getD i 0)))) M := by
  refine Ct.of (lo := [some (.ref (1000 + i))]) pln_J0 (Nat.le_of_ble_eq_true rfl) rfl (Nat.le_refl _) ?_
  refine px_aload_n dJlen_0 rfl rfl ?_
  refine px_sv hi rfl dJlen_1 ?_
  refine px_sl hi dJlen_4 ?_
  refine px_aload_n dJlen_5 rfl rfl ?_
  refine px_cVS (As := []) hi dJlen_6 (xC0.mk eJcod (Nat.le_of_ble_eq_true rfl) (Nat.le_of_ble_eq_true rfl)) xw536 xw537 xw538 rfl (Nat.le_of_ble_eq_true rfl) (c_Jcod hi) (fun r M' hq _ => ?_)
  obtain ⟨rfl, rfl⟩ := hq
  refine px_ishr dJlen_9 ?_
  refine px_top (y := nI (xslen.getD i 0)) (sc_shr0 (by have := sln_lt i hi; omega)) ?_
  exact px_iret dJlen_10 rfl ⟨rfl, rfl⟩ rfl
set_option maxRecDepth 100000 in
theorem c_Jlat {E : xE} {M : xMem} {i : Nat} (hi : i < 6) : Cf E mJlat [.ref (1000 + i)] M (some (.int 1)) M := by
  refine Ct.of (lo := [some (.ref (1000 + i))]) pln_J0 (Nat.le_of_ble_eq_true rfl) rfl (Nat.le_refl _) ?_
  refine px_gs1 rfl dJlat_0 ?_
  refine px_if_eq 17 dJlat_3 rfl (fun h3 => absurd h3 (by decide)) (fun h3 => ?_)
  refine px_aload_n dJlat_6 rfl rfl ?_
  refine px_sc hi rfl dJlat_7 ?_
  refine px_if_ne 17 dJlat_10 rfl (fun h3 => absurd rfl h3) (fun h3 => ?_)
  refine px_iconst dJlat_13 ic_1 ?_
  refine px_goto 18 dJlat_14 rfl ?_
  exact px_zret dJlat_18 rfl rfl ⟨rfl, rfl⟩ rfl
set_option maxRecDepth 100000 in
theorem c_Pchk {E : xE} {M : xMem} {k L a : Nat} (hk : k < L) (hL : L < 2 ^ 31) : Cf E mPchk [.int (nI k), .int (nI L), .ref a] M (some (.int (nI k))) M := by
  refine Ct.of (lo := [some (.int (nI k)), some (.int (nI L)), some (.ref a)]) pln_J3 (Nat.le_of_ble_eq_true rfl) rfl (Nat.le_refl _) ?_
  refine px_iload_n dPchk_0 rfl rfl ?_
  refine px_if_lt 9 dPchk_1 rfl (fun h1 => absurd h1 (nI_pos (by omega))) (fun h1 => ?_)
  refine px_iload_n dPchk_4 rfl rfl ?_
  refine px_iload_n dPchk_5 rfl rfl ?_
  refine px_icmp_lt 16 dPchk_6 rfl (fun h6 => ?_) (fun h6 => absurd (nI_lt hk hL) h6)
  refine px_iload_n dPchk_16 rfl rfl ?_
  exact px_iret dPchk_17 rfl ⟨rfl, rfl⟩ rfl
set_option maxRecDepth 100000 in
theorem c_Pchk0 {E : xE} {M : xMem} {k L : Nat} (hk : k < L) (hL : L < 2 ^ 31) : Cf E mPchk [.int (nI k), .int (nI L), .null] M (some (.int (nI k))) M := by
  refine Ct.of (lo := [some (.int (nI k)), some (.int (nI L)), some .null]) pln_J3 (Nat.le_of_ble_eq_true rfl) rfl (Nat.le_refl _) ?_
  refine px_iload_n dPchk_0 rfl rfl ?_
  refine px_if_lt 9 dPchk_1 rfl (fun h1 => absurd h1 (nI_pos (by omega))) (fun h1 => ?_)
  refine px_iload_n dPchk_4 rfl rfl ?_
  refine px_iload_n dPchk_5 rfl rfl ?_
  refine px_icmp_lt 16 dPchk_6 rfl (fun h6 => ?_) (fun h6 => absurd (nI_lt hk hL) h6)
  refine px_iload_n dPchk_16 rfl rfl ?_
  exact px_iret dPchk_17 rfl ⟨rfl, rfl⟩ rfl
set_option maxRecDepth 100000 in
theorem c_Jchk {E : xE} {M : xMem} {k L : Nat} (hk : k < L) (hL : L < 2 ^ 31) : Cf E mJchk [.int (nI k), .int (nI L)] M none M := by
  refine Ct.of (lo := [some (.int (nI k)), some (.int (nI L))]) pln_J0 (Nat.le_of_ble_eq_true rfl) rfl (Nat.le_refl _) ?_
  refine px_iload_n dJchk_0 rfl rfl ?_
  refine px_iload_n dJchk_1 rfl rfl ?_
  refine px_gs2 rfl dJchk_2 ?_ ?_
  · refine px_fS3i dJchk_5 ⟨xC0.mk ePchk (Nat.le_of_ble_eq_true rfl) (Nat.le_of_ble_eq_true rfl), xw558, xw559⟩ (Nat.le_of_ble_eq_true rfl) (c_Pchk0 hk hL) ?_
    refine px_pop dJchk_8 ?_
    exact px_ret dJchk_9 rfl ⟨rfl, rfl⟩ rfl
  · refine px_fS3i dJchk_5 ⟨xC0.mk ePchk (Nat.le_of_ble_eq_true rfl) (Nat.le_of_ble_eq_true rfl), xw558, xw559⟩ (Nat.le_of_ble_eq_true rfl) (c_Pchk hk hL) ?_
    refine px_pop dJchk_8 ?_
    exact px_ret dJchk_9 rfl ⟨rfl, rfl⟩ rfl
theorem sch_nar {i k : Nat} (hi : i < 6) (hk : k < xslen.getD i 0) : narrow .char (.int (sch i k)) = .int (sch i k) := by
  rw [← sch_a i hi k hk]; exact sc_nar _
theorem sch_c {i k : Nat} (hi : i < 6) (hk : k < xslen.getD i 0) : ((sch i k &&& 255).toUInt32 % 65536).toInt32 = sch i k := by
  rw [sc_c2]; exact sch_a i hi k hk
set_option maxRecDepth 100000 in
theorem c_Lchr {E : xE} {M : xMem} {i k : Nat} (hi : i < 6) (hk : k < xslen.getD i 0) : Cf E mLchr [.ref (2000 + i), .int (nI k)] M (some (.int (sch i k))) M := by
  have hL := sln_lt i hi
  refine Ct.of (lo := [some (.ref (2000 + i)), some (.int (nI k))]) pln_J1 (Nat.le_of_ble_eq_true rfl) rfl (Nat.le_refl _) ?_
  refine px_iload_n dLchr_0 rfl rfl ?_
  refine px_aload_n dLchr_1 rfl rfl ?_
  refine px_sl hi dLchr_2 ?_
  refine px_fS2v dLchr_3 ⟨xC0.mk eJchk (Nat.le_of_ble_eq_true rfl) (Nat.le_of_ble_eq_true rfl), xw553, xw554⟩ (Nat.le_of_ble_eq_true rfl) (c_Jchk hk (by omega)) ?_
  refine px_aload_n dLchr_6 rfl rfl ?_
  refine px_iload_n dLchr_7 rfl rfl ?_
  refine px_sb hi hk dLchr_8 ?_
  refine px_sipush dLchr_9 (v := 255) (by decide) ?_
  refine px_iand dLchr_12 ?_
  refine px_i2c dLchr_13 ?_
  refine px_top (sch_c hi hk) ?_
  exact px_nret dLchr_14 rfl (sch_nar hi hk) ⟨rfl, rfl⟩ rfl
set_option maxRecDepth 100000 in
theorem c_Jchr {E : xE} {M : xMem} {i k : Nat} (hi : i < 6) (hk : k < xslen.getD i 0) : Cf E mJchr [.ref (1000 + i), .int (nI k)] M (some (.int (sch i k))) M := by
  refine Ct.of (lo := [some (.ref (1000 + i)), some (.int (nI k))]) pln_J0 (Nat.le_of_ble_eq_true rfl) rfl (Nat.le_refl _) ?_
  refine px_aload_n dJchr_0 rfl rfl ?_
  refine px_cVS (As := []) hi dJchr_1 (xC0.mk eJlat (Nat.le_of_ble_eq_true rfl) (Nat.le_of_ble_eq_true rfl)) xw546 xw547 xw548 rfl (Nat.le_of_ble_eq_true rfl) (c_Jlat hi) (fun r M' hq _ => ?_)
  obtain ⟨rfl, rfl⟩ := hq
  refine px_if_eq 16 dJchr_4 rfl (fun h3 => absurd h3 (by decide)) (fun h3 => ?_)
  refine px_aload_n dJchr_7 rfl rfl ?_
  refine px_sv hi rfl dJchr_8 ?_
  refine px_iload_n dJchr_11 rfl rfl ?_
  refine px_fS2i dJchr_12 ⟨xC0.mk eLchr (Nat.le_of_ble_eq_true rfl) (Nat.le_of_ble_eq_true rfl), xw550, xw551⟩ (Nat.le_of_ble_eq_true rfl) (c_Lchr hi hk) ?_
  exact px_nret dJchr_15 rfl (sch_nar hi hk) ⟨rfl, rfl⟩ rfl
section STRC
variable {E : xE} {d : xMD} {ne pc : Nat} {lo : List (Option Value)} {st : List Value} {M : xMem} {Q : Option Value → xMem → Prop}
theorem px_len {i idx : Nat} (hi : i < 6) (hd : decode d.co pc = .ok (.invokevirtual idx, 3)) (hl : Cond.methodLink d.nm.cls idx mJlen.nm ∈ xwl) (h5 : mJlen.fr + 1 ≤ d.fr) (h6 : 8 + (mJlen.ml + 11) + mJlen.lo ≤ d.lo) (hW : (st.map fun v => v.category).sum ≤ 8) (k : PR E d ne (pc + 3) lo (.int (nI (xslen.getD i 0)) :: st) M Q) : PR E d ne pc lo (.ref (1000 + i) :: st) M Q :=
  px_cVS (As := []) hi hd (xC0.mk eJlen h5 h6) hl xw533 xw534 rfl hW (c_Jlen hi) (fun r M' hq _ => by obtain ⟨rfl, rfl⟩ := hq; exact k)
theorem px_chr {i j idx : Nat} (hi : i < 6) (hj : j < xslen.getD i 0) (hd : decode d.co pc = .ok (.invokevirtual idx, 3)) (hl : Cond.methodLink d.nm.cls idx mJchr.nm ∈ xwl) (h5 : mJchr.fr + 1 ≤ d.fr) (h6 : 8 + (mJchr.ml + 11) + mJchr.lo ≤ d.lo) (hW : (st.map fun v => v.category).sum ≤ 8) (k : PR E d ne (pc + 3) lo (.int (sch i j) :: st) M Q) : PR E d ne pc lo (.int (nI j) :: .ref (1000 + i) :: st) M Q :=
  px_cVS (As := [.int (nI j)]) hi hd (xC0.mk eJchr h5 h6) hl xw543 xw544 rfl hW (c_Jchr hi hj) (fun r M' hq _ => by obtain ⟨rfl, rfl⟩ := hq; exact k)
end STRC
