abbrev rmX1_init : Room := { frames := 1, cells := 6, slots := 5784, locals := 12 }
set_option maxHeartbeats 4000000 in
set_option maxRecDepth 100000 in
theorem c_X1_init (l : Launch) (D : va_G) (sz : Nat) (cI : ClassId) (a9 : Nat) : MUv l yX1_init wsX1_init rmX1_init [.ref a9] D [(cI, .int)] ([(a9, .inr (1, [.null, .null, .null, .null, .null, .null]))]) sz (fun (u9 : Nat × Nat × Nat × Nat × Nat × Nat) => True) (fun u9 => []) (fun u9 => wS cI (ad7 a9 u9.1 u9.2.1 u9.2.2.1 u9.2.2.2.1 u9.2.2.2.2.1 u9.2.2.2.2.2) st0) 6 5784 := by
  refine met_v (own := RX1) (cc := cX1_init) (maxL := 1) (by decide) rfl rfl (Nat.le_of_ble_eq_true rfl) ?_
  intro p e s m args below meth c Q A hsz S hmn hw hA hE ls hl
  obtain ⟨hx, hb, hml, hown, hts⟩ := id S
  have ob0 := hts (.methodLink RX1 5 objectInit) (by decide +kernel)
  have ob1 := hts (.instanceMethod objectInit) (by decide +kernel)
  have ob2 := hts (.code objectInit ⟨#[0xb1]⟩ 1 none) (by decide +kernel)
  have na_int := hts (.arrayClass .int) (by decide +kernel)
  have k11 := hts (.fieldLink RX1 11 "CausalTable$State" "numbers" "[I") (by decide +kernel)
  have hin1 := (show ∀ w ∈ wsX10, w ∈ wsX1_init by decide +kernel)
  have k15 := hts (.fieldLink RX1 15 "CausalTable$State" "stamps" "[I") (by decide +kernel)
  have k18 := hts (.fieldLink RX1 18 "CausalTable$State" "values" "[I") (by decide +kernel)
  have k21 := hts (.fieldLink RX1 21 "CausalTable$State" "seenNumbers" "[I") (by decide +kernel)
  have k24 := hts (.fieldLink RX1 24 "CausalTable$State" "clocks" "[I") (by decide +kernel)
  have k27 := hts (.fieldLink RX1 27 "CausalTable$State" "mergeResult" "[I") (by decide +kernel)
  have hl : lv_has ls 1 [(0, .ref a9)] := hl
  refine lv_aload_n hx hb dX1_init_0 rfl (lv_at hl 0 rfl) ?_
  refine W.objInit hx hb hown ob0 ob1 ob2 rfl (hml.trans hl.1.symm).symm rfl dX1_init_1 (Nat.le_of_ble_eq_true rfl) (Nat.le_of_ble_eq_true rfl) ?_
  refine lv_aload_n hx hb dX1_init_4 rfl (lv_at hl 0 rfl) ?_
  refine lv_sipush (v := nI 1920) hx hb dX1_init_5 kc_sipush_1920 ?_
  refine r_newI hx hb na_int hw hA 0 rfl (n := 1920) (by decide) (Nat.le_of_ble_eq_true rfl) (Nat.le_of_ble_eq_true rfl) dX1_init_8 (fun q_8 H locs hw => ?_)
  have hw : Wd D A [(cI, .int)] ([(a9, .inr (1, [.null, .null, .null, .null, .null, .null]))] ++ [(q_8, .inl (cI, 1920, .inl (fun _ => 0)))]) s s.heap H locs := hw
  refine r_putF hx hb hts hown hw 0 0 (ty := tyX1 0) tyX1 tyX1_ok nmX1 hin1 rfl rfl (by decide) k11 rfl (hmn.trans rfl) rfl (by decide +kernel) rfl rfl (Nat.le_of_ble_eq_true rfl) dX1_init_10 (fun H locs hw => ?_)
  have hw : Wd D A [(cI, .int)] ([(a9, .inr (1, [.ref q_8, .null, .null, .null, .null, .null]))] ++ [(q_8, .inl (cI, 1920, .inl (fun _ => 0)))]) s s.heap H locs := hw
  refine lv_aload_n hx hb dX1_init_13 rfl (lv_at hl 0 rfl) ?_
  refine lv_sipush (v := nI 1920) hx hb dX1_init_14 kc_sipush_1920 ?_
  refine r_newI hx hb na_int hw hA 0 rfl (n := 1920) (by decide) (Nat.le_of_ble_eq_true rfl) (Nat.le_of_ble_eq_true rfl) dX1_init_17 (fun q_17 H locs hw => ?_)
  have hw : Wd D A [(cI, .int)] ([(a9, .inr (1, [.ref q_8, .null, .null, .null, .null, .null]))] ++ [(q_8, .inl (cI, 1920, .inl (fun _ => 0)))] ++ [(q_17, .inl (cI, 1920, .inl (fun _ => 0)))]) s s.heap H locs := hw
  refine r_putF hx hb hts hown hw 0 1 (ty := tyX1 1) tyX1 tyX1_ok nmX1 hin1 rfl rfl (by decide) k15 rfl (hmn.trans rfl) rfl (by decide +kernel) rfl rfl (Nat.le_of_ble_eq_true rfl) dX1_init_19 (fun H locs hw => ?_)
  have hw : Wd D A [(cI, .int)] ([(a9, .inr (1, [.ref q_8, .ref q_17, .null, .null, .null, .null]))] ++ [(q_8, .inl (cI, 1920, .inl (fun _ => 0)))] ++ [(q_17, .inl (cI, 1920, .inl (fun _ => 0)))]) s s.heap H locs := hw
  refine lv_aload_n hx hb dX1_init_22 rfl (lv_at hl 0 rfl) ?_
  refine lv_sipush (v := nI 1920) hx hb dX1_init_23 kc_sipush_1920 ?_
  refine r_newI hx hb na_int hw hA 0 rfl (n := 1920) (by decide) (Nat.le_of_ble_eq_true rfl) (Nat.le_of_ble_eq_true rfl) dX1_init_26 (fun q_26 H locs hw => ?_)
  have hw : Wd D A [(cI, .int)] ([(a9, .inr (1, [.ref q_8, .ref q_17, .null, .null, .null, .null]))] ++ [(q_8, .inl (cI, 1920, .inl (fun _ => 0)))] ++ [(q_17, .inl (cI, 1920, .inl (fun _ => 0)))] ++ [(q_26, .inl (cI, 1920, .inl (fun _ => 0)))]) s s.heap H locs := hw
  refine r_putF hx hb hts hown hw 0 2 (ty := tyX1 2) tyX1 tyX1_ok nmX1 hin1 rfl rfl (by decide) k18 rfl (hmn.trans rfl) rfl (by decide +kernel) rfl rfl (Nat.le_of_ble_eq_true rfl) dX1_init_28 (fun H locs hw => ?_)
  have hw : Wd D A [(cI, .int)] ([(a9, .inr (1, [.ref q_8, .ref q_17, .ref q_26, .null, .null, .null]))] ++ [(q_8, .inl (cI, 1920, .inl (fun _ => 0)))] ++ [(q_17, .inl (cI, 1920, .inl (fun _ => 0)))] ++ [(q_26, .inl (cI, 1920, .inl (fun _ => 0)))]) s s.heap H locs := hw
  refine lv_aload_n hx hb dX1_init_31 rfl (lv_at hl 0 rfl) ?_
  refine lv_bipush (v := nI 16) hx hb dX1_init_32 kc_bipush_16 ?_
  refine r_newI hx hb na_int hw hA 0 rfl (n := 16) (by decide) (Nat.le_of_ble_eq_true rfl) (Nat.le_of_ble_eq_true rfl) dX1_init_34 (fun q_34 H locs hw => ?_)
  have hw : Wd D A [(cI, .int)] ([(a9, .inr (1, [.ref q_8, .ref q_17, .ref q_26, .null, .null, .null]))] ++ [(q_8, .inl (cI, 1920, .inl (fun _ => 0)))] ++ [(q_17, .inl (cI, 1920, .inl (fun _ => 0)))] ++ [(q_26, .inl (cI, 1920, .inl (fun _ => 0)))] ++ [(q_34, .inl (cI, 16, .inl (fun _ => 0)))]) s s.heap H locs := hw
  refine r_putF hx hb hts hown hw 0 3 (ty := tyX1 3) tyX1 tyX1_ok nmX1 hin1 rfl rfl (by decide) k21 rfl (hmn.trans rfl) rfl (by decide +kernel) rfl rfl (Nat.le_of_ble_eq_true rfl) dX1_init_36 (fun H locs hw => ?_)
  have hw : Wd D A [(cI, .int)] ([(a9, .inr (1, [.ref q_8, .ref q_17, .ref q_26, .ref q_34, .null, .null]))] ++ [(q_8, .inl (cI, 1920, .inl (fun _ => 0)))] ++ [(q_17, .inl (cI, 1920, .inl (fun _ => 0)))] ++ [(q_26, .inl (cI, 1920, .inl (fun _ => 0)))] ++ [(q_34, .inl (cI, 16, .inl (fun _ => 0)))]) s s.heap H locs := hw
  refine lv_aload_n hx hb dX1_init_39 rfl (lv_at hl 0 rfl) ?_
  refine lv_iconst (v := nI 4) hx hb dX1_init_40 kc_iconst_4 ?_
  refine r_newI hx hb na_int hw hA 0 rfl (n := 4) (by decide) (Nat.le_of_ble_eq_true rfl) (Nat.le_of_ble_eq_true rfl) dX1_init_41 (fun q_41 H locs hw => ?_)
  have hw : Wd D A [(cI, .int)] ([(a9, .inr (1, [.ref q_8, .ref q_17, .ref q_26, .ref q_34, .null, .null]))] ++ [(q_8, .inl (cI, 1920, .inl (fun _ => 0)))] ++ [(q_17, .inl (cI, 1920, .inl (fun _ => 0)))] ++ [(q_26, .inl (cI, 1920, .inl (fun _ => 0)))] ++ [(q_34, .inl (cI, 16, .inl (fun _ => 0)))] ++ [(q_41, .inl (cI, 4, .inl (fun _ => 0)))]) s s.heap H locs := hw
  refine r_putF hx hb hts hown hw 0 4 (ty := tyX1 4) tyX1 tyX1_ok nmX1 hin1 rfl rfl (by decide) k24 rfl (hmn.trans rfl) rfl (by decide +kernel) rfl rfl (Nat.le_of_ble_eq_true rfl) dX1_init_43 (fun H locs hw => ?_)
  have hw : Wd D A [(cI, .int)] ([(a9, .inr (1, [.ref q_8, .ref q_17, .ref q_26, .ref q_34, .ref q_41, .null]))] ++ [(q_8, .inl (cI, 1920, .inl (fun _ => 0)))] ++ [(q_17, .inl (cI, 1920, .inl (fun _ => 0)))] ++ [(q_26, .inl (cI, 1920, .inl (fun _ => 0)))] ++ [(q_34, .inl (cI, 16, .inl (fun _ => 0)))] ++ [(q_41, .inl (cI, 4, .inl (fun _ => 0)))]) s s.heap H locs := hw
  refine lv_aload_n hx hb dX1_init_46 rfl (lv_at hl 0 rfl) ?_
  refine lv_iconst (v := nI 4) hx hb dX1_init_47 kc_iconst_4 ?_
  refine r_newI hx hb na_int hw hA 0 rfl (n := 4) (by decide) (Nat.le_of_ble_eq_true rfl) (Nat.le_of_ble_eq_true rfl) dX1_init_48 (fun q_48 H locs hw => ?_)
  have hw : Wd D A [(cI, .int)] ([(a9, .inr (1, [.ref q_8, .ref q_17, .ref q_26, .ref q_34, .ref q_41, .null]))] ++ [(q_8, .inl (cI, 1920, .inl (fun _ => 0)))] ++ [(q_17, .inl (cI, 1920, .inl (fun _ => 0)))] ++ [(q_26, .inl (cI, 1920, .inl (fun _ => 0)))] ++ [(q_34, .inl (cI, 16, .inl (fun _ => 0)))] ++ [(q_41, .inl (cI, 4, .inl (fun _ => 0)))] ++ [(q_48, .inl (cI, 4, .inl (fun _ => 0)))]) s s.heap H locs := hw
  refine lv_dup hx hb dX1_init_50 rfl ?_
  refine lv_iconst (v := nI 0) hx hb dX1_init_51 kc_iconst_0 ?_
  refine lv_iconst (v := (-1)) hx hb dX1_init_52 kc_iconst_m1 ?_
  refine r_ast hx hb hw 6 0 rfl rfl (i := 0) (by omega) (by decide) dX1_init_53 (fun H locs hw => ?_)
  have hw : Wd D A [(cI, .int)] ([(a9, .inr (1, [.ref q_8, .ref q_17, .ref q_26, .ref q_34, .ref q_41, .null]))] ++ [(q_8, .inl (cI, 1920, .inl (fun _ => 0)))] ++ [(q_17, .inl (cI, 1920, .inl (fun _ => 0)))] ++ [(q_26, .inl (cI, 1920, .inl (fun _ => 0)))] ++ [(q_34, .inl (cI, 16, .inl (fun _ => 0)))] ++ [(q_41, .inl (cI, 4, .inl (fun _ => 0)))] ++ [(q_48, .inl (cI, 4, .inl (upd (fun _ => 0) 0 (-1))))]) s s.heap H locs := hw
  refine lv_dup hx hb dX1_init_54 rfl ?_
  refine lv_iconst (v := nI 1) hx hb dX1_init_55 kc_iconst_1 ?_
  refine lv_iconst (v := (-1)) hx hb dX1_init_56 kc_iconst_m1 ?_
  refine r_ast hx hb hw 6 0 rfl rfl (i := 1) (by omega) (by decide) dX1_init_57 (fun H locs hw => ?_)
  have hw : Wd D A [(cI, .int)] ([(a9, .inr (1, [.ref q_8, .ref q_17, .ref q_26, .ref q_34, .ref q_41, .null]))] ++ [(q_8, .inl (cI, 1920, .inl (fun _ => 0)))] ++ [(q_17, .inl (cI, 1920, .inl (fun _ => 0)))] ++ [(q_26, .inl (cI, 1920, .inl (fun _ => 0)))] ++ [(q_34, .inl (cI, 16, .inl (fun _ => 0)))] ++ [(q_41, .inl (cI, 4, .inl (fun _ => 0)))] ++ [(q_48, .inl (cI, 4, .inl (upd (upd (fun _ => 0) 0 (-1)) 1 (-1))))]) s s.heap H locs := hw
  refine lv_dup hx hb dX1_init_58 rfl ?_
  refine lv_iconst (v := nI 2) hx hb dX1_init_59 kc_iconst_2 ?_
  refine lv_iconst (v := (-1)) hx hb dX1_init_60 kc_iconst_m1 ?_
  refine r_ast hx hb hw 6 0 rfl rfl (i := 2) (by omega) (by decide) dX1_init_61 (fun H locs hw => ?_)
  have hw : Wd D A [(cI, .int)] ([(a9, .inr (1, [.ref q_8, .ref q_17, .ref q_26, .ref q_34, .ref q_41, .null]))] ++ [(q_8, .inl (cI, 1920, .inl (fun _ => 0)))] ++ [(q_17, .inl (cI, 1920, .inl (fun _ => 0)))] ++ [(q_26, .inl (cI, 1920, .inl (fun _ => 0)))] ++ [(q_34, .inl (cI, 16, .inl (fun _ => 0)))] ++ [(q_41, .inl (cI, 4, .inl (fun _ => 0)))] ++ [(q_48, .inl (cI, 4, .inl (upd (upd (upd (fun _ => 0) 0 (-1)) 1 (-1)) 2 (-1))))]) s s.heap H locs := hw
  refine lv_dup hx hb dX1_init_62 rfl ?_
  refine lv_iconst (v := nI 3) hx hb dX1_init_63 kc_iconst_3 ?_
  refine lv_iconst (v := (-1)) hx hb dX1_init_64 kc_iconst_m1 ?_
  refine r_ast hx hb hw 6 0 rfl rfl (i := 3) (by omega) (by decide) dX1_init_65 (fun H locs hw => ?_)
  have hw : Wd D A [(cI, .int)] ([(a9, .inr (1, [.ref q_8, .ref q_17, .ref q_26, .ref q_34, .ref q_41, .null]))] ++ [(q_8, .inl (cI, 1920, .inl (fun _ => 0)))] ++ [(q_17, .inl (cI, 1920, .inl (fun _ => 0)))] ++ [(q_26, .inl (cI, 1920, .inl (fun _ => 0)))] ++ [(q_34, .inl (cI, 16, .inl (fun _ => 0)))] ++ [(q_41, .inl (cI, 4, .inl (fun _ => 0)))] ++ [(q_48, .inl (cI, 4, .inl (upd (upd (upd (upd (fun _ => 0) 0 (-1)) 1 (-1)) 2 (-1)) 3 (-1))))]) s s.heap H locs := hw
  refine r_putF hx hb hts hown hw 0 5 (ty := tyX1 5) tyX1 tyX1_ok nmX1 hin1 rfl rfl (by decide) k27 rfl (hmn.trans rfl) rfl (by decide +kernel) rfl rfl (Nat.le_of_ble_eq_true rfl) dX1_init_66 (fun H locs hw => ?_)
  have hw : Wd D A [(cI, .int)] ([(a9, .inr (1, [.ref q_8, .ref q_17, .ref q_26, .ref q_34, .ref q_41, .ref q_48]))] ++ [(q_8, .inl (cI, 1920, .inl (fun _ => 0)))] ++ [(q_17, .inl (cI, 1920, .inl (fun _ => 0)))] ++ [(q_26, .inl (cI, 1920, .inl (fun _ => 0)))] ++ [(q_34, .inl (cI, 16, .inl (fun _ => 0)))] ++ [(q_41, .inl (cI, 4, .inl (fun _ => 0)))] ++ [(q_48, .inl (cI, 4, .inl (upd (upd (upd (upd (fun _ => 0) 0 (-1)) 1 (-1)) 2 (-1)) 3 (-1))))]) s s.heap H locs := hw
  exact hE (q_8, q_17, q_26, q_34, q_41, q_48) dX1_init_69 (Nat.le_of_ble_eq_true rfl) (Nat.le_of_ble_eq_true rfl) (hw.sub [0, 1, 2, 3, 4, 5, 6] [] (by decide) rfl rfl) trivial
abbrev rmX1_copyFrom : Room := { frames := 1, cells := 0, slots := 0, locals := 40 }
set_option maxHeartbeats 4000000 in
set_option maxRecDepth 100000 in
theorem c_X1_copyFrom (l : Launch) (D : va_G) (sz : Nat) (cI : ClassId) (q q2 : Nat → Nat) (st st2 : St) : MUv l yX1_copyFrom wsX1_copyFrom rmX1_copyFrom [.ref (q 0), .ref (q2 0)] D [(cI, .int)] (wS cI q st ++ wS cI q2 st2) sz (fun (u9 : Unit) => True) (fun u9 => []) (fun u9 => wS cI q st2 ++ wS cI q2 st2) 0 0 := by
  refine met_v (own := RX1) (cc := cX1_copyFrom) (maxL := 2) (by decide) rfl rfl (Nat.le_of_ble_eq_true rfl) ?_
  intro p e s m args below meth c Q A hsz S hmn hw hA hE ls hl
  obtain ⟨hx, hb, hml, hown, hts⟩ := id S
  have k11 := hts (.fieldLink RX1 11 "CausalTable$State" "numbers" "[I") (by decide +kernel)
  have hin1 := (show ∀ w ∈ wsX10, w ∈ wsX1_copyFrom by decide +kernel)
  have ac0_30 := hts (.methodLink RX1 30 arraycopyName) (by decide +kernel)
  have ac1_30 := hts (.native arraycopyName) (by decide +kernel)
  have ac2_30 := hts (.static arraycopyName) (by decide +kernel)
  have ac3_30 := hts (.initialized "java/lang/System") (by decide +kernel)
  have k15 := hts (.fieldLink RX1 15 "CausalTable$State" "stamps" "[I") (by decide +kernel)
  have k18 := hts (.fieldLink RX1 18 "CausalTable$State" "values" "[I") (by decide +kernel)
  have k21 := hts (.fieldLink RX1 21 "CausalTable$State" "seenNumbers" "[I") (by decide +kernel)
  have k24 := hts (.fieldLink RX1 24 "CausalTable$State" "clocks" "[I") (by decide +kernel)
  have k27 := hts (.fieldLink RX1 27 "CausalTable$State" "mergeResult" "[I") (by decide +kernel)
  have hl : lv_has ls 2 [(0, .ref (q 0)), (1, .ref (q2 0))] := hl
  refine lv_aload_n hx hb dX1_copyFrom_0 rfl (lv_at hl 1 rfl) ?_
  refine r_get hx hb hts hown hw.q 7 0 hin1 rfl rfl (by decide) k11 rfl dX1_copyFrom_1 ?_
  refine lv_iconst (v := nI 0) hx hb dX1_copyFrom_4 kc_iconst_0 ?_
  refine lv_aload_n hx hb dX1_copyFrom_5 rfl (lv_at hl 0 rfl) ?_
  refine r_get hx hb hts hown hw.q 0 0 hin1 rfl rfl (by decide) k11 rfl dX1_copyFrom_6 ?_
  refine lv_iconst (v := nI 0) hx hb dX1_copyFrom_9 kc_iconst_0 ?_
  refine lv_sipush (v := nI 1920) hx hb dX1_copyFrom_10 kc_sipush_1920 ?_
  refine r_copy hx hb (hml.trans hl.1.symm) hown ac0_30 ac1_30 ac2_30 ac3_30 hw 8 1 0 rfl rfl rfl (by decide) (Nat.le_of_ble_eq_true rfl) (Nat.le_of_ble_eq_true rfl) dX1_copyFrom_13 (fun H locs hw => ?_)
  have hw : Wd D A [(cI, .int)] (wS cI q (st2.1, st.2.1, st.2.2.1, st.2.2.2.1, st.2.2.2.2.1, st.2.2.2.2.2) ++ wS cI q2 st2) s s.heap H locs := hw
  refine lv_aload_n hx hb dX1_copyFrom_16 rfl (lv_at hl 1 rfl) ?_
  refine r_get hx hb hts hown hw.q 7 1 hin1 rfl rfl (by decide) k15 rfl dX1_copyFrom_17 ?_
  refine lv_iconst (v := nI 0) hx hb dX1_copyFrom_20 kc_iconst_0 ?_
  refine lv_aload_n hx hb dX1_copyFrom_21 rfl (lv_at hl 0 rfl) ?_
  refine r_get hx hb hts hown hw.q 0 1 hin1 rfl rfl (by decide) k15 rfl dX1_copyFrom_22 ?_
  refine lv_iconst (v := nI 0) hx hb dX1_copyFrom_25 kc_iconst_0 ?_
  refine lv_sipush (v := nI 1920) hx hb dX1_copyFrom_26 kc_sipush_1920 ?_
  refine r_copy hx hb (hml.trans hl.1.symm) hown ac0_30 ac1_30 ac2_30 ac3_30 hw 9 2 0 rfl rfl rfl (by decide) (Nat.le_of_ble_eq_true rfl) (Nat.le_of_ble_eq_true rfl) dX1_copyFrom_29 (fun H locs hw => ?_)
  have hw : Wd D A [(cI, .int)] (wS cI q (st2.1, st2.2.1, st.2.2.1, st.2.2.2.1, st.2.2.2.2.1, st.2.2.2.2.2) ++ wS cI q2 st2) s s.heap H locs := hw
  refine lv_aload_n hx hb dX1_copyFrom_32 rfl (lv_at hl 1 rfl) ?_
  refine r_get hx hb hts hown hw.q 7 2 hin1 rfl rfl (by decide) k18 rfl dX1_copyFrom_33 ?_
  refine lv_iconst (v := nI 0) hx hb dX1_copyFrom_36 kc_iconst_0 ?_
  refine lv_aload_n hx hb dX1_copyFrom_37 rfl (lv_at hl 0 rfl) ?_
  refine r_get hx hb hts hown hw.q 0 2 hin1 rfl rfl (by decide) k18 rfl dX1_copyFrom_38 ?_
  refine lv_iconst (v := nI 0) hx hb dX1_copyFrom_41 kc_iconst_0 ?_
  refine lv_sipush (v := nI 1920) hx hb dX1_copyFrom_42 kc_sipush_1920 ?_
  refine r_copy hx hb (hml.trans hl.1.symm) hown ac0_30 ac1_30 ac2_30 ac3_30 hw 10 3 0 rfl rfl rfl (by decide) (Nat.le_of_ble_eq_true rfl) (Nat.le_of_ble_eq_true rfl) dX1_copyFrom_45 (fun H locs hw => ?_)
  have hw : Wd D A [(cI, .int)] (wS cI q (st2.1, st2.2.1, st2.2.2.1, st.2.2.2.1, st.2.2.2.2.1, st.2.2.2.2.2) ++ wS cI q2 st2) s s.heap H locs := hw
  refine lv_aload_n hx hb dX1_copyFrom_48 rfl (lv_at hl 1 rfl) ?_
  refine r_get hx hb hts hown hw.q 7 3 hin1 rfl rfl (by decide) k21 rfl dX1_copyFrom_49 ?_
  refine lv_iconst (v := nI 0) hx hb dX1_copyFrom_52 kc_iconst_0 ?_
  refine lv_aload_n hx hb dX1_copyFrom_53 rfl (lv_at hl 0 rfl) ?_
  refine r_get hx hb hts hown hw.q 0 3 hin1 rfl rfl (by decide) k21 rfl dX1_copyFrom_54 ?_
  refine lv_iconst (v := nI 0) hx hb dX1_copyFrom_57 kc_iconst_0 ?_
  refine lv_bipush (v := nI 16) hx hb dX1_copyFrom_58 kc_bipush_16 ?_
  refine r_copy hx hb (hml.trans hl.1.symm) hown ac0_30 ac1_30 ac2_30 ac3_30 hw 11 4 0 rfl rfl rfl (by decide) (Nat.le_of_ble_eq_true rfl) (Nat.le_of_ble_eq_true rfl) dX1_copyFrom_60 (fun H locs hw => ?_)
  have hw : Wd D A [(cI, .int)] (wS cI q (st2.1, st2.2.1, st2.2.2.1, st2.2.2.2.1, st.2.2.2.2.1, st.2.2.2.2.2) ++ wS cI q2 st2) s s.heap H locs := hw
  refine lv_aload_n hx hb dX1_copyFrom_63 rfl (lv_at hl 1 rfl) ?_
  refine r_get hx hb hts hown hw.q 7 4 hin1 rfl rfl (by decide) k24 rfl dX1_copyFrom_64 ?_
  refine lv_iconst (v := nI 0) hx hb dX1_copyFrom_67 kc_iconst_0 ?_
  refine lv_aload_n hx hb dX1_copyFrom_68 rfl (lv_at hl 0 rfl) ?_
  refine r_get hx hb hts hown hw.q 0 4 hin1 rfl rfl (by decide) k24 rfl dX1_copyFrom_69 ?_
  refine lv_iconst (v := nI 0) hx hb dX1_copyFrom_72 kc_iconst_0 ?_
  refine lv_iconst (v := nI 4) hx hb dX1_copyFrom_73 kc_iconst_4 ?_
  refine r_copy hx hb (hml.trans hl.1.symm) hown ac0_30 ac1_30 ac2_30 ac3_30 hw 12 5 0 rfl rfl rfl (by decide) (Nat.le_of_ble_eq_true rfl) (Nat.le_of_ble_eq_true rfl) dX1_copyFrom_74 (fun H locs hw => ?_)
  have hw : Wd D A [(cI, .int)] (wS cI q (st2.1, st2.2.1, st2.2.2.1, st2.2.2.2.1, st2.2.2.2.2.1, st.2.2.2.2.2) ++ wS cI q2 st2) s s.heap H locs := hw
  refine lv_aload_n hx hb dX1_copyFrom_77 rfl (lv_at hl 1 rfl) ?_
  refine r_get hx hb hts hown hw.q 7 5 hin1 rfl rfl (by decide) k27 rfl dX1_copyFrom_78 ?_
  refine lv_iconst (v := nI 0) hx hb dX1_copyFrom_81 kc_iconst_0 ?_
  refine lv_aload_n hx hb dX1_copyFrom_82 rfl (lv_at hl 0 rfl) ?_
  refine r_get hx hb hts hown hw.q 0 5 hin1 rfl rfl (by decide) k27 rfl dX1_copyFrom_83 ?_
  refine lv_iconst (v := nI 0) hx hb dX1_copyFrom_86 kc_iconst_0 ?_
  refine lv_iconst (v := nI 4) hx hb dX1_copyFrom_87 kc_iconst_4 ?_
  refine r_copy hx hb (hml.trans hl.1.symm) hown ac0_30 ac1_30 ac2_30 ac3_30 hw 13 6 0 rfl rfl rfl (by decide) (Nat.le_of_ble_eq_true rfl) (Nat.le_of_ble_eq_true rfl) dX1_copyFrom_88 (fun H locs hw => ?_)
  have hw : Wd D A [(cI, .int)] (wS cI q st2 ++ wS cI q2 st2) s s.heap H locs := hw
  exact hE () dX1_copyFrom_91 (Nat.le_of_ble_eq_true rfl) (Nat.le_of_ble_eq_true rfl) (hw.sub [0, 1, 2, 3, 4, 5, 6, 7, 8, 9, 10, 11, 12, 13] [] (by decide) rfl rfl) trivial
abbrev rmX2_init : Room := { frames := 1, cells := 1, slots := 80, locals := 12 }
set_option maxHeartbeats 4000000 in
set_option maxRecDepth 100000 in
theorem c_X2_init (l : Launch) (D : va_G) (sz : Nat) (a9 : Nat) : MUv l yX2_init wsX2_init rmX2_init [.ref a9] D [] ([(a9, .inr (2, [.null, .int (nI 0), .int (nI 0), .int (nI 0), .int (nI 0), .int (nI 0), .int (nI 0)]))]) sz (fun (u9 : ClassId × Nat) => True) (fun u9 => [(u9.1, .char)]) (fun u9 => wT u9.1 (ad7 a9 u9.2 0 0 0 0 0) (fun _ => 0) 0 0 (nI 0) (nI 0) (nI 0) (nI 0)) 1 80 := by
  refine met_v (own := RX2) (cc := cX2_init) (maxL := 1) (by decide) rfl rfl (Nat.le_of_ble_eq_true rfl) ?_
  intro p e s m args below meth c Q A hsz S hmn hw hA hE ls hl
  obtain ⟨hx, hb, hml, hown, hts⟩ := id S
  have ob0 := hts (.methodLink RX2 3 objectInit) (by decide +kernel)
  have ob1 := hts (.instanceMethod objectInit) (by decide +kernel)
  have ob2 := hts (.code objectInit ⟨#[0xb1]⟩ 1 none) (by decide +kernel)
  have na_char := hts (.arrayClass .char) (by decide +kernel)
  have k9 := hts (.fieldLink RX2 9 "CausalTable$Text" "characters" "[C") (by decide +kernel)
  have hin2 := (show ∀ w ∈ wsX20, w ∈ wsX2_init by decide +kernel)
  have k15 := hts (.fieldLink RX2 15 "CausalTable$Text" "length" "I") (by decide +kernel)
  have k19 := hts (.fieldLink RX2 19 "CausalTable$Text" "position" "I") (by decide +kernel)
  have k22 := hts (.fieldLink RX2 22 "CausalTable$Text" "kind" "I") (by decide +kernel)
  have k25 := hts (.fieldLink RX2 25 "CausalTable$Text" "replica" "I") (by decide +kernel)
  have k28 := hts (.fieldLink RX2 28 "CausalTable$Text" "target" "I") (by decide +kernel)
  have k31 := hts (.fieldLink RX2 31 "CausalTable$Text" "number" "I") (by decide +kernel)
  have hl : lv_has ls 1 [(0, .ref a9)] := hl
  refine lv_aload_n hx hb dX2_init_0 rfl (lv_at hl 0 rfl) ?_
  refine W.objInit hx hb hown ob0 ob1 ob2 rfl (hml.trans hl.1.symm).symm rfl dX2_init_1 (Nat.le_of_ble_eq_true rfl) (Nat.le_of_ble_eq_true rfl) ?_
  refine lv_aload_n hx hb dX2_init_4 rfl (lv_at hl 0 rfl) ?_
  refine lv_bipush (v := nI 80) hx hb dX2_init_5 kc_bipush_80 ?_
  refine r_newC hx hb na_char hw hA (n := 80) (by decide) (Nat.le_of_ble_eq_true rfl) (Nat.le_of_ble_eq_true rfl) dX2_init_7 (fun q_7 cC H locs hw => ?_)
  have hw : Wd D A [(cC, .char)] ([(a9, .inr (2, [.null, .int (nI 0), .int (nI 0), .int (nI 0), .int (nI 0), .int (nI 0), .int (nI 0)]))] ++ [(q_7, .inl (cC, 80, .inl (fun _ => nI 0)))]) s s.heap H locs := hw
  refine r_putF hx hb hts hown hw 0 0 (ty := tyX2 0) tyX2 tyX2_ok nmX2 hin2 rfl rfl (by decide) k9 rfl (hmn.trans rfl) rfl (by decide +kernel) rfl rfl (Nat.le_of_ble_eq_true rfl) dX2_init_9 (fun H locs hw => ?_)
  have hw : Wd D A [(cC, .char)] ([(a9, .inr (2, [.ref q_7, .int (nI 0), .int (nI 0), .int (nI 0), .int (nI 0), .int (nI 0), .int (nI 0)]))] ++ [(q_7, .inl (cC, 80, .inl (fun _ => nI 0)))]) s s.heap H locs := hw
  refine lv_aload_n hx hb dX2_init_12 rfl (lv_at hl 0 rfl) ?_
  refine lv_iconst (v := nI 0) hx hb dX2_init_13 kc_iconst_0 ?_
  refine r_put hx hb hts hown hw 0 1 (ty := .int) tyX2 tyX2_ok nmX2 hin2 rfl rfl (by decide) k15 rfl (by decide +kernel) rfl rfl (Nat.le_of_ble_eq_true rfl) dX2_init_14 (fun H locs hw => ?_)
  have hw : Wd D A [(cC, .char)] ([(a9, .inr (2, [.ref q_7, .int (nI 0), .int (nI 0), .int (nI 0), .int (nI 0), .int (nI 0), .int (nI 0)]))] ++ [(q_7, .inl (cC, 80, .inl (fun _ => nI 0)))]) s s.heap H locs := hw
  refine lv_aload_n hx hb dX2_init_17 rfl (lv_at hl 0 rfl) ?_
  refine lv_iconst (v := nI 0) hx hb dX2_init_18 kc_iconst_0 ?_
  refine r_put hx hb hts hown hw 0 2 (ty := .int) tyX2 tyX2_ok nmX2 hin2 rfl rfl (by decide) k19 rfl (by decide +kernel) rfl rfl (Nat.le_of_ble_eq_true rfl) dX2_init_19 (fun H locs hw => ?_)
  have hw : Wd D A [(cC, .char)] ([(a9, .inr (2, [.ref q_7, .int (nI 0), .int (nI 0), .int (nI 0), .int (nI 0), .int (nI 0), .int (nI 0)]))] ++ [(q_7, .inl (cC, 80, .inl (fun _ => nI 0)))]) s s.heap H locs := hw
  refine lv_aload_n hx hb dX2_init_22 rfl (lv_at hl 0 rfl) ?_
  refine lv_iconst (v := nI 0) hx hb dX2_init_23 kc_iconst_0 ?_
  refine r_put hx hb hts hown hw 0 3 (ty := .int) tyX2 tyX2_ok nmX2 hin2 rfl rfl (by decide) k22 rfl (by decide +kernel) rfl rfl (Nat.le_of_ble_eq_true rfl) dX2_init_24 (fun H locs hw => ?_)
  have hw : Wd D A [(cC, .char)] ([(a9, .inr (2, [.ref q_7, .int (nI 0), .int (nI 0), .int (nI 0), .int (nI 0), .int (nI 0), .int (nI 0)]))] ++ [(q_7, .inl (cC, 80, .inl (fun _ => nI 0)))]) s s.heap H locs := hw
  refine lv_aload_n hx hb dX2_init_27 rfl (lv_at hl 0 rfl) ?_
  refine lv_iconst (v := nI 0) hx hb dX2_init_28 kc_iconst_0 ?_
  refine r_put hx hb hts hown hw 0 4 (ty := .int) tyX2 tyX2_ok nmX2 hin2 rfl rfl (by decide) k25 rfl (by decide +kernel) rfl rfl (Nat.le_of_ble_eq_true rfl) dX2_init_29 (fun H locs hw => ?_)
  have hw : Wd D A [(cC, .char)] ([(a9, .inr (2, [.ref q_7, .int (nI 0), .int (nI 0), .int (nI 0), .int (nI 0), .int (nI 0), .int (nI 0)]))] ++ [(q_7, .inl (cC, 80, .inl (fun _ => nI 0)))]) s s.heap H locs := hw
  refine lv_aload_n hx hb dX2_init_32 rfl (lv_at hl 0 rfl) ?_
  refine lv_iconst (v := nI 0) hx hb dX2_init_33 kc_iconst_0 ?_
  refine r_put hx hb hts hown hw 0 5 (ty := .int) tyX2 tyX2_ok nmX2 hin2 rfl rfl (by decide) k28 rfl (by decide +kernel) rfl rfl (Nat.le_of_ble_eq_true rfl) dX2_init_34 (fun H locs hw => ?_)
  have hw : Wd D A [(cC, .char)] ([(a9, .inr (2, [.ref q_7, .int (nI 0), .int (nI 0), .int (nI 0), .int (nI 0), .int (nI 0), .int (nI 0)]))] ++ [(q_7, .inl (cC, 80, .inl (fun _ => nI 0)))]) s s.heap H locs := hw
  refine lv_aload_n hx hb dX2_init_37 rfl (lv_at hl 0 rfl) ?_
  refine lv_iconst (v := nI 0) hx hb dX2_init_38 kc_iconst_0 ?_
  refine r_put hx hb hts hown hw 0 6 (ty := .int) tyX2 tyX2_ok nmX2 hin2 rfl rfl (by decide) k31 rfl (by decide +kernel) rfl rfl (Nat.le_of_ble_eq_true rfl) dX2_init_39 (fun H locs hw => ?_)
  have hw : Wd D A [(cC, .char)] ([(a9, .inr (2, [.ref q_7, .int (nI 0), .int (nI 0), .int (nI 0), .int (nI 0), .int (nI 0), .int (nI 0)]))] ++ [(q_7, .inl (cC, 80, .inl (fun _ => nI 0)))]) s s.heap H locs := hw
  exact hE (cC, q_7) dX2_init_42 (Nat.le_of_ble_eq_true rfl) (Nat.le_of_ble_eq_true rfl) (hw.sub [0, 1] [0] (by decide) rfl rfl) trivial
