/-! constructors; what a command does to the class's state -/
abbrev rmX3_init : Room := { frames := 2, cells := 12, slots := 5893, locals := 32 }
set_option maxHeartbeats 4000000 in
set_option maxRecDepth 100000 in
theorem c_X3_init (l : Launch) (D : va_G) (sz : Nat) (cI : ClassId) (x9 : Nat) : MXv l yX3_init wsX3_init rmX3_init [.ref x9] D [(cI, .int)] ([(x9, .inr (3, [.null, .null, .null]))]) sz (fun (u9 : Nat × Nat × Nat × Nat × Nat × Nat × Nat × ClassId × Nat × Nat × ClassId × Nat × Nat) => True) (fun u9 => [(u9.2.2.2.2.2.2.2.1, .object RX1), (u9.2.2.2.2.2.2.2.2.2.2.1, .char)]) (fun u9 => [(x9, .inr (3, [.ref ((ad7 u9.1 u9.2.1 u9.2.2.1 u9.2.2.2.1 u9.2.2.2.2.1 u9.2.2.2.2.2.1 u9.2.2.2.2.2.2.1) 0), .ref ((ad7 u9.2.2.2.2.2.2.2.2.1 u9.2.2.2.2.2.2.2.2.2.1 0 0 0 0 0) 0), .ref ((ad7 u9.2.2.2.2.2.2.2.2.2.2.2.1 u9.2.2.2.2.2.2.2.2.2.2.2.2 0 0 0 0 0) 0)]))] ++ wS cI (ad7 u9.1 u9.2.1 u9.2.2.1 u9.2.2.2.1 u9.2.2.2.2.1 u9.2.2.2.2.2.1 u9.2.2.2.2.2.2.1) st0 ++ wR u9.2.2.2.2.2.2.2.1 (ad7 u9.2.2.2.2.2.2.2.2.1 u9.2.2.2.2.2.2.2.2.2.1 0 0 0 0 0) (fun _ => none) 0 0 ++ wT u9.2.2.2.2.2.2.2.2.2.2.1 (ad7 u9.2.2.2.2.2.2.2.2.2.2.2.1 u9.2.2.2.2.2.2.2.2.2.2.2.2 0 0 0 0 0) (fun _ => 0) 0 0 (nI 0) (nI 0) (nI 0) (nI 0)) 12 5893 := by
  refine met_xv (own := RX3) (cc := cX3_init) (maxL := 1) (by decide) rfl rfl (Nat.le_of_ble_eq_true rfl) ?_
  intro p e s m args below meth c Q A hsz S hmn hz hw hA hE ls hl
  obtain ⟨hx, hb, hml, hown, hts⟩ := id S
  have ob0 := hts (.methodLink RX3 1 objectInit) (by decide +kernel)
  have ob1 := hts (.instanceMethod objectInit) (by decide +kernel)
  have ob2 := hts (.code objectInit ⟨#[0xb1]⟩ 1 none) (by decide +kernel)
  have nwl7 := hts (.classLink RX3 7 RX1) (by decide +kernel)
  have nwa7 := hts (.instantiable RX1 6) (by decide +kernel)
  have nwn7 := hts (.initialized RX1) (by decide +kernel)
  have hin1 := (show ∀ w ∈ wsX10, w ∈ wsX3_init by decide +kernel)
  have ni0_9 := hts (.initialized RX1) (by decide +kernel)
  have ni1_9 := hts (.instanceMethod yX1_init) (by decide +kernel)
  have k10 := hts (.fieldLink RX3 10 "CausalTable" "state" "LCausalTable$State;") (by decide +kernel)
  have hin3 := (show ∀ w ∈ wsX30, w ∈ wsX3_init by decide +kernel)
  have nwl16 := hts (.classLink RX3 16 RX0) (by decide +kernel)
  have nwa16 := hts (.instantiable RX0 3) (by decide +kernel)
  have nwn16 := hts (.initialized RX0) (by decide +kernel)
  have hin0 := (show ∀ w ∈ wsX00, w ∈ wsX3_init by decide +kernel)
  have ni0_18 := hts (.initialized RX0) (by decide +kernel)
  have ni1_18 := hts (.instanceMethod yX0_init) (by decide +kernel)
  have k19 := hts (.fieldLink RX3 19 "CausalTable" "history" "LCausalTable$History;") (by decide +kernel)
  have nwl23 := hts (.classLink RX3 23 RX2) (by decide +kernel)
  have nwa23 := hts (.instantiable RX2 7) (by decide +kernel)
  have nwn23 := hts (.initialized RX2) (by decide +kernel)
  have hin2 := (show ∀ w ∈ wsX20, w ∈ wsX3_init by decide +kernel)
  have ni0_25 := hts (.initialized RX2) (by decide +kernel)
  have ni1_25 := hts (.instanceMethod yX2_init) (by decide +kernel)
  have k26 := hts (.fieldLink RX3 26 "CausalTable" "text" "LCausalTable$Text;") (by decide +kernel)
  have hl : lv_has ls 1 [(0, .ref x9)] := hl
  refine lv_aload_n hx hb dX3_init_0 rfl (lv_at hl 0 rfl) ?_
  refine W.objInit hx hb hown ob0 ob1 ob2 rfl (hml.trans hl.1.symm).symm rfl dX3_init_1 (Nat.le_of_ble_eq_true rfl) (Nat.le_of_ble_eq_true rfl) ?_
  refine lv_aload_n hx hb dX3_init_4 rfl (lv_at hl 0 rfl) ?_
  refine r_new hx hb hts hin1 tyX1 tyX1_ok hown nwl7 nwa7 nwn7 hw hA (ci := 1) rfl (fs := [.null, .null, .null, .null, .null, .null]) (by decide +kernel) (Nat.le_of_ble_eq_true rfl) (Nat.le_of_ble_eq_true rfl) dX3_init_5 (fun q_5 H locs hw => ?_)
  have hw : Wd D A [(cI, .int)] ([(x9, .inr (3, [.null, .null, .null]))] ++ [(q_5, .inr (1, [.null, .null, .null, .null, .null, .null]))]) s s.heap H locs := hw
  refine lv_dup hx hb dX3_init_8 rfl ?_
  refine cx_In (As := []) (rest := [.ref q_5, .ref x9]) (wc := [(q_5, .inr (1, [.null, .null, .null, .null, .null, .null]))]) (wr := [(x9, .inr (3, [.null, .null, .null]))]) S (c_X1_init l D (sz := H.size) (a9 := q_5) (cI := cI)) ⟨va_cnB (host := "CausalTable") 0 hts gX3_init_X1_init_n9 rfl rfl rfl (hz.2 _ (List.mem_of_getElem? (i := 8) rfl)) ni0_9 (by decide +kernel) ⟨Nat.le_of_ble_eq_true rfl, Nat.le_of_ble_eq_true rfl⟩, rfl, ni1_9⟩ hw hA [1] [0] [0] rfl rfl rfl (by decide) (by decide) (by decide) rfl hl.1 (Nat.le_of_ble_eq_true rfl) ⟨Nat.le_of_ble_eq_true rfl, Nat.le_of_ble_eq_true rfl⟩ rfl dX3_init_9 (fun u_9 H locs e_9 hw => ?_)
  obtain ⟨u0_9, u1_9, u2_9, u3_9, u4_9, u5_9⟩ := u_9
  have hw : Wd D A [(cI, .int)] ([(x9, .inr (3, [.null, .null, .null]))] ++ wS cI (ad7 q_5 u0_9 u1_9 u2_9 u3_9 u4_9 u5_9) st0) s s.heap H locs := hw
  have hl : lv_has ls 1 [(0, .ref x9)] := hl
  refine W.eq (g2 := F0 m 12 ls [.ref ((ad7 q_5 u0_9 u1_9 u2_9 u3_9 u4_9 u5_9) 0), .ref x9]) rfl ?_
  refine r_putF hx hb hts hown hw 0 0 (ty := tyX3 0) tyX3 tyX3_ok nmX3 hin3 rfl rfl (by decide) k10 rfl (hmn.trans rfl) rfl (by decide +kernel) rfl rfl (Nat.le_of_ble_eq_true rfl) dX3_init_12 (fun H locs hw => ?_)
  have hw : Wd D A [(cI, .int)] ([(x9, .inr (3, [.ref ((ad7 q_5 u0_9 u1_9 u2_9 u3_9 u4_9 u5_9) 0), .null, .null]))] ++ wS cI (ad7 q_5 u0_9 u1_9 u2_9 u3_9 u4_9 u5_9) st0) s s.heap H locs := hw
  refine lv_aload_n hx hb dX3_init_15 rfl (lv_at hl 0 rfl) ?_
  refine r_new hx hb hts hin0 tyX0 tyX0_ok hown nwl16 nwa16 nwn16 hw hA (ci := 0) rfl (fs := [.null, .int (nI 0), .int (nI 0)]) (by decide +kernel) (Nat.le_of_ble_eq_true rfl) (Nat.le_of_ble_eq_true rfl) dX3_init_16 (fun q_16 H locs hw => ?_)
  have hw : Wd D A [(cI, .int)] ([(x9, .inr (3, [.ref ((ad7 q_5 u0_9 u1_9 u2_9 u3_9 u4_9 u5_9) 0), .null, .null]))] ++ wS cI (ad7 q_5 u0_9 u1_9 u2_9 u3_9 u4_9 u5_9) st0 ++ [(q_16, .inr (0, [.null, .int (nI 0), .int (nI 0)]))]) s s.heap H locs := hw
  refine lv_dup hx hb dX3_init_19 rfl ?_
  refine cx_Inx (As := []) (rest := [.ref q_16, .ref x9]) (wc := [(q_16, .inr (0, [.null, .int (nI 0), .int (nI 0)]))]) (wr := [(x9, .inr (3, [.ref ((ad7 q_5 u0_9 u1_9 u2_9 u3_9 u4_9 u5_9) 0), .null, .null]))] ++ wS cI (ad7 q_5 u0_9 u1_9 u2_9 u3_9 u4_9 u5_9) st0) S hz (c_X0_init l D (sz := H.size) (a9 := q_16)) ⟨va_cnB (host := "CausalTable") 0 hts gX3_init_X0_init_n18 rfl rfl rfl (hz.2 _ (List.mem_of_getElem? (i := 9) rfl)) ni0_18 (by decide +kernel) ⟨Nat.le_of_ble_eq_true rfl, Nat.le_of_ble_eq_true rfl⟩, rfl, ni1_18⟩ hw hA [8] [0, 1, 2, 3, 4, 5, 6, 7] [] rfl rfl rfl (by decide) (by decide) (by decide) rfl hl.1 (Nat.le_of_ble_eq_true rfl) ⟨Nat.le_of_ble_eq_true rfl, Nat.le_of_ble_eq_true rfl⟩ rfl dX3_init_20 (fun u_20 H locs e_20 hw => ?_)
  obtain ⟨cR, u1_20⟩ := u_20
  have hw : Wd D A [(cI, .int), (cR, .object RX1)] ([(x9, .inr (3, [.ref ((ad7 q_5 u0_9 u1_9 u2_9 u3_9 u4_9 u5_9) 0), .null, .null]))] ++ wS cI (ad7 q_5 u0_9 u1_9 u2_9 u3_9 u4_9 u5_9) st0 ++ wR cR (ad7 q_16 u1_20 0 0 0 0 0) (fun _ => none) 0 0) s s.heap H locs := hw
  have hl : lv_has ls 1 [(0, .ref x9)] := hl
  refine W.eq (g2 := F0 m 23 ls [.ref ((ad7 q_16 u1_20 0 0 0 0 0) 0), .ref x9]) rfl ?_
  refine r_putF hx hb hts hown hw 0 1 (ty := tyX3 1) tyX3 tyX3_ok nmX3 hin3 rfl rfl (by decide) k19 rfl (hmn.trans rfl) rfl (by decide +kernel) rfl rfl (Nat.le_of_ble_eq_true rfl) dX3_init_23 (fun H locs hw => ?_)
  have hw : Wd D A [(cI, .int), (cR, .object RX1)] ([(x9, .inr (3, [.ref ((ad7 q_5 u0_9 u1_9 u2_9 u3_9 u4_9 u5_9) 0), .ref ((ad7 q_16 u1_20 0 0 0 0 0) 0), .null]))] ++ wS cI (ad7 q_5 u0_9 u1_9 u2_9 u3_9 u4_9 u5_9) st0 ++ wR cR (ad7 q_16 u1_20 0 0 0 0 0) (fun _ => none) 0 0) s s.heap H locs := hw
  refine lv_aload_n hx hb dX3_init_26 rfl (lv_at hl 0 rfl) ?_
  refine r_new hx hb hts hin2 tyX2 tyX2_ok hown nwl23 nwa23 nwn23 hw hA (ci := 2) rfl (fs := [.null, .int (nI 0), .int (nI 0), .int (nI 0), .int (nI 0), .int (nI 0), .int (nI 0)]) (by decide +kernel) (Nat.le_of_ble_eq_true rfl) (Nat.le_of_ble_eq_true rfl) dX3_init_27 (fun q_27 H locs hw => ?_)
  have hw : Wd D A [(cI, .int), (cR, .object RX1)] ([(x9, .inr (3, [.ref ((ad7 q_5 u0_9 u1_9 u2_9 u3_9 u4_9 u5_9) 0), .ref ((ad7 q_16 u1_20 0 0 0 0 0) 0), .null]))] ++ wS cI (ad7 q_5 u0_9 u1_9 u2_9 u3_9 u4_9 u5_9) st0 ++ wR cR (ad7 q_16 u1_20 0 0 0 0 0) (fun _ => none) 0 0 ++ [(q_27, .inr (2, [.null, .int (nI 0), .int (nI 0), .int (nI 0), .int (nI 0), .int (nI 0), .int (nI 0)]))]) s s.heap H locs := hw
  refine lv_dup hx hb dX3_init_30 rfl ?_
  refine cx_In (As := []) (rest := [.ref q_27, .ref x9]) (wc := [(q_27, .inr (2, [.null, .int (nI 0), .int (nI 0), .int (nI 0), .int (nI 0), .int (nI 0), .int (nI 0)]))]) (wr := [(x9, .inr (3, [.ref ((ad7 q_5 u0_9 u1_9 u2_9 u3_9 u4_9 u5_9) 0), .ref ((ad7 q_16 u1_20 0 0 0 0 0) 0), .null]))] ++ wS cI (ad7 q_5 u0_9 u1_9 u2_9 u3_9 u4_9 u5_9) st0 ++ wR cR (ad7 q_16 u1_20 0 0 0 0 0) (fun _ => none) 0 0) S (c_X2_init l D (sz := H.size) (a9 := q_27)) ⟨va_cnB (host := "CausalTable") 0 hts gX3_init_X2_init_n25 rfl rfl rfl (hz.2 _ (List.mem_of_getElem? (i := 10) rfl)) ni0_25 (by decide +kernel) ⟨Nat.le_of_ble_eq_true rfl, Nat.le_of_ble_eq_true rfl⟩, rfl, ni1_25⟩ hw hA [10] [0, 1, 2, 3, 4, 5, 6, 7, 8, 9] [] rfl rfl rfl (by decide) (by decide) (by decide) rfl hl.1 (Nat.le_of_ble_eq_true rfl) ⟨Nat.le_of_ble_eq_true rfl, Nat.le_of_ble_eq_true rfl⟩ rfl dX3_init_31 (fun u_31 H locs e_31 hw => ?_)
  obtain ⟨cC, u1_31⟩ := u_31
  have hw : Wd D A [(cI, .int), (cR, .object RX1), (cC, .char)] ([(x9, .inr (3, [.ref ((ad7 q_5 u0_9 u1_9 u2_9 u3_9 u4_9 u5_9) 0), .ref ((ad7 q_16 u1_20 0 0 0 0 0) 0), .null]))] ++ wS cI (ad7 q_5 u0_9 u1_9 u2_9 u3_9 u4_9 u5_9) st0 ++ wR cR (ad7 q_16 u1_20 0 0 0 0 0) (fun _ => none) 0 0 ++ wT cC (ad7 q_27 u1_31 0 0 0 0 0) (fun _ => 0) 0 0 (nI 0) (nI 0) (nI 0) (nI 0)) s s.heap H locs := hw
  have hl : lv_has ls 1 [(0, .ref x9)] := hl
  refine W.eq (g2 := F0 m 34 ls [.ref ((ad7 q_27 u1_31 0 0 0 0 0) 0), .ref x9]) rfl ?_
  refine r_putF hx hb hts hown hw 0 2 (ty := tyX3 2) tyX3 tyX3_ok nmX3 hin3 rfl rfl (by decide) k26 rfl (hmn.trans rfl) rfl (by decide +kernel) rfl rfl (Nat.le_of_ble_eq_true rfl) dX3_init_34 (fun H locs hw => ?_)
  have hw : Wd D A [(cI, .int), (cR, .object RX1), (cC, .char)] ([(x9, .inr (3, [.ref ((ad7 q_5 u0_9 u1_9 u2_9 u3_9 u4_9 u5_9) 0), .ref ((ad7 q_16 u1_20 0 0 0 0 0) 0), .ref ((ad7 q_27 u1_31 0 0 0 0 0) 0)]))] ++ wS cI (ad7 q_5 u0_9 u1_9 u2_9 u3_9 u4_9 u5_9) st0 ++ wR cR (ad7 q_16 u1_20 0 0 0 0 0) (fun _ => none) 0 0 ++ wT cC (ad7 q_27 u1_31 0 0 0 0 0) (fun _ => 0) 0 0 (nI 0) (nI 0) (nI 0) (nI 0)) s s.heap H locs := hw
  exact hE (q_5, u0_9, u1_9, u2_9, u3_9, u4_9, u5_9, cR, q_16, u1_20, cC, q_27, u1_31) dX3_init_37 (Nat.le_of_ble_eq_true rfl) (Nat.le_of_ble_eq_true rfl) (hw.sub [0, 1, 2, 3, 4, 5, 6, 7, 8, 9, 10, 11] [1, 2] (by decide) rfl rfl) trivial
