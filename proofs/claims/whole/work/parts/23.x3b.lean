/-! constructors; what a command does to the class's state -/
def iniM : Nat → Nat → Int32
  | 0 => fun _ => 0
  | k + 1 => upd (iniM k) (20 + k) (-1)
def dsS (st : St) (kc r w : Nat) (v : Int32) (e : Nat) : St :=
  if kc = 97 then addS st r w v else if kc = 100 then delS st r w else if kc = 101 then excS st r w e else if kc = 103 then putS st r w 2 v
  else if kc = 105 then incS st r w e else if kc = 108 then putS st r w 0 v else if kc = 118 then putS st r w 1 v else mgS st r w
abbrev rmX3_init : Room := { frames := 2, cells := 12, slots := 5893, locals := 32 }
set_option maxHeartbeats 4000000 in
set_option maxRecDepth 100000 in
theorem c_X3_init (l : Launch) (D : va_G) (sz : Nat) (cI : ClassId) (x9 : Nat) : MXv l yX3_init wsX3_init rmX3_init [.ref x9] D [(cI, .int)] ([(x9, .inr (3, [.null, .null, .null]))]) sz (fun (u9 : Nat × Nat × Nat × Nat × Nat × Nat × Nat × ClassId × Nat × Nat × ClassId × Nat × Nat) => True) (fun u9 => [(u9.2.2.2.2.2.2.2.1, .object RX1), (u9.2.2.2.2.2.2.2.2.2.2.1, .char)]) (fun u9 => [(x9, .inr (3, [.ref ((ad7 u9.1 u9.2.1 u9.2.2.1 u9.2.2.2.1 u9.2.2.2.2.1 u9.2.2.2.2.2.1 u9.2.2.2.2.2.2.1) 0), .ref ((ad7 u9.2.2.2.2.2.2.2.2.1 u9.2.2.2.2.2.2.2.2.2.1 0 0 0 0 0) 0), .ref ((ad7 u9.2.2.2.2.2.2.2.2.2.2.2.1 u9.2.2.2.2.2.2.2.2.2.2.2.2 0 0 0 0 0) 0)]))] ++ wS cI (ad7 u9.1 u9.2.1 u9.2.2.1 u9.2.2.2.1 u9.2.2.2.2.1 u9.2.2.2.2.2.1 u9.2.2.2.2.2.2.1) st0 ++ wR u9.2.2.2.2.2.2.2.1 (ad7 u9.2.2.2.2.2.2.2.2.1 u9.2.2.2.2.2.2.2.2.2.1 0 0 0 0 0) (fun _ => none) 0 0 ++ wT u9.2.2.2.2.2.2.2.2.2.2.1 (ad7 u9.2.2.2.2.2.2.2.2.2.2.2.1 u9.2.2.2.2.2.2.2.2.2.2.2.2 0 0 0 0 0) (fun _ => 0) 0 0 (nI 0) (nI 0) (nI 0) (nI 0)) 12 5893 := by
  refine met_xv (own := RX3) (cc := cX3_init) (maxL := 1) (by decide) rfl rfl (Nat.le_of_ble_eq_true rfl) ?_
  intro p e s m args below meth c Q A hsz S hmn hz hw hA hE ls hl
  obtain ⟨hx, hb, hml, hown, hts⟩ := id S
  have ob0 := hts (.methodLink RX3 1 objectInit) (by decide +kernel)
  have ob1 := hts (.instanceMethod objectInit) (by decide +kernel)
  have ob2 := hts (.code objectInit ⟨#[0xb1]⟩ 1 none) (by decide +kernel)
  have nwl7 := hts (.classLink RX3 7 RX1) (by decide +kernel)
  have nwa7 := hts (.instantiable RX1 6) (by decide +kernel)
  have nwn7 := hts (.initialized RX1) (by decide +kernel)
  have hin1 := (show ∀ w ∈ wsX10, w ∈ wsX3_init by decide +kernel)
  have ni0_9 := hts (.initialized RX1) (by decide +kernel)
  have ni1_9 := hts (.instanceMethod yX1_init) (by decide +kernel)
  have k10 := hts (.fieldLink RX3 10 "CausalTable" "state" "LCausalTable$State;") (by decide +kernel)
  have hin3 := (show ∀ w ∈ wsX30, w ∈ wsX3_init by decide +kernel)
  have nwl16 := hts (.classLink RX3 16 RX0) (by decide +kernel)
  have nwa16 := hts (.instantiable RX0 3) (by decide +kernel)
  have nwn16 := hts (.initialized RX0) (by decide +kernel)
  have hin0 := (show ∀ w ∈ wsX00, w ∈ wsX3_init by decide +kernel)
  have ni0_18 := hts (.initialized RX0) (by decide +kernel)
  have ni1_18 := hts (.instanceMethod yX0_init) (by decide +kernel)
  have k19 := hts (.fieldLink RX3 19 "CausalTable" "history" "LCausalTable$History;") (by decide +kernel)
  have nwl23 := hts (.classLink RX3 23 RX2) (by decide +kernel)
  have nwa23 := hts (.instantiable RX2 7) (by decide +kernel)
  have nwn23 := hts (.initialized RX2) (by decide +kernel)
  have hin2 := (show ∀ w ∈ wsX20, w ∈ wsX3_init by decide +kernel)
  have ni0_25 := hts (.initialized RX2) (by decide +kernel)
  have ni1_25 := hts (.instanceMethod yX2_init) (by decide +kernel)
  have k26 := hts (.fieldLink RX3 26 "CausalTable" "text" "LCausalTable$Text;") (by decide +kernel)
  have hl : lv_has ls 1 [(0, .ref x9)] := hl
  refine lv_aload_n hx hb dX3_init_0 rfl (lv_at hl 0 rfl) ?_
  refine W.objInit hx hb hown ob0 ob1 ob2 rfl (hml.trans hl.1.symm).symm rfl dX3_init_1 (Nat.le_of_ble_eq_true rfl) (Nat.le_of_ble_eq_true rfl) ?_
  refine lv_aload_n hx hb dX3_init_4 rfl (lv_at hl 0 rfl) ?_
  refine r_new hx hb hts hin1 tyX1 tyX1_ok hown nwl7 nwa7 nwn7 hw hA (ci := 1) rfl (fs := [.null, .null, .null, .null, .null, .null]) (by decide +kernel) (Nat.le_of_ble_eq_true rfl) (Nat.le_of_ble_eq_true rfl) dX3_init_5 (fun q_5 H locs hw => ?_)
  have hw : Wd D A [(cI, .int)] ([(x9, .inr (3, [.null, .null, .null]))] ++ [(q_5, .inr (1, [.null, .null, .null, .null, .null, .null]))]) s s.heap H locs := hw
  refine lv_dup hx hb dX3_init_8 rfl ?_
  refine cx_In (As := []) (rest := [.ref q_5, .ref x9]) (wc := [(q_5, .inr (1, [.null, .null, .null, .null, .null, .null]))]) (wr := [(x9, .inr (3, [.null, .null, .null]))]) S (c_X1_init l D (sz := H.size) (a9 := q_5) (cI := cI)) ⟨va_cnB (host := "CausalTable") 0 hts gX3_init_X1_init_n9 rfl rfl rfl (hz.2 _ (List.mem_of_getElem? (i := 8) rfl)) ni0_9 (by decide +kernel) ⟨Nat.le_of_ble_eq_true rfl, Nat.le_of_ble_eq_true rfl⟩, rfl, ni1_9⟩ hw hA [1] [0] [0] rfl rfl rfl (by decide) (by decide) (by decide) rfl hl.1 (Nat.le_of_ble_eq_true rfl) ⟨Nat.le_of_ble_eq_true rfl, Nat.le_of_ble_eq_true rfl⟩ rfl dX3_init_9 (fun u_9 H locs e_9 hw => ?_)
  obtain ⟨u0_9, u1_9, u2_9, u3_9, u4_9, u5_9⟩ := u_9
  have hw : Wd D A [(cI, .int)] ([(x9, .inr (3, [.null, .null, .null]))] ++ wS cI (ad7 q_5 u0_9 u1_9 u2_9 u3_9 u4_9 u5_9) st0) s s.heap H locs := hw
  have hl : lv_has ls 1 [(0, .ref x9)] := hl
  refine W.eq (g2 := F0 m 12 ls [.ref ((ad7 q_5 u0_9 u1_9 u2_9 u3_9 u4_9 u5_9) 0), .ref x9]) rfl ?_
  refine r_putF hx hb hts hown hw 0 0 (ty := tyX3 0) tyX3 tyX3_ok nmX3 hin3 rfl rfl (by decide) k10 rfl (hmn.trans rfl) rfl (by decide +kernel) rfl rfl (Nat.le_of_ble_eq_true rfl) dX3_init_12 (fun H locs hw => ?_)
  have hw : Wd D A [(cI, .int)] ([(x9, .inr (3, [.ref ((ad7 q_5 u0_9 u1_9 u2_9 u3_9 u4_9 u5_9) 0), .null, .null]))] ++ wS cI (ad7 q_5 u0_9 u1_9 u2_9 u3_9 u4_9 u5_9) st0) s s.heap H locs := hw
  refine lv_aload_n hx hb dX3_init_15 rfl (lv_at hl 0 rfl) ?_
  refine r_new hx hb hts hin0 tyX0 tyX0_ok hown nwl16 nwa16 nwn16 hw hA (ci := 0) rfl (fs := [.null, .int (nI 0), .int (nI 0)]) (by decide +kernel) (Nat.le_of_ble_eq_true rfl) (Nat.le_of_ble_eq_true rfl) dX3_init_16 (fun q_16 H locs hw => ?_)
  have hw : Wd D A [(cI, .int)] ([(x9, .inr (3, [.ref ((ad7 q_5 u0_9 u1_9 u2_9 u3_9 u4_9 u5_9) 0), .null, .null]))] ++ wS cI (ad7 q_5 u0_9 u1_9 u2_9 u3_9 u4_9 u5_9) st0 ++ [(q_16, .inr (0, [.null, .int (nI 0), .int (nI 0)]))]) s s.heap H locs := hw
  refine lv_dup hx hb dX3_init_19 rfl ?_
  refine cx_Inx (As := []) (rest := [.ref q_16, .ref x9]) (wc := [(q_16, .inr (0, [.null, .int (nI 0), .int (nI 0)]))]) (wr := [(x9, .inr (3, [.ref ((ad7 q_5 u0_9 u1_9 u2_9 u3_9 u4_9 u5_9) 0), .null, .null]))] ++ wS cI (ad7 q_5 u0_9 u1_9 u2_9 u3_9 u4_9 u5_9) st0) S hz (c_X0_init l D (sz := H.size) (a9 := q_16)) ⟨va_cnB (host := "CausalTable") 0 hts gX3_init_X0_init_n18 rfl rfl rfl (hz.2 _ (List.mem_of_getElem? (i := 9) rfl)) ni0_18 (by decide +kernel) ⟨Nat.le_of_ble_eq_true rfl, Nat.le_of_ble_eq_true rfl⟩, rfl, ni1_18⟩ hw hA [8] [0, 1, 2, 3, 4, 5, 6, 7] [] rfl rfl rfl (by decide) (by decide) (by decide) rfl hl.1 (Nat.le_of_ble_eq_true rfl) ⟨Nat.le_of_ble_eq_true rfl, Nat.le_of_ble_eq_true rfl⟩ rfl dX3_init_20 (fun u_20 H locs e_20 hw => ?_)
  obtain ⟨cR, u1_20⟩ := u_20
  have hw : Wd D A [(cI, .int), (cR, .object RX1)] ([(x9, .inr (3, [.ref ((ad7 q_5 u0_9 u1_9 u2_9 u3_9 u4_9 u5_9) 0), .null, .null]))] ++ wS cI (ad7 q_5 u0_9 u1_9 u2_9 u3_9 u4_9 u5_9) st0 ++ wR cR (ad7 q_16 u1_20 0 0 0 0 0) (fun _ => none) 0 0) s s.heap H locs := hw
  have hl : lv_has ls 1 [(0, .ref x9)] := hl
  refine W.eq (g2 := F0 m 23 ls [.ref ((ad7 q_16 u1_20 0 0 0 0 0) 0), .ref x9]) rfl ?_
  refine r_putF hx hb hts hown hw 0 1 (ty := tyX3 1) tyX3 tyX3_ok nmX3 hin3 rfl rfl (by decide) k19 rfl (hmn.trans rfl) rfl (by decide +kernel) rfl rfl (Nat.le_of_ble_eq_true rfl) dX3_init_23 (fun H locs hw => ?_)
  have hw : Wd D A [(cI, .int), (cR, .object RX1)] ([(x9, .inr (3, [.ref ((ad7 q_5 u0_9 u1_9 u2_9 u3_9 u4_9 u5_9) 0), .ref ((ad7 q_16 u1_20 0 0 0 0 0) 0), .null]))] ++ wS cI (ad7 q_5 u0_9 u1_9 u2_9 u3_9 u4_9 u5_9) st0 ++ wR cR (ad7 q_16 u1_20 0 0 0 0 0) (fun _ => none) 0 0) s s.heap H locs := hw
  refine lv_aload_n hx hb dX3_init_26 rfl (lv_at hl 0 rfl) ?_
  refine r_new hx hb hts hin2 tyX2 tyX2_ok hown nwl23 nwa23 nwn23 hw hA (ci := 2) rfl (fs := [.null, .int (nI 0), .int (nI 0), .int (nI 0), .int (nI 0), .int (nI 0), .int (nI 0)]) (by decide +kernel) (Nat.le_of_ble_eq_true rfl) (Nat.le_of_ble_eq_true rfl) dX3_init_27 (fun q_27 H locs hw => ?_)
  have hw : Wd D A [(cI, .int), (cR, .object RX1)] ([(x9, .inr (3, [.ref ((ad7 q_5 u0_9 u1_9 u2_9 u3_9 u4_9 u5_9) 0), .ref ((ad7 q_16 u1_20 0 0 0 0 0) 0), .null]))] ++ wS cI (ad7 q_5 u0_9 u1_9 u2_9 u3_9 u4_9 u5_9) st0 ++ wR cR (ad7 q_16 u1_20 0 0 0 0 0) (fun _ => none) 0 0 ++ [(q_27, .inr (2, [.null, .int (nI 0), .int (nI 0), .int (nI 0), .int (nI 0), .int (nI 0), .int (nI 0)]))]) s s.heap H locs := hw
  refine lv_dup hx hb dX3_init_30 rfl ?_
  refine cx_In (As := []) (rest := [.ref q_27, .ref x9]) (wc := [(q_27, .inr (2, [.null, .int (nI 0), .int (nI 0), .int (nI 0), .int (nI 0), .int (nI 0), .int (nI 0)]))]) (wr := [(x9, .inr (3, [.ref ((ad7 q_5 u0_9 u1_9 u2_9 u3_9 u4_9 u5_9) 0), .ref ((ad7 q_16 u1_20 0 0 0 0 0) 0), .null]))] ++ wS cI (ad7 q_5 u0_9 u1_9 u2_9 u3_9 u4_9 u5_9) st0 ++ wR cR (ad7 q_16 u1_20 0 0 0 0 0) (fun _ => none) 0 0) S (c_X2_init l D (sz := H.size) (a9 := q_27)) ⟨va_cnB (host := "CausalTable") 0 hts gX3_init_X2_init_n25 rfl rfl rfl (hz.2 _ (List.mem_of_getElem? (i := 10) rfl)) ni0_25 (by decide +kernel) ⟨Nat.le_of_ble_eq_true rfl, Nat.le_of_ble_eq_true rfl⟩, rfl, ni1_25⟩ hw hA [10] [0, 1, 2, 3, 4, 5, 6, 7, 8, 9] [] rfl rfl rfl (by decide) (by decide) (by decide) rfl hl.1 (Nat.le_of_ble_eq_true rfl) ⟨Nat.le_of_ble_eq_true rfl, Nat.le_of_ble_eq_true rfl⟩ rfl dX3_init_31 (fun u_31 H locs e_31 hw => ?_)
  obtain ⟨cC, u1_31⟩ := u_31
  have hw : Wd D A [(cI, .int), (cR, .object RX1), (cC, .char)] ([(x9, .inr (3, [.ref ((ad7 q_5 u0_9 u1_9 u2_9 u3_9 u4_9 u5_9) 0), .ref ((ad7 q_16 u1_20 0 0 0 0 0) 0), .null]))] ++ wS cI (ad7 q_5 u0_9 u1_9 u2_9 u3_9 u4_9 u5_9) st0 ++ wR cR (ad7 q_16 u1_20 0 0 0 0 0) (fun _ => none) 0 0 ++ wT cC (ad7 q_27 u1_31 0 0 0 0 0) (fun _ => 0) 0 0 (nI 0) (nI 0) (nI 0) (nI 0)) s s.heap H locs := hw
  have hl : lv_has ls 1 [(0, .ref x9)] := hl
  refine W.eq (g2 := F0 m 34 ls [.ref ((ad7 q_27 u1_31 0 0 0 0 0) 0), .ref x9]) rfl ?_
  refine r_putF hx hb hts hown hw 0 2 (ty := tyX3 2) tyX3 tyX3_ok nmX3 hin3 rfl rfl (by decide) k26 rfl (hmn.trans rfl) rfl (by decide +kernel) rfl rfl (Nat.le_of_ble_eq_true rfl) dX3_init_34 (fun H locs hw => ?_)
  have hw : Wd D A [(cI, .int), (cR, .object RX1), (cC, .char)] ([(x9, .inr (3, [.ref ((ad7 q_5 u0_9 u1_9 u2_9 u3_9 u4_9 u5_9) 0), .ref ((ad7 q_16 u1_20 0 0 0 0 0) 0), .ref ((ad7 q_27 u1_31 0 0 0 0 0) 0)]))] ++ wS cI (ad7 q_5 u0_9 u1_9 u2_9 u3_9 u4_9 u5_9) st0 ++ wR cR (ad7 q_16 u1_20 0 0 0 0 0) (fun _ => none) 0 0 ++ wT cC (ad7 q_27 u1_31 0 0 0 0 0) (fun _ => 0) 0 0 (nI 0) (nI 0) (nI 0) (nI 0)) s s.heap H locs := hw
  exact hE (q_5, u0_9, u1_9, u2_9, u3_9, u4_9, u5_9, cR, q_16, u1_20, cC, q_27, u1_31) dX3_init_37 (Nat.le_of_ble_eq_true rfl) (Nat.le_of_ble_eq_true rfl) (hw.sub [0, 1, 2, 3, 4, 5, 6, 7, 8, 9, 10, 11] [1, 2] (by decide) rfl rfl) trivial
abbrev rmX4_init : Room := { frames := 1, cells := 2, slots := 17048, locals := 12 }
set_option maxHeartbeats 4000000 in
set_option maxRecDepth 100000 in
theorem c_X4_init (l : Launch) (D : va_G) (sz : Nat) (cI : ClassId) (a9 : Nat) : MUv l yX4_init wsX4_init rmX4_init [.ref a9] D [(cI, .int)] ([(a9, .inr (4, [.int (nI 0), .null, .int (nI 0), .null, .int (nI 0), .int (nI 0), .int (nI 0), .int (nI 0), .int (nI 0), .int (nI 0), .int (nI 0), .int (nI 0)]))]) sz (fun (u9 : Nat × Nat) => True) (fun u9 => []) (fun u9 => wM cI (ad7 a9 u9.1 u9.2 0 0 0 0) (iniM 4) (fun _ => 0) (nI 0) 0 0 0 (nI 0) (nI 0) (nI 0) (nI 0) 0 0) 2 17048 := by
  refine met_v (own := RX4) (cc := cX4_init) (maxL := 2) (by decide) rfl rfl (Nat.le_of_ble_eq_true rfl) ?_
  intro p e s m args below meth c Q A hsz S hmn hw hA hE ls hl
  obtain ⟨hx, hb, hml, hown, hts⟩ := id S
  have ob0 := hts (.methodLink RX4 1 objectInit) (by decide +kernel)
  have ob1 := hts (.instanceMethod objectInit) (by decide +kernel)
  have ob2 := hts (.code objectInit ⟨#[0xb1]⟩ 1 none) (by decide +kernel)
  have na_int := hts (.arrayClass .int) (by decide +kernel)
  have k7 := hts (.fieldLink RX4 7 "CausalTableModel" "s" "[I") (by decide +kernel)
  have hin4 := (show ∀ w ∈ wsX40, w ∈ wsX4_init by decide +kernel)
  have k13 := hts (.fieldLink RX4 13 "CausalTableModel" "text" "[I") (by decide +kernel)
  have hl : lv_has ls 2 [(0, .ref a9)] := hl
  refine lv_aload_n hx hb dX4_init_0 rfl (lv_at hl 0 rfl) ?_
  refine W.objInit hx hb hown ob0 ob1 ob2 rfl (hml.trans hl.1.symm).symm rfl dX4_init_1 (Nat.le_of_ble_eq_true rfl) (Nat.le_of_ble_eq_true rfl) ?_
  refine lv_aload_n hx hb dX4_init_4 rfl (lv_at hl 0 rfl) ?_
  refine lv_sipush (v := nI 16968) hx hb dX4_init_5 kc_sipush_16968 ?_
  refine r_newI hx hb na_int hw hA 0 rfl (n := 16968) (by decide) (Nat.le_of_ble_eq_true rfl) (Nat.le_of_ble_eq_true rfl) dX4_init_8 (fun q_8 H locs hw => ?_)
  have hw : Wd D A [(cI, .int)] ([(a9, .inr (4, [.int (nI 0), .null, .int (nI 0), .null, .int (nI 0), .int (nI 0), .int (nI 0), .int (nI 0), .int (nI 0), .int (nI 0), .int (nI 0), .int (nI 0)]))] ++ [(q_8, .inl (cI, 16968, .inl (fun _ => 0)))]) s s.heap H locs := hw
  refine r_putF hx hb hts hown hw 0 1 (ty := tyX4 1) tyX4 tyX4_ok nmX4 hin4 rfl rfl (by decide) k7 rfl (hmn.trans rfl) rfl (by decide +kernel) rfl rfl (Nat.le_of_ble_eq_true rfl) dX4_init_10 (fun H locs hw => ?_)
  have hw : Wd D A [(cI, .int)] ([(a9, .inr (4, [.int (nI 0), .ref q_8, .int (nI 0), .null, .int (nI 0), .int (nI 0), .int (nI 0), .int (nI 0), .int (nI 0), .int (nI 0), .int (nI 0), .int (nI 0)]))] ++ [(q_8, .inl (cI, 16968, .inl (fun _ => 0)))]) s s.heap H locs := hw
  refine lv_aload_n hx hb dX4_init_13 rfl (lv_at hl 0 rfl) ?_
  refine lv_bipush (v := nI 80) hx hb dX4_init_14 kc_bipush_80 ?_
  refine r_newI hx hb na_int hw hA 0 rfl (n := 80) (by decide) (Nat.le_of_ble_eq_true rfl) (Nat.le_of_ble_eq_true rfl) dX4_init_16 (fun q_16 H locs hw => ?_)
  have hw : Wd D A [(cI, .int)] ([(a9, .inr (4, [.int (nI 0), .ref q_8, .int (nI 0), .null, .int (nI 0), .int (nI 0), .int (nI 0), .int (nI 0), .int (nI 0), .int (nI 0), .int (nI 0), .int (nI 0)]))] ++ [(q_8, .inl (cI, 16968, .inl (fun _ => 0)))] ++ [(q_16, .inl (cI, 80, .inl (fun _ => 0)))]) s s.heap H locs := hw
  refine r_putF hx hb hts hown hw 0 3 (ty := tyX4 3) tyX4 tyX4_ok nmX4 hin4 rfl rfl (by decide) k13 rfl (hmn.trans rfl) rfl (by decide +kernel) rfl rfl (Nat.le_of_ble_eq_true rfl) dX4_init_18 (fun H locs hw => ?_)
  have hw : Wd D A [(cI, .int)] ([(a9, .inr (4, [.int (nI 0), .ref q_8, .int (nI 0), .ref q_16, .int (nI 0), .int (nI 0), .int (nI 0), .int (nI 0), .int (nI 0), .int (nI 0), .int (nI 0), .int (nI 0)]))] ++ [(q_8, .inl (cI, 16968, .inl (fun _ => 0)))] ++ [(q_16, .inl (cI, 80, .inl (fun _ => 0)))]) s s.heap H locs := hw
  refine lv_iconst (v := nI 0) hx hb dX4_init_21 kc_iconst_0 ?_
  refine lv_istore_n (lv' := [(1, .int (nI 0)), (0, .ref a9)]) hx hb dX4_init_22 rfl hl (by decide) rfl (fun ls hl => ?_)
  have L23_1 : ∀ (fu_2 k : Nat), k ≤ 4 → 4 - k < fu_2 → ∀ (H : Heap) (locs : List Loc), Wd D A [(cI, .int)] ([(a9, .inr (4, [.int (nI 0), .ref q_8, .int (nI 0), .ref q_16, .int (nI 0), .int (nI 0), .int (nI 0), .int (nI 0), .int (nI 0), .int (nI 0), .int (nI 0), .int (nI 0)]))] ++ [(q_8, .inl (cI, 16968, .inl (iniM k)))] ++ [(q_16, .inl (cI, 80, .inl (fun _ => 0)))]) s s.heap H locs → ∀ ls : Array Slot, lv_has ls 2 [(1, .int (nI k)), (0, .ref a9)] → W p l e rmX4_init s m args below meth c H locs ((0 + 1) + 1) ((0 + 16968) + 80) Q (F0 m 23 ls []) := by
    intro fu_2
    induction fu_2 with
    | zero => intro k _ h9; exact absurd h9 (Nat.not_lt_zero _)
    | succ fu_2 ih_23 =>
      intro k hk_23 hf_23 H locs hw ls hl
      refine lv_iload_n hx hb dX4_init_23 rfl (lv_at hl 0 rfl) ?_
      refine lv_iconst (v := nI 4) hx hb dX4_init_24 kc_iconst_4 ?_
      refine r_icmp_geN (tgt := 44) hx hb (by omega) (by omega) dX4_init_25 (by decide) (fun c_25 => ?_) (fun c_25 => ?_)
      ·
        have hk4 : k = 4 := by omega
        subst hk4
        exact hE (q_8, q_16) dX4_init_44 (Nat.le_of_ble_eq_true rfl) (Nat.le_of_ble_eq_true rfl) (hw.sub [0, 1, 2] [] (by decide) rfl rfl) trivial
      ·
        refine lv_aload_n hx hb dX4_init_28 rfl (lv_at hl 1 rfl) ?_
        refine r_get hx hb hts hown hw.q 0 1 hin4 rfl rfl (by decide) k7 rfl dX4_init_29 ?_
        refine lv_bipush (v := nI 20) hx hb dX4_init_32 kc_bipush_20 ?_
        refine lv_iload_n hx hb dX4_init_34 rfl (lv_at hl 0 rfl) ?_
        refine r_addN hx hb dX4_init_35 ?_
        refine lv_iconst (v := (-1)) hx hb dX4_init_36 kc_iconst_m1 ?_
        refine r_ast hx hb hw 1 0 rfl rfl (i := 20 + k) (by omega) (by decide) dX4_init_37 (fun H locs hw => ?_)
        have hw : Wd D A [(cI, .int)] ([(a9, .inr (4, [.int (nI 0), .ref q_8, .int (nI 0), .ref q_16, .int (nI 0), .int (nI 0), .int (nI 0), .int (nI 0), .int (nI 0), .int (nI 0), .int (nI 0), .int (nI 0)]))] ++ [(q_8, .inl (cI, 16968, .inl (upd (iniM k) (20 + k) (-1))))] ++ [(q_16, .inl (cI, 80, .inl (fun _ => 0)))]) s s.heap H locs := hw
        refine lv_iinc (v := nI (k + 1)) (lv' := [(1, .int (nI (k + 1))), (0, .ref a9)]) hx hb dX4_init_38 hl (k := 0) rfl (nI_add k 1) (by decide) rfl (fun ls hl => ?_)
        refine lv_goto (tgt := 23) hx hb dX4_init_41 (by decide) ?_
        have hl : lv_has ls 2 [(1, .int (nI (k + 1))), (0, .ref a9)] := lv_sub hl [0, 1] rfl
        have hw : Wd D A [(cI, .int)] ([(a9, .inr (4, [.int (nI 0), .ref q_8, .int (nI 0), .ref q_16, .int (nI 0), .int (nI 0), .int (nI 0), .int (nI 0), .int (nI 0), .int (nI 0), .int (nI 0), .int (nI 0)]))] ++ [(q_8, .inl (cI, 16968, .inl (iniM (k + 1))))] ++ [(q_16, .inl (cI, 80, .inl (fun _ => 0)))]) s s.heap H locs := Eq.mp (congrArg (fun z9 => Wd D A [(cI, .int)] ([(a9, .inr (4, [.int (nI 0), .ref q_8, .int (nI 0), .ref q_16, .int (nI 0), .int (nI 0), .int (nI 0), .int (nI 0), .int (nI 0), .int (nI 0), .int (nI 0), .int (nI 0)]))] ++ [(q_8, .inl (cI, 16968, .inl z9))] ++ [(q_16, .inl (cI, 80, .inl (fun _ => 0)))]) s s.heap H locs) (show upd (iniM k) (20 + k) (-1) = iniM (k + 1) from rfl)) hw
        exact ih_23 (k + 1) (by omega) (by omega) _ _ hw ls hl
  have hl : lv_has ls 2 [(1, .int (nI 0)), (0, .ref a9)] := lv_sub hl [0, 1] rfl
  have hw : Wd D A [(cI, .int)] ([(a9, .inr (4, [.int (nI 0), .ref q_8, .int (nI 0), .ref q_16, .int (nI 0), .int (nI 0), .int (nI 0), .int (nI 0), .int (nI 0), .int (nI 0), .int (nI 0), .int (nI 0)]))] ++ [(q_8, .inl (cI, 16968, .inl (iniM 0)))] ++ [(q_16, .inl (cI, 80, .inl (fun _ => 0)))]) s s.heap H locs := Eq.mp (congrArg (fun z9 => Wd D A [(cI, .int)] ([(a9, .inr (4, [.int (nI 0), .ref q_8, .int (nI 0), .ref q_16, .int (nI 0), .int (nI 0), .int (nI 0), .int (nI 0), .int (nI 0), .int (nI 0), .int (nI 0), .int (nI 0)]))] ++ [(q_8, .inl (cI, 16968, .inl z9))] ++ [(q_16, .inl (cI, 80, .inl (fun _ => 0)))]) s s.heap H locs) (show (fun _ => 0) = iniM 0 from rfl)) hw
  exact L23_1 (4 + 1) (0) (by omega) (by omega) _ _ hw ls hl
abbrev rmX3_execute : Room := { frames := 4, cells := 0, slots := 0, locals := 97 }
set_option maxHeartbeats 4000000 in
set_option maxRecDepth 100000 in
theorem c_X3_execute (l : Launch) (D : va_G) (sz : Nat) (cI cR cC : ClassId) (x9 : Nat) (q : Nat → Nat) (st : St) (h9 : Nat → Nat) (ad : Nat → Nat → Nat) (sv : Nat → St) (ol n7 n8 : Nat) (t9 : Nat → Nat) (tx : Nat → Nat) (ln po : Nat) (nu : Int32) (kc r w e9 : Nat) (hkd : kdB kc = true) (hr : r < 4) (hw9 : w < 6) (hm8 : kc = 109 → w < 4) (hn8 : (kc = 105 ∨ kc = 101) → nu = nI e9 ∧ e9 < 16) : MXv l yX3_execute wsX3_execute rmX3_execute [.ref x9] D [(cI, .int), (cR, .object RX1), (cC, .char)] ([(x9, .inr (3, [.ref (q 0), .ref (h9 0), .ref (t9 0)]))] ++ wS cI q st ++ wR cR h9 (fr7 ad n8) ol n7 ++ wT cC t9 tx ln po (nI kc) (nI r) (nI w) nu ++ wP cI ad sv n8) sz (fun (u9 : Unit) => True) (fun u9 => []) (fun u9 => [(x9, .inr (3, [.ref (q 0), .ref (h9 0), .ref (t9 0)]))] ++ wS cI q (dsS st kc r w nu e9) ++ wR cR h9 (fr7 ad n8) ol n7 ++ wT cC t9 tx ln po (nI kc) (nI r) (nI w) nu ++ wP cI ad sv n8) 0 0 := by
  refine met_xv (own := RX3) (cc := cX3_execute) (maxL := 1) (by decide) rfl rfl (Nat.le_of_ble_eq_true rfl) ?_
  intro p e s m args below meth c Q A hsz S hmn hz hw hA hE ls hl
  obtain ⟨hx, hb, hml, hown, hts⟩ := id S
  have k26 := hts (.fieldLink RX3 26 "CausalTable" "text" "LCausalTable$Text;") (by decide +kernel)
  have hin3 := (show ∀ w ∈ wsX30, w ∈ wsX3_execute by decide +kernel)
  have hin2 := (show ∀ w ∈ wsX20, w ∈ wsX3_execute by decide +kernel)
  have k10 := hts (.fieldLink RX3 10 "CausalTable" "state" "LCausalTable$State;") (by decide +kernel)
  have hl : lv_has ls 1 [(0, .ref x9)] := hl
  refine lv_aload_n hx hb dX3_execute_0 rfl (lv_at hl 0 rfl) ?_
  refine r_get hx hb hts hown hw.q 0 2 hin3 rfl rfl (by decide) k26 rfl dX3_execute_1 ?_
  refine r_getN hx hb hts hown hw.q 10 3 hin2 rfl rfl (by decide) (hz.at 4 rfl) rfl dX3_execute_4 ?_
  rcases kd_cases hkd with hk8 | hk8 | hk8 | hk8 | hk8 | hk8 | hk8 | hk8
  ·
    refine r_top hx (show nI kc = nI 97 from congrArg nI hk8) ?_
    refine lv_tableIn (off := 200) (tgt := 207) hx hb dX3_execute_7 (by decide) (by decide) (by decide) (by decide) ?_
    refine lv_aload_n hx hb dX3_execute_207 rfl (lv_at hl 0 rfl) ?_
    refine r_get hx hb hts hown hw.q 0 0 hin3 rfl rfl (by decide) k10 rfl dX3_execute_208 ?_
    refine lv_aload_n hx hb dX3_execute_211 rfl (lv_at hl 0 rfl) ?_
    refine r_get hx hb hts hown hw.q 0 2 hin3 rfl rfl (by decide) k26 rfl dX3_execute_212 ?_
    refine r_getN hx hb hts hown hw.q 10 4 hin2 rfl rfl (by decide) (hz.at 5 rfl) rfl dX3_execute_215 ?_
    refine lv_aload_n hx hb dX3_execute_218 rfl (lv_at hl 0 rfl) ?_
    refine r_get hx hb hts hown hw.q 0 2 hin3 rfl rfl (by decide) k26 rfl dX3_execute_219 ?_
    refine r_getN hx hb hts hown hw.q 10 5 hin2 rfl rfl (by decide) (hz.at 6 rfl) rfl dX3_execute_222 ?_
    refine lv_aload_n hx hb dX3_execute_225 rfl (lv_at hl 0 rfl) ?_
    refine r_get hx hb hts hown hw.q 0 2 hin3 rfl rfl (by decide) k26 rfl dX3_execute_226 ?_
    refine r_getN hx hb hts hown hw.q 10 6 hin2 rfl rfl (by decide) (hz.at 7 rfl) rfl dX3_execute_229 ?_
    refine cp_Vv (As := [.int (nI r), .int (nI w), .int nu]) (rest := []) (wc := wS cI q st) (wr := [(x9, .inr (3, [.ref (q 0), .ref (h9 0), .ref (t9 0)]))] ++ wR cR h9 (fr7 ad n8) ol n7 ++ wT cC t9 tx ln po (nI kc) (nI r) (nI w) nu) S (c_X1_addAmount l D (sz := s.heap.size) (cI := cI) (q := q) (st := st) (r := r) (w := w) (v := nu) (hr := by omega) (hw5 := by omega)) (cwV 3 hts gX3_execute_X1_addAmount rfl rfl rfl (by decide +kernel) ⟨Nat.le_of_ble_eq_true rfl, Nat.le_of_ble_eq_true rfl⟩) hw hA [1, 2, 3, 4, 5, 6, 7] [0, 8, 9, 10, 11] [0] rfl rfl (k0 := 12) rfl (by decide) rfl 0 rfl rfl rfl hl.1 (Nat.le_of_ble_eq_true rfl) ⟨Nat.le_of_ble_eq_true rfl, Nat.le_of_ble_eq_true rfl⟩ rfl dX3_execute_232 (fun u_232 H locs e_232 hw => ?_)
    have hw : Wd D A [(cI, .int), (cR, .object RX1), (cC, .char)] (wS cI q (addS st r w nu) ++ [(x9, .inr (3, [.ref (q 0), .ref (h9 0), .ref (t9 0)]))] ++ wR cR h9 (fr7 ad n8) ol n7 ++ wT cC t9 tx ln po (nI kc) (nI r) (nI w) nu ++ wP cI ad sv n8) s s.heap H locs := hw
    refine lv_goto (tgt := 352) hx hb dX3_execute_235 (by decide) ?_
    have hw : Wd D A [(cI, .int), (cR, .object RX1), (cC, .char)] ([(x9, .inr (3, [.ref (q 0), .ref (h9 0), .ref (t9 0)]))] ++ wS cI q (addS st r w nu) ++ wR cR h9 (fr7 ad n8) ol n7 ++ wT cC t9 tx ln po (nI kc) (nI r) (nI w) nu ++ wP cI ad sv n8) s s.heap H locs := hw.ord [7, 0, 1, 2, 3, 4, 5, 6, 8, 9, 10, 11] (k0 := 12) rfl rfl (by decide)
    have hd9 : dsS st kc r w nu e9 = (addS st r w nu) := by rw [dsS, if_pos hk8]
    have hw : Wd D A [(cI, .int), (cR, .object RX1), (cC, .char)] ([(x9, .inr (3, [.ref (q 0), .ref (h9 0), .ref (t9 0)]))] ++ wS cI q (dsS st kc r w nu e9) ++ wR cR h9 (fr7 ad n8) ol n7 ++ wT cC t9 tx ln po (nI kc) (nI r) (nI w) nu ++ wP cI ad sv n8) s s.heap H locs := by rw [hd9]; exact hw
    exact hE () dX3_execute_352 (Nat.le_of_ble_eq_true rfl) (Nat.le_of_ble_eq_true rfl) ⟨⟨hw.1.1, fun k q hk => by cases hk⟩, hw.2.1, hw.2.2.1, hw.2.2.2⟩ trivial
  ·
    refine r_top hx (show nI kc = nI 100 from congrArg nI hk8) ?_
    refine lv_tableIn (off := 295) (tgt := 302) hx hb dX3_execute_7 (by decide) (by decide) (by decide) (by decide) ?_
    refine lv_aload_n hx hb dX3_execute_302 rfl (lv_at hl 0 rfl) ?_
    refine r_get hx hb hts hown hw.q 0 0 hin3 rfl rfl (by decide) k10 rfl dX3_execute_303 ?_
    refine lv_aload_n hx hb dX3_execute_306 rfl (lv_at hl 0 rfl) ?_
    refine r_get hx hb hts hown hw.q 0 2 hin3 rfl rfl (by decide) k26 rfl dX3_execute_307 ?_
    refine r_getN hx hb hts hown hw.q 10 4 hin2 rfl rfl (by decide) (hz.at 5 rfl) rfl dX3_execute_310 ?_
    refine lv_aload_n hx hb dX3_execute_313 rfl (lv_at hl 0 rfl) ?_
    refine r_get hx hb hts hown hw.q 0 2 hin3 rfl rfl (by decide) k26 rfl dX3_execute_314 ?_
    refine r_getN hx hb hts hown hw.q 10 5 hin2 rfl rfl (by decide) (hz.at 6 rfl) rfl dX3_execute_317 ?_
    refine cp_Vi (As := [.int (nI r), .int (nI w)]) (rest := []) (wc := wS cI q st) (wr := [(x9, .inr (3, [.ref (q 0), .ref (h9 0), .ref (t9 0)]))] ++ wR cR h9 (fr7 ad n8) ol n7 ++ wT cC t9 tx ln po (nI kc) (nI r) (nI w) nu) S (c_X1_deleteRow l D (sz := s.heap.size) (cI := cI) (q := q) (st := st) (r := r) (w := w) (hr := by omega) (hw5 := by omega)) (cwV 2 hts gX3_execute_X1_deleteRow rfl rfl rfl (by decide +kernel) ⟨Nat.le_of_ble_eq_true rfl, Nat.le_of_ble_eq_true rfl⟩) hw hA [1, 2, 3, 4, 5, 6, 7] [0, 8, 9, 10, 11] [0] rfl rfl (k0 := 12) rfl (by decide) rfl 0 rfl rfl rfl hl.1 (Nat.le_of_ble_eq_true rfl) ⟨Nat.le_of_ble_eq_true rfl, Nat.le_of_ble_eq_true rfl⟩ rfl dX3_execute_320 (fun r_320 u_320 H locs e_320 hw => ?_)
    have hw : Wd D A [(cI, .int), (cR, .object RX1), (cC, .char)] (wS cI q (delS st r w) ++ [(x9, .inr (3, [.ref (q 0), .ref (h9 0), .ref (t9 0)]))] ++ wR cR h9 (fr7 ad n8) ol n7 ++ wT cC t9 tx ln po (nI kc) (nI r) (nI w) nu ++ wP cI ad sv n8) s s.heap H locs := hw
    have e_320 : r_320 = nI (cntE st.1 (r * 480 + w * 80 + 0 * 4) 80) := e_320
    subst e_320
    refine lv_pop hx hb dX3_execute_323 rfl ?_
    refine lv_goto (tgt := 352) hx hb dX3_execute_324 (by decide) ?_
    have hw : Wd D A [(cI, .int), (cR, .object RX1), (cC, .char)] ([(x9, .inr (3, [.ref (q 0), .ref (h9 0), .ref (t9 0)]))] ++ wS cI q (delS st r w) ++ wR cR h9 (fr7 ad n8) ol n7 ++ wT cC t9 tx ln po (nI kc) (nI r) (nI w) nu ++ wP cI ad sv n8) s s.heap H locs := hw.ord [7, 0, 1, 2, 3, 4, 5, 6, 8, 9, 10, 11] (k0 := 12) rfl rfl (by decide)
    have hd9 : dsS st kc r w nu e9 = (delS st r w) := by rw [dsS, if_neg (show ¬ kc = 97 by omega), if_pos hk8]
    have hw : Wd D A [(cI, .int), (cR, .object RX1), (cC, .char)] ([(x9, .inr (3, [.ref (q 0), .ref (h9 0), .ref (t9 0)]))] ++ wS cI q (dsS st kc r w nu e9) ++ wR cR h9 (fr7 ad n8) ol n7 ++ wT cC t9 tx ln po (nI kc) (nI r) (nI w) nu ++ wP cI ad sv n8) s s.heap H locs := by rw [hd9]; exact hw
    exact hE () dX3_execute_352 (Nat.le_of_ble_eq_true rfl) (Nat.le_of_ble_eq_true rfl) ⟨⟨hw.1.1, fun k q hk => by cases hk⟩, hw.2.1, hw.2.2.1, hw.2.2.2⟩ trivial
  ·
    refine r_top hx (show nI kc = nI 101 from congrArg nI hk8) ?_
    refine lv_tableIn (off := 263) (tgt := 270) hx hb dX3_execute_7 (by decide) (by decide) (by decide) (by decide) ?_
    have hw : Wd D A [(cI, .int), (cR, .object RX1), (cC, .char)] ([(x9, .inr (3, [.ref (q 0), .ref (h9 0), .ref (t9 0)]))] ++ wS cI q st ++ wR cR h9 (fr7 ad n8) ol n7 ++ wT cC t9 tx ln po (nI kc) (nI r) (nI w) (nI e9) ++ wP cI ad sv n8) s s.heap s.heap [] := by rw [← (hn8 (by omega)).1]; exact hw
    have he9 := (hn8 (by omega)).2
    refine lv_aload_n hx hb dX3_execute_270 rfl (lv_at hl 0 rfl) ?_
    refine r_get hx hb hts hown hw.q 0 0 hin3 rfl rfl (by decide) k10 rfl dX3_execute_271 ?_
    refine lv_aload_n hx hb dX3_execute_274 rfl (lv_at hl 0 rfl) ?_
    refine r_get hx hb hts hown hw.q 0 2 hin3 rfl rfl (by decide) k26 rfl dX3_execute_275 ?_
    refine r_getN hx hb hts hown hw.q 10 4 hin2 rfl rfl (by decide) (hz.at 5 rfl) rfl dX3_execute_278 ?_
    refine lv_aload_n hx hb dX3_execute_281 rfl (lv_at hl 0 rfl) ?_
    refine r_get hx hb hts hown hw.q 0 2 hin3 rfl rfl (by decide) k26 rfl dX3_execute_282 ?_
    refine r_getN hx hb hts hown hw.q 10 5 hin2 rfl rfl (by decide) (hz.at 6 rfl) rfl dX3_execute_285 ?_
    refine lv_aload_n hx hb dX3_execute_288 rfl (lv_at hl 0 rfl) ?_
    refine r_get hx hb hts hown hw.q 0 2 hin3 rfl rfl (by decide) k26 rfl dX3_execute_289 ?_
    refine r_getN hx hb hts hown hw.q 10 6 hin2 rfl rfl (by decide) (hz.at 7 rfl) rfl dX3_execute_292 ?_
    refine cp_Vi (As := [.int (nI r), .int (nI w), .int (nI e9)]) (rest := []) (wc := wS cI q st) (wr := [(x9, .inr (3, [.ref (q 0), .ref (h9 0), .ref (t9 0)]))] ++ wR cR h9 (fr7 ad n8) ol n7 ++ wT cC t9 tx ln po (nI kc) (nI r) (nI w) (nI e9)) S (c_X1_excludeElement l D (sz := s.heap.size) (cI := cI) (q := q) (st := st) (r := r) (w := w) (e9 := e9) (hr := by omega) (hw5 := by omega) (he := by omega)) (cwV 3 hts gX3_execute_X1_excludeElement rfl rfl rfl (by decide +kernel) ⟨Nat.le_of_ble_eq_true rfl, Nat.le_of_ble_eq_true rfl⟩) hw hA [1, 2, 3, 4, 5, 6, 7] [0, 8, 9, 10, 11] [0] rfl rfl (k0 := 12) rfl (by decide) rfl 0 rfl rfl rfl hl.1 (Nat.le_of_ble_eq_true rfl) ⟨Nat.le_of_ble_eq_true rfl, Nat.le_of_ble_eq_true rfl⟩ rfl dX3_execute_295 (fun r_295 u_295 H locs e_295 hw => ?_)
    have hw : Wd D A [(cI, .int), (cR, .object RX1), (cC, .char)] (wS cI q (excS st r w e9) ++ [(x9, .inr (3, [.ref (q 0), .ref (h9 0), .ref (t9 0)]))] ++ wR cR h9 (fr7 ad n8) ol n7 ++ wT cC t9 tx ln po (nI kc) (nI r) (nI w) (nI e9) ++ wP cI ad sv n8) s s.heap H locs := hw
    have e_295 : r_295 = nI (cntE st.1 (r * 480 + w * 80 + (4 + e9) * 4) 4) := e_295
    subst e_295
    refine lv_pop hx hb dX3_execute_298 rfl ?_
    refine lv_goto (tgt := 352) hx hb dX3_execute_299 (by decide) ?_
    have hw : Wd D A [(cI, .int), (cR, .object RX1), (cC, .char)] ([(x9, .inr (3, [.ref (q 0), .ref (h9 0), .ref (t9 0)]))] ++ wS cI q (excS st r w e9) ++ wR cR h9 (fr7 ad n8) ol n7 ++ wT cC t9 tx ln po (nI kc) (nI r) (nI w) (nI e9) ++ wP cI ad sv n8) s s.heap H locs := hw.ord [7, 0, 1, 2, 3, 4, 5, 6, 8, 9, 10, 11] (k0 := 12) rfl rfl (by decide)
    have hw : Wd D A [(cI, .int), (cR, .object RX1), (cC, .char)] ([(x9, .inr (3, [.ref (q 0), .ref (h9 0), .ref (t9 0)]))] ++ wS cI q (excS st r w e9) ++ wR cR h9 (fr7 ad n8) ol n7 ++ wT cC t9 tx ln po (nI kc) (nI r) (nI w) nu ++ wP cI ad sv n8) s s.heap H locs := by rw [(hn8 (by omega)).1]; exact hw
    have hd9 : dsS st kc r w nu e9 = (excS st r w e9) := by rw [dsS, if_neg (show ¬ kc = 97 by omega), if_neg (show ¬ kc = 100 by omega), if_pos hk8]
    have hw : Wd D A [(cI, .int), (cR, .object RX1), (cC, .char)] ([(x9, .inr (3, [.ref (q 0), .ref (h9 0), .ref (t9 0)]))] ++ wS cI q (dsS st kc r w nu e9) ++ wR cR h9 (fr7 ad n8) ol n7 ++ wT cC t9 tx ln po (nI kc) (nI r) (nI w) nu ++ wP cI ad sv n8) s s.heap H locs := by rw [hd9]; exact hw
    exact hE () dX3_execute_352 (Nat.le_of_ble_eq_true rfl) (Nat.le_of_ble_eq_true rfl) ⟨⟨hw.1.1, fun k q hk => by cases hk⟩, hw.2.1, hw.2.2.1, hw.2.2.2⟩ trivial
  ·
    refine r_top hx (show nI kc = nI 103 from congrArg nI hk8) ?_
    refine lv_tableIn (off := 167) (tgt := 174) hx hb dX3_execute_7 (by decide) (by decide) (by decide) (by decide) ?_
    refine lv_aload_n hx hb dX3_execute_174 rfl (lv_at hl 0 rfl) ?_
    refine r_get hx hb hts hown hw.q 0 0 hin3 rfl rfl (by decide) k10 rfl dX3_execute_175 ?_
    refine lv_aload_n hx hb dX3_execute_178 rfl (lv_at hl 0 rfl) ?_
    refine r_get hx hb hts hown hw.q 0 2 hin3 rfl rfl (by decide) k26 rfl dX3_execute_179 ?_
    refine r_getN hx hb hts hown hw.q 10 4 hin2 rfl rfl (by decide) (hz.at 5 rfl) rfl dX3_execute_182 ?_
    refine lv_aload_n hx hb dX3_execute_185 rfl (lv_at hl 0 rfl) ?_
    refine r_get hx hb hts hown hw.q 0 2 hin3 rfl rfl (by decide) k26 rfl dX3_execute_186 ?_
    refine r_getN hx hb hts hown hw.q 10 5 hin2 rfl rfl (by decide) (hz.at 6 rfl) rfl dX3_execute_189 ?_
    refine lv_iconst (v := nI 2) hx hb dX3_execute_192 kc_iconst_2 ?_
    refine lv_aload_n hx hb dX3_execute_193 rfl (lv_at hl 0 rfl) ?_
    refine r_get hx hb hts hown hw.q 0 2 hin3 rfl rfl (by decide) k26 rfl dX3_execute_194 ?_
    refine r_getN hx hb hts hown hw.q 10 6 hin2 rfl rfl (by decide) (hz.at 7 rfl) rfl dX3_execute_197 ?_
    refine cp_Vi (As := [.int (nI r), .int (nI w), .int (nI 2), .int nu]) (rest := []) (wc := wS cI q st) (wr := [(x9, .inr (3, [.ref (q 0), .ref (h9 0), .ref (t9 0)]))] ++ wR cR h9 (fr7 ad n8) ol n7 ++ wT cC t9 tx ln po (nI kc) (nI r) (nI w) nu) S (c_X1_putValue l D (sz := s.heap.size) (cI := cI) (q := q) (st := st) (r := r) (w := w) (g := 2) (v := nu) (hr := by omega) (hw5 := by omega) (hg := by omega)) (cwV 4 hts gX3_execute_X1_putValue rfl rfl rfl (by decide +kernel) ⟨Nat.le_of_ble_eq_true rfl, Nat.le_of_ble_eq_true rfl⟩) hw hA [1, 2, 3, 4, 5, 6, 7] [0, 8, 9, 10, 11] [0] rfl rfl (k0 := 12) rfl (by decide) rfl 0 rfl rfl rfl hl.1 (Nat.le_of_ble_eq_true rfl) ⟨Nat.le_of_ble_eq_true rfl, Nat.le_of_ble_eq_true rfl⟩ rfl dX3_execute_200 (fun r_200 u_200 H locs e_200 hw => ?_)
    have hw : Wd D A [(cI, .int), (cR, .object RX1), (cC, .char)] (wS cI q (putS st r w 2 nu) ++ [(x9, .inr (3, [.ref (q 0), .ref (h9 0), .ref (t9 0)]))] ++ wR cR h9 (fr7 ad n8) ol n7 ++ wT cC t9 tx ln po (nI kc) (nI r) (nI w) nu ++ wP cI ad sv n8) s s.heap H locs := hw
    have e_200 : r_200 = nI (cntE st.1 (r * 480 + w * 80 + 2 * 4) 4) := e_200
    subst e_200
    refine lv_pop hx hb dX3_execute_203 rfl ?_
    refine lv_goto (tgt := 352) hx hb dX3_execute_204 (by decide) ?_
    have hw : Wd D A [(cI, .int), (cR, .object RX1), (cC, .char)] ([(x9, .inr (3, [.ref (q 0), .ref (h9 0), .ref (t9 0)]))] ++ wS cI q (putS st r w 2 nu) ++ wR cR h9 (fr7 ad n8) ol n7 ++ wT cC t9 tx ln po (nI kc) (nI r) (nI w) nu ++ wP cI ad sv n8) s s.heap H locs := hw.ord [7, 0, 1, 2, 3, 4, 5, 6, 8, 9, 10, 11] (k0 := 12) rfl rfl (by decide)
    have hd9 : dsS st kc r w nu e9 = (putS st r w 2 nu) := by rw [dsS, if_neg (show ¬ kc = 97 by omega), if_neg (show ¬ kc = 100 by omega), if_neg (show ¬ kc = 101 by omega), if_pos hk8]
    have hw : Wd D A [(cI, .int), (cR, .object RX1), (cC, .char)] ([(x9, .inr (3, [.ref (q 0), .ref (h9 0), .ref (t9 0)]))] ++ wS cI q (dsS st kc r w nu e9) ++ wR cR h9 (fr7 ad n8) ol n7 ++ wT cC t9 tx ln po (nI kc) (nI r) (nI w) nu ++ wP cI ad sv n8) s s.heap H locs := by rw [hd9]; exact hw
    exact hE () dX3_execute_352 (Nat.le_of_ble_eq_true rfl) (Nat.le_of_ble_eq_true rfl) ⟨⟨hw.1.1, fun k q hk => by cases hk⟩, hw.2.1, hw.2.2.1, hw.2.2.2⟩ trivial
  ·
    refine r_top hx (show nI kc = nI 105 from congrArg nI hk8) ?_
    refine lv_tableIn (off := 231) (tgt := 238) hx hb dX3_execute_7 (by decide) (by decide) (by decide) (by decide) ?_
    have hw : Wd D A [(cI, .int), (cR, .object RX1), (cC, .char)] ([(x9, .inr (3, [.ref (q 0), .ref (h9 0), .ref (t9 0)]))] ++ wS cI q st ++ wR cR h9 (fr7 ad n8) ol n7 ++ wT cC t9 tx ln po (nI kc) (nI r) (nI w) (nI e9) ++ wP cI ad sv n8) s s.heap s.heap [] := by rw [← (hn8 (by omega)).1]; exact hw
    have he9 := (hn8 (by omega)).2
    refine lv_aload_n hx hb dX3_execute_238 rfl (lv_at hl 0 rfl) ?_
    refine r_get hx hb hts hown hw.q 0 0 hin3 rfl rfl (by decide) k10 rfl dX3_execute_239 ?_
    refine lv_aload_n hx hb dX3_execute_242 rfl (lv_at hl 0 rfl) ?_
    refine r_get hx hb hts hown hw.q 0 2 hin3 rfl rfl (by decide) k26 rfl dX3_execute_243 ?_
    refine r_getN hx hb hts hown hw.q 10 4 hin2 rfl rfl (by decide) (hz.at 5 rfl) rfl dX3_execute_246 ?_
    refine lv_aload_n hx hb dX3_execute_249 rfl (lv_at hl 0 rfl) ?_
    refine r_get hx hb hts hown hw.q 0 2 hin3 rfl rfl (by decide) k26 rfl dX3_execute_250 ?_
    refine r_getN hx hb hts hown hw.q 10 5 hin2 rfl rfl (by decide) (hz.at 6 rfl) rfl dX3_execute_253 ?_
    refine lv_aload_n hx hb dX3_execute_256 rfl (lv_at hl 0 rfl) ?_
    refine r_get hx hb hts hown hw.q 0 2 hin3 rfl rfl (by decide) k26 rfl dX3_execute_257 ?_
    refine r_getN hx hb hts hown hw.q 10 6 hin2 rfl rfl (by decide) (hz.at 7 rfl) rfl dX3_execute_260 ?_
    refine cp_Vi (As := [.int (nI r), .int (nI w), .int (nI e9)]) (rest := []) (wc := wS cI q st) (wr := [(x9, .inr (3, [.ref (q 0), .ref (h9 0), .ref (t9 0)]))] ++ wR cR h9 (fr7 ad n8) ol n7 ++ wT cC t9 tx ln po (nI kc) (nI r) (nI w) (nI e9)) S (c_X1_includeElement l D (sz := s.heap.size) (cI := cI) (q := q) (st := st) (r := r) (w := w) (e9 := e9) (hr := by omega) (hw5 := by omega) (he := by omega)) (cwV 3 hts gX3_execute_X1_includeElement rfl rfl rfl (by decide +kernel) ⟨Nat.le_of_ble_eq_true rfl, Nat.le_of_ble_eq_true rfl⟩) hw hA [1, 2, 3, 4, 5, 6, 7] [0, 8, 9, 10, 11] [0] rfl rfl (k0 := 12) rfl (by decide) rfl 0 rfl rfl rfl hl.1 (Nat.le_of_ble_eq_true rfl) ⟨Nat.le_of_ble_eq_true rfl, Nat.le_of_ble_eq_true rfl⟩ rfl dX3_execute_263 (fun r_263 u_263 H locs e_263 hw => ?_)
    have hw : Wd D A [(cI, .int), (cR, .object RX1), (cC, .char)] (wS cI q (incS st r w e9) ++ [(x9, .inr (3, [.ref (q 0), .ref (h9 0), .ref (t9 0)]))] ++ wR cR h9 (fr7 ad n8) ol n7 ++ wT cC t9 tx ln po (nI kc) (nI r) (nI w) (nI e9) ++ wP cI ad sv n8) s s.heap H locs := hw
    have e_263 : r_263 = nI (cntE st.1 (r * 480 + w * 80 + (4 + e9) * 4) 4) := e_263
    subst e_263
    refine lv_pop hx hb dX3_execute_266 rfl ?_
    refine lv_goto (tgt := 352) hx hb dX3_execute_267 (by decide) ?_
    have hw : Wd D A [(cI, .int), (cR, .object RX1), (cC, .char)] ([(x9, .inr (3, [.ref (q 0), .ref (h9 0), .ref (t9 0)]))] ++ wS cI q (incS st r w e9) ++ wR cR h9 (fr7 ad n8) ol n7 ++ wT cC t9 tx ln po (nI kc) (nI r) (nI w) (nI e9) ++ wP cI ad sv n8) s s.heap H locs := hw.ord [7, 0, 1, 2, 3, 4, 5, 6, 8, 9, 10, 11] (k0 := 12) rfl rfl (by decide)
    have hw : Wd D A [(cI, .int), (cR, .object RX1), (cC, .char)] ([(x9, .inr (3, [.ref (q 0), .ref (h9 0), .ref (t9 0)]))] ++ wS cI q (incS st r w e9) ++ wR cR h9 (fr7 ad n8) ol n7 ++ wT cC t9 tx ln po (nI kc) (nI r) (nI w) nu ++ wP cI ad sv n8) s s.heap H locs := by rw [(hn8 (by omega)).1]; exact hw
    have hd9 : dsS st kc r w nu e9 = (incS st r w e9) := by rw [dsS, if_neg (show ¬ kc = 97 by omega), if_neg (show ¬ kc = 100 by omega), if_neg (show ¬ kc = 101 by omega), if_neg (show ¬ kc = 103 by omega), if_pos hk8]
    have hw : Wd D A [(cI, .int), (cR, .object RX1), (cC, .char)] ([(x9, .inr (3, [.ref (q 0), .ref (h9 0), .ref (t9 0)]))] ++ wS cI q (dsS st kc r w nu e9) ++ wR cR h9 (fr7 ad n8) ol n7 ++ wT cC t9 tx ln po (nI kc) (nI r) (nI w) nu ++ wP cI ad sv n8) s s.heap H locs := by rw [hd9]; exact hw
    exact hE () dX3_execute_352 (Nat.le_of_ble_eq_true rfl) (Nat.le_of_ble_eq_true rfl) ⟨⟨hw.1.1, fun k q hk => by cases hk⟩, hw.2.1, hw.2.2.1, hw.2.2.2⟩ trivial
  ·
    refine r_top hx (show nI kc = nI 108 from congrArg nI hk8) ?_
    refine lv_tableIn (off := 101) (tgt := 108) hx hb dX3_execute_7 (by decide) (by decide) (by decide) (by decide) ?_
    refine lv_aload_n hx hb dX3_execute_108 rfl (lv_at hl 0 rfl) ?_
    refine r_get hx hb hts hown hw.q 0 0 hin3 rfl rfl (by decide) k10 rfl dX3_execute_109 ?_
    refine lv_aload_n hx hb dX3_execute_112 rfl (lv_at hl 0 rfl) ?_
    refine r_get hx hb hts hown hw.q 0 2 hin3 rfl rfl (by decide) k26 rfl dX3_execute_113 ?_
    refine r_getN hx hb hts hown hw.q 10 4 hin2 rfl rfl (by decide) (hz.at 5 rfl) rfl dX3_execute_116 ?_
    refine lv_aload_n hx hb dX3_execute_119 rfl (lv_at hl 0 rfl) ?_
    refine r_get hx hb hts hown hw.q 0 2 hin3 rfl rfl (by decide) k26 rfl dX3_execute_120 ?_
    refine r_getN hx hb hts hown hw.q 10 5 hin2 rfl rfl (by decide) (hz.at 6 rfl) rfl dX3_execute_123 ?_
    refine lv_iconst (v := nI 0) hx hb dX3_execute_126 kc_iconst_0 ?_
    refine lv_aload_n hx hb dX3_execute_127 rfl (lv_at hl 0 rfl) ?_
    refine r_get hx hb hts hown hw.q 0 2 hin3 rfl rfl (by decide) k26 rfl dX3_execute_128 ?_
    refine r_getN hx hb hts hown hw.q 10 6 hin2 rfl rfl (by decide) (hz.at 7 rfl) rfl dX3_execute_131 ?_
    refine cp_Vi (As := [.int (nI r), .int (nI w), .int (nI 0), .int nu]) (rest := []) (wc := wS cI q st) (wr := [(x9, .inr (3, [.ref (q 0), .ref (h9 0), .ref (t9 0)]))] ++ wR cR h9 (fr7 ad n8) ol n7 ++ wT cC t9 tx ln po (nI kc) (nI r) (nI w) nu) S (c_X1_putValue l D (sz := s.heap.size) (cI := cI) (q := q) (st := st) (r := r) (w := w) (g := 0) (v := nu) (hr := by omega) (hw5 := by omega) (hg := by omega)) (cwV 4 hts gX3_execute_X1_putValue rfl rfl rfl (by decide +kernel) ⟨Nat.le_of_ble_eq_true rfl, Nat.le_of_ble_eq_true rfl⟩) hw hA [1, 2, 3, 4, 5, 6, 7] [0, 8, 9, 10, 11] [0] rfl rfl (k0 := 12) rfl (by decide) rfl 0 rfl rfl rfl hl.1 (Nat.le_of_ble_eq_true rfl) ⟨Nat.le_of_ble_eq_true rfl, Nat.le_of_ble_eq_true rfl⟩ rfl dX3_execute_134 (fun r_134 u_134 H locs e_134 hw => ?_)
    have hw : Wd D A [(cI, .int), (cR, .object RX1), (cC, .char)] (wS cI q (putS st r w 0 nu) ++ [(x9, .inr (3, [.ref (q 0), .ref (h9 0), .ref (t9 0)]))] ++ wR cR h9 (fr7 ad n8) ol n7 ++ wT cC t9 tx ln po (nI kc) (nI r) (nI w) nu ++ wP cI ad sv n8) s s.heap H locs := hw
    have e_134 : r_134 = nI (cntE st.1 (r * 480 + w * 80 + 0 * 4) 4) := e_134
    subst e_134
    refine lv_pop hx hb dX3_execute_137 rfl ?_
    refine lv_goto (tgt := 352) hx hb dX3_execute_138 (by decide) ?_
    have hw : Wd D A [(cI, .int), (cR, .object RX1), (cC, .char)] ([(x9, .inr (3, [.ref (q 0), .ref (h9 0), .ref (t9 0)]))] ++ wS cI q (putS st r w 0 nu) ++ wR cR h9 (fr7 ad n8) ol n7 ++ wT cC t9 tx ln po (nI kc) (nI r) (nI w) nu ++ wP cI ad sv n8) s s.heap H locs := hw.ord [7, 0, 1, 2, 3, 4, 5, 6, 8, 9, 10, 11] (k0 := 12) rfl rfl (by decide)
    have hd9 : dsS st kc r w nu e9 = (putS st r w 0 nu) := by rw [dsS, if_neg (show ¬ kc = 97 by omega), if_neg (show ¬ kc = 100 by omega), if_neg (show ¬ kc = 101 by omega), if_neg (show ¬ kc = 103 by omega), if_neg (show ¬ kc = 105 by omega), if_pos hk8]
    have hw : Wd D A [(cI, .int), (cR, .object RX1), (cC, .char)] ([(x9, .inr (3, [.ref (q 0), .ref (h9 0), .ref (t9 0)]))] ++ wS cI q (dsS st kc r w nu e9) ++ wR cR h9 (fr7 ad n8) ol n7 ++ wT cC t9 tx ln po (nI kc) (nI r) (nI w) nu ++ wP cI ad sv n8) s s.heap H locs := by rw [hd9]; exact hw
    exact hE () dX3_execute_352 (Nat.le_of_ble_eq_true rfl) (Nat.le_of_ble_eq_true rfl) ⟨⟨hw.1.1, fun k q hk => by cases hk⟩, hw.2.1, hw.2.2.1, hw.2.2.2⟩ trivial
  ·
    refine r_top hx (show nI kc = nI 109 from congrArg nI hk8) ?_
    refine lv_tableIn (off := 320) (tgt := 327) hx hb dX3_execute_7 (by decide) (by decide) (by decide) (by decide) ?_
    have hw4 := hm8 hk8
    refine lv_aload_n hx hb dX3_execute_327 rfl (lv_at hl 0 rfl) ?_
    refine r_get hx hb hts hown hw.q 0 0 hin3 rfl rfl (by decide) k10 rfl dX3_execute_328 ?_
    refine lv_aload_n hx hb dX3_execute_331 rfl (lv_at hl 0 rfl) ?_
    refine r_get hx hb hts hown hw.q 0 2 hin3 rfl rfl (by decide) k26 rfl dX3_execute_332 ?_
    refine r_getN hx hb hts hown hw.q 10 4 hin2 rfl rfl (by decide) (hz.at 5 rfl) rfl dX3_execute_335 ?_
    refine lv_aload_n hx hb dX3_execute_338 rfl (lv_at hl 0 rfl) ?_
    refine r_get hx hb hts hown hw.q 0 2 hin3 rfl rfl (by decide) k26 rfl dX3_execute_339 ?_
    refine r_getN hx hb hts hown hw.q 10 5 hin2 rfl rfl (by decide) (hz.at 6 rfl) rfl dX3_execute_342 ?_
    refine cp_Vi (As := [.int (nI r), .int (nI w)]) (rest := []) (wc := wS cI q st) (wr := [(x9, .inr (3, [.ref (q 0), .ref (h9 0), .ref (t9 0)]))] ++ wR cR h9 (fr7 ad n8) ol n7 ++ wT cC t9 tx ln po (nI kc) (nI r) (nI w) nu) S (c_X1_mergeReplica l D (sz := s.heap.size) (cI := cI) (q := q) (st := st) (f := r) (t := w) (hf4 := by omega) (ht4 := by omega)) (cwV 2 hts gX3_execute_X1_mergeReplica rfl rfl rfl (by decide +kernel) ⟨Nat.le_of_ble_eq_true rfl, Nat.le_of_ble_eq_true rfl⟩) hw hA [1, 2, 3, 4, 5, 6, 7] [0, 8, 9, 10, 11] [0] rfl rfl (k0 := 12) rfl (by decide) rfl 0 rfl rfl rfl hl.1 (Nat.le_of_ble_eq_true rfl) ⟨Nat.le_of_ble_eq_true rfl, Nat.le_of_ble_eq_true rfl⟩ rfl dX3_execute_345 (fun r_345 u_345 H locs e_345 hw => ?_)
    have hw : Wd D A [(cI, .int), (cR, .object RX1), (cC, .char)] (wS cI q (mgS st r w) ++ [(x9, .inr (3, [.ref (q 0), .ref (h9 0), .ref (t9 0)]))] ++ wR cR h9 (fr7 ad n8) ol n7 ++ wT cC t9 tx ln po (nI kc) (nI r) (nI w) nu ++ wP cI ad sv n8) s s.heap H locs := hw
    have e_345 : r_345 = nI (cntP (fun o => addP st r w o) 480 + cntP (fun o => remP st r w o) 480) := e_345
    subst e_345
    refine lv_pop hx hb dX3_execute_348 rfl ?_
    refine lv_goto (tgt := 352) hx hb dX3_execute_349 (by decide) ?_
    have hw : Wd D A [(cI, .int), (cR, .object RX1), (cC, .char)] ([(x9, .inr (3, [.ref (q 0), .ref (h9 0), .ref (t9 0)]))] ++ wS cI q (mgS st r w) ++ wR cR h9 (fr7 ad n8) ol n7 ++ wT cC t9 tx ln po (nI kc) (nI r) (nI w) nu ++ wP cI ad sv n8) s s.heap H locs := hw.ord [7, 0, 1, 2, 3, 4, 5, 6, 8, 9, 10, 11] (k0 := 12) rfl rfl (by decide)
    have hd9 : dsS st kc r w nu e9 = (mgS st r w) := by rw [dsS, if_neg (show ¬ kc = 97 by omega), if_neg (show ¬ kc = 100 by omega), if_neg (show ¬ kc = 101 by omega), if_neg (show ¬ kc = 103 by omega), if_neg (show ¬ kc = 105 by omega), if_neg (show ¬ kc = 108 by omega), if_neg (show ¬ kc = 118 by omega)]
    have hw : Wd D A [(cI, .int), (cR, .object RX1), (cC, .char)] ([(x9, .inr (3, [.ref (q 0), .ref (h9 0), .ref (t9 0)]))] ++ wS cI q (dsS st kc r w nu e9) ++ wR cR h9 (fr7 ad n8) ol n7 ++ wT cC t9 tx ln po (nI kc) (nI r) (nI w) nu ++ wP cI ad sv n8) s s.heap H locs := by rw [hd9]; exact hw
    exact hE () dX3_execute_352 (Nat.le_of_ble_eq_true rfl) (Nat.le_of_ble_eq_true rfl) ⟨⟨hw.1.1, fun k q hk => by cases hk⟩, hw.2.1, hw.2.2.1, hw.2.2.2⟩ trivial
  ·
    refine r_top hx (show nI kc = nI 118 from congrArg nI hk8) ?_
    refine lv_tableIn (off := 134) (tgt := 141) hx hb dX3_execute_7 (by decide) (by decide) (by decide) (by decide) ?_
    refine lv_aload_n hx hb dX3_execute_141 rfl (lv_at hl 0 rfl) ?_
    refine r_get hx hb hts hown hw.q 0 0 hin3 rfl rfl (by decide) k10 rfl dX3_execute_142 ?_
    refine lv_aload_n hx hb dX3_execute_145 rfl (lv_at hl 0 rfl) ?_
    refine r_get hx hb hts hown hw.q 0 2 hin3 rfl rfl (by decide) k26 rfl dX3_execute_146 ?_
    refine r_getN hx hb hts hown hw.q 10 4 hin2 rfl rfl (by decide) (hz.at 5 rfl) rfl dX3_execute_149 ?_
    refine lv_aload_n hx hb dX3_execute_152 rfl (lv_at hl 0 rfl) ?_
    refine r_get hx hb hts hown hw.q 0 2 hin3 rfl rfl (by decide) k26 rfl dX3_execute_153 ?_
    refine r_getN hx hb hts hown hw.q 10 5 hin2 rfl rfl (by decide) (hz.at 6 rfl) rfl dX3_execute_156 ?_
    refine lv_iconst (v := nI 1) hx hb dX3_execute_159 kc_iconst_1 ?_
    refine lv_aload_n hx hb dX3_execute_160 rfl (lv_at hl 0 rfl) ?_
    refine r_get hx hb hts hown hw.q 0 2 hin3 rfl rfl (by decide) k26 rfl dX3_execute_161 ?_
    refine r_getN hx hb hts hown hw.q 10 6 hin2 rfl rfl (by decide) (hz.at 7 rfl) rfl dX3_execute_164 ?_
    refine cp_Vi (As := [.int (nI r), .int (nI w), .int (nI 1), .int nu]) (rest := []) (wc := wS cI q st) (wr := [(x9, .inr (3, [.ref (q 0), .ref (h9 0), .ref (t9 0)]))] ++ wR cR h9 (fr7 ad n8) ol n7 ++ wT cC t9 tx ln po (nI kc) (nI r) (nI w) nu) S (c_X1_putValue l D (sz := s.heap.size) (cI := cI) (q := q) (st := st) (r := r) (w := w) (g := 1) (v := nu) (hr := by omega) (hw5 := by omega) (hg := by omega)) (cwV 4 hts gX3_execute_X1_putValue rfl rfl rfl (by decide +kernel) ⟨Nat.le_of_ble_eq_true rfl, Nat.le_of_ble_eq_true rfl⟩) hw hA [1, 2, 3, 4, 5, 6, 7] [0, 8, 9, 10, 11] [0] rfl rfl (k0 := 12) rfl (by decide) rfl 0 rfl rfl rfl hl.1 (Nat.le_of_ble_eq_true rfl) ⟨Nat.le_of_ble_eq_true rfl, Nat.le_of_ble_eq_true rfl⟩ rfl dX3_execute_167 (fun r_167 u_167 H locs e_167 hw => ?_)
    have hw : Wd D A [(cI, .int), (cR, .object RX1), (cC, .char)] (wS cI q (putS st r w 1 nu) ++ [(x9, .inr (3, [.ref (q 0), .ref (h9 0), .ref (t9 0)]))] ++ wR cR h9 (fr7 ad n8) ol n7 ++ wT cC t9 tx ln po (nI kc) (nI r) (nI w) nu ++ wP cI ad sv n8) s s.heap H locs := hw
    have e_167 : r_167 = nI (cntE st.1 (r * 480 + w * 80 + 1 * 4) 4) := e_167
    subst e_167
    refine lv_pop hx hb dX3_execute_170 rfl ?_
    refine lv_goto (tgt := 352) hx hb dX3_execute_171 (by decide) ?_
    have hw : Wd D A [(cI, .int), (cR, .object RX1), (cC, .char)] ([(x9, .inr (3, [.ref (q 0), .ref (h9 0), .ref (t9 0)]))] ++ wS cI q (putS st r w 1 nu) ++ wR cR h9 (fr7 ad n8) ol n7 ++ wT cC t9 tx ln po (nI kc) (nI r) (nI w) nu ++ wP cI ad sv n8) s s.heap H locs := hw.ord [7, 0, 1, 2, 3, 4, 5, 6, 8, 9, 10, 11] (k0 := 12) rfl rfl (by decide)
    have hd9 : dsS st kc r w nu e9 = (putS st r w 1 nu) := by rw [dsS, if_neg (show ¬ kc = 97 by omega), if_neg (show ¬ kc = 100 by omega), if_neg (show ¬ kc = 101 by omega), if_neg (show ¬ kc = 103 by omega), if_neg (show ¬ kc = 105 by omega), if_neg (show ¬ kc = 108 by omega), if_pos hk8]
    have hw : Wd D A [(cI, .int), (cR, .object RX1), (cC, .char)] ([(x9, .inr (3, [.ref (q 0), .ref (h9 0), .ref (t9 0)]))] ++ wS cI q (dsS st kc r w nu e9) ++ wR cR h9 (fr7 ad n8) ol n7 ++ wT cC t9 tx ln po (nI kc) (nI r) (nI w) nu ++ wP cI ad sv n8) s s.heap H locs := by rw [hd9]; exact hw
    exact hE () dX3_execute_352 (Nat.le_of_ble_eq_true rfl) (Nat.le_of_ble_eq_true rfl) ⟨⟨hw.1.1, fun k q hk => by cases hk⟩, hw.2.1, hw.2.2.1, hw.2.2.2⟩ trivial
