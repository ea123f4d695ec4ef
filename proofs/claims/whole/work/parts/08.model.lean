abbrev rmX4_in : Room := { frames := 0, cells := 0, slots := 0, locals := 0 }
set_option maxHeartbeats 4000000 in
set_option maxRecDepth 100000 in
theorem c_X4_in (l : Launch) (D : va_G) (x lo hi : Int32) : MQi l yX4_in wsX4_in rmX4_in [.int x, .int lo, .int hi] D [] ([]) (fun rz => rz = b2 (inP x lo hi)) := by
  refine met_q (own := RX4) (cc := cX4_in) (maxL := 3) (ty := .boolean) (by decide) rfl rfl (Nat.le_of_ble_eq_true rfl) ?_
  intro p e s m args below meth c Q S hq hE ls hl
  obtain ⟨hx, hb, hml, hown, hts⟩ := id S
  have hl : lv_has ls 3 [(0, .int x), (1, .int lo), (2, .int hi)] := hl
  refine lv_iload_n hx hb dX4_in_0 rfl (lv_at hl 0 rfl) ?_
  refine lv_iload_n hx hb dX4_in_1 rfl (lv_at hl 1 rfl) ?_
  refine lv_icmp_lt (tgt := 14) hx hb dX4_in_2 (by decide) (fun c_2 => ?_) (fun c_2 => ?_)
  ·
    refine lv_iconst (v := nI 0) hx hb dX4_in_14 kc_iconst_0 ?_
    exact hE dX4_in_15 (by first | rfl | exact b2_nz) (ret0 (fun h => by first | exact absurd h.1 (Int32.not_le.mpr c_2) | exact absurd h.2 (Int32.not_le.mpr c_7)))
  ·
    refine lv_iload_n hx hb dX4_in_5 rfl (lv_at hl 0 rfl) ?_
    refine lv_iload_n hx hb dX4_in_6 rfl (lv_at hl 2 rfl) ?_
    refine lv_icmp_gt (tgt := 14) hx hb dX4_in_7 (by decide) (fun c_7 => ?_) (fun c_7 => ?_)
    ·
      refine lv_iconst (v := nI 0) hx hb dX4_in_14 kc_iconst_0 ?_
      exact hE dX4_in_15 (by first | rfl | exact b2_nz) (ret0 (fun h => by first | exact absurd h.1 (Int32.not_le.mpr c_2) | exact absurd h.2 (Int32.not_le.mpr c_7)))
    ·
      refine lv_iconst (v := nI 1) hx hb dX4_in_10 kc_iconst_1 ?_
      refine lv_goto (tgt := 15) hx hb dX4_in_11 (by decide) ?_
      exact hE dX4_in_15 (by first | rfl | exact b2_nz) (ret1 (⟨Int32.not_lt.mp c_2, Int32.not_lt.mp c_7⟩))
abbrev rmX4_isReplica : Room := { frames := 1, cells := 0, slots := 0, locals := 22 }
set_option maxHeartbeats 4000000 in
set_option maxRecDepth 100000 in
theorem c_X4_isReplica (l : Launch) (D : va_G) (x : Int32) : MQi l yX4_isReplica wsX4_isReplica rmX4_isReplica [.int x] D [] ([]) (fun rz => rz = b2 (inP x (nI 0) (nI 3))) := by
  refine met_q (own := RX4) (cc := cX4_isReplica) (maxL := 1) (ty := .boolean) (by decide) rfl rfl (Nat.le_of_ble_eq_true rfl) ?_
  intro p e s m args below meth c Q S hq hE ls hl
  obtain ⟨hx, hb, hml, hown, hts⟩ := id S
  have hl : lv_has ls 1 [(0, .int x)] := hl
  refine lv_iload_n hx hb dX4_isReplica_0 rfl (lv_at hl 0 rfl) ?_
  refine lv_iconst (v := nI 0) hx hb dX4_isReplica_1 kc_iconst_0 ?_
  refine lv_iconst (v := nI 3) hx hb dX4_isReplica_2 kc_iconst_3 ?_
  refine cq_S (As := [.int x, .int (nI 0), .int (nI 3)]) (rest := []) S (c_X4_in l D (x := x) (lo := nI 0) (hi := nI 3)) (va_cwS 3 hts gX4_isReplica_X4_in rfl rfl rfl (by decide +kernel) ⟨Nat.le_of_ble_eq_true rfl, Nat.le_of_ble_eq_true rfl⟩) (hq.sub [] [] rfl rfl) rfl hl.1 (Nat.le_of_ble_eq_true rfl) ⟨Nat.le_of_ble_eq_true rfl, Nat.le_of_ble_eq_true rfl⟩ rfl dX4_isReplica_3 (fun r_3 e_3 => ?_)
  have e_3 : r_3 = b2 (inP x (nI 0) (nI 3)) := e_3
  subst e_3
  exact hE dX4_isReplica_6 (by first | rfl | exact b2_nz) (show b2 (inP x (nI 0) (nI 3)) = b2 (inP x (nI 0) (nI 3)) from rfl)
abbrev rmX4_isRow : Room := { frames := 2, cells := 0, slots := 0, locals := 42 }
set_option maxHeartbeats 4000000 in
set_option maxRecDepth 100000 in
theorem c_X4_isRow (l : Launch) (D : va_G) (x y : Int32) : MQi l yX4_isRow wsX4_isRow rmX4_isRow [.int x, .int y] D [] ([]) (fun rz => rz = b2 (inP x (nI 0) (nI 3) ∧ inP y (nI 0) (nI 5))) := by
  refine met_q (own := RX4) (cc := cX4_isRow) (maxL := 2) (ty := .boolean) (by decide) rfl rfl (Nat.le_of_ble_eq_true rfl) ?_
  intro p e s m args below meth c Q S hq hE ls hl
  obtain ⟨hx, hb, hml, hown, hts⟩ := id S
  have hl : lv_has ls 2 [(0, .int x), (1, .int y)] := hl
  refine lv_iload_n hx hb dX4_isRow_0 rfl (lv_at hl 0 rfl) ?_
  refine cq_S (As := [.int x]) (rest := []) S (c_X4_isReplica l D (x := x)) (va_cwS 1 hts gX4_isRow_X4_isReplica rfl rfl rfl (by decide +kernel) ⟨Nat.le_of_ble_eq_true rfl, Nat.le_of_ble_eq_true rfl⟩) (hq.sub [] [] rfl rfl) rfl hl.1 (Nat.le_of_ble_eq_true rfl) ⟨Nat.le_of_ble_eq_true rfl, Nat.le_of_ble_eq_true rfl⟩ rfl dX4_isRow_1 (fun r_1 e_1 => ?_)
  have e_1 : r_1 = b2 (inP x (nI 0) (nI 3)) := e_1
  subst e_1
  refine r_if_eqB (tgt := 20) hx hb dX4_isRow_4 (by decide) (fun c_4 => ?_) (fun c_4 => ?_)
  ·
    refine lv_iconst (v := nI 0) hx hb dX4_isRow_20 kc_iconst_0 ?_
    exact hE dX4_isRow_21 (by first | rfl | exact b2_nz) (ret0 (fun h => by first | exact c_4 h.1 | exact c_13 h.2))
  ·
    refine lv_iload_n hx hb dX4_isRow_7 rfl (lv_at hl 1 rfl) ?_
    refine lv_iconst (v := nI 0) hx hb dX4_isRow_8 kc_iconst_0 ?_
    refine lv_iconst (v := nI 5) hx hb dX4_isRow_9 kc_iconst_5 ?_
    refine cq_S (As := [.int y, .int (nI 0), .int (nI 5)]) (rest := []) S (c_X4_in l D (x := y) (lo := nI 0) (hi := nI 5)) (va_cwS 3 hts gX4_isRow_X4_in rfl rfl rfl (by decide +kernel) ⟨Nat.le_of_ble_eq_true rfl, Nat.le_of_ble_eq_true rfl⟩) (hq.sub [] [] rfl rfl) rfl hl.1 (Nat.le_of_ble_eq_true rfl) ⟨Nat.le_of_ble_eq_true rfl, Nat.le_of_ble_eq_true rfl⟩ rfl dX4_isRow_10 (fun r_10 e_10 => ?_)
    have e_10 : r_10 = b2 (inP y (nI 0) (nI 5)) := e_10
    subst e_10
    refine r_if_eqB (tgt := 20) hx hb dX4_isRow_13 (by decide) (fun c_13 => ?_) (fun c_13 => ?_)
    ·
      refine lv_iconst (v := nI 0) hx hb dX4_isRow_20 kc_iconst_0 ?_
      exact hE dX4_isRow_21 (by first | rfl | exact b2_nz) (ret0 (fun h => by first | exact c_4 h.1 | exact c_13 h.2))
    ·
      refine lv_iconst (v := nI 1) hx hb dX4_isRow_16 kc_iconst_1 ?_
      refine lv_goto (tgt := 21) hx hb dX4_isRow_17 (by decide) ?_
      exact hE dX4_isRow_21 (by first | rfl | exact b2_nz) (ret1 (⟨c_4, c_13⟩))
abbrev rmX4_holds : Room := { frames := 0, cells := 0, slots := 0, locals := 0 }
set_option maxHeartbeats 4000000 in
set_option maxRecDepth 100000 in
theorem c_X4_holds (l : Launch) (D : va_G) (sz : Nat) (cI : ClassId) (m9 : Nat → Nat) (sa : Nat → Int32) (tx : Nat → Nat) (th : Int32) (sv ln po : Nat) (lt fi sc nu : Int32) (ad rv : Nat) (x : Int32) : MUi l yX4_holds wsX4_holds rmX4_holds [.ref (m9 0), .int x] D [(cI, .int)] (wM cI m9 sa tx th sv ln po lt fi sc nu ad rv) sz (fun rz (_ : Unit) => rz = b2 (x = 0)) (fun _ => []) (fun _ => wM cI m9 sa tx x sv ln po lt fi sc nu ad rv) 0 0 := by
  refine met_u (own := RX4) (cc := cX4_holds) (maxL := 2) (ty := .boolean) (by decide) rfl rfl (Nat.le_of_ble_eq_true rfl) ?_
  intro p e s m args below meth c Q A hsz S hw hA hE ls hl
  obtain ⟨hx, hb, hml, hown, hts⟩ := id S
  have k16 := hts (.fieldLink RX4 16 "CausalTableModel" "thrown" "I") (by decide +kernel)
  have hin4 := (show ∀ w ∈ wsX40, w ∈ wsX4_holds by decide +kernel)
  have hl : lv_has ls 2 [(0, .ref (m9 0)), (1, .int x)] := hl
  refine lv_aload_n hx hb dX4_holds_0 rfl (lv_at hl 0 rfl) ?_
  refine lv_iload_n hx hb dX4_holds_1 rfl (lv_at hl 1 rfl) ?_
  refine r_put hx hb hts hown hw 0 0 (ty := .int) tyX4 tyX4_ok nmX4 hin4 rfl rfl (by decide) k16 rfl (by decide +kernel) rfl rfl (Nat.le_of_ble_eq_true rfl) dX4_holds_2 (fun H locs hw => ?_)
  have hw : Wd D A [(cI, .int)] (wM cI m9 sa tx x sv ln po lt fi sc nu ad rv) s s.heap H locs := hw
  refine lv_iload_n hx hb dX4_holds_5 rfl (lv_at hl 1 rfl) ?_
  refine lv_if_ne (tgt := 13) hx hb dX4_holds_6 (by decide) (fun c_6 => ?_) (fun c_6 => ?_)
  ·
    refine lv_iconst (v := nI 0) hx hb dX4_holds_13 kc_iconst_0 ?_
    exact hE () dX4_holds_14 (by first | rfl | exact b2_nz) (Nat.le_of_ble_eq_true rfl) (Nat.le_of_ble_eq_true rfl) (hw.sub [0, 1, 2] [] (by decide) rfl rfl) (show nI 0 = b2 (x = 0) from by first | exact ret1 c_6 | exact ret0 c_6)
  ·
    refine lv_iconst (v := nI 1) hx hb dX4_holds_9 kc_iconst_1 ?_
    refine lv_goto (tgt := 14) hx hb dX4_holds_10 (by decide) ?_
    exact hE () dX4_holds_14 (by first | rfl | exact b2_nz) (Nat.le_of_ble_eq_true rfl) (Nat.le_of_ble_eq_true rfl) (hw.sub [0, 1, 2] [] (by decide) rfl rfl) (show nI 1 = b2 (x = 0) from by first | exact ret1 c_6 | exact ret0 c_6)
abbrev rmX4_place : Room := { frames := 0, cells := 0, slots := 0, locals := 0 }
set_option maxHeartbeats 4000000 in
set_option maxRecDepth 100000 in
theorem c_X4_place (l : Launch) (D : va_G) (r w c9 k9 : Nat) : MQi l yX4_place wsX4_place rmX4_place [.int (nI r), .int (nI w), .int (nI c9), .int (nI k9)] D [] ([]) (fun rz => rz = nI (4 * (4 * (6 * r + w) + c9) + k9)) := by
  refine met_q (own := RX4) (cc := cX4_place) (maxL := 4) (ty := .int) (by decide) rfl rfl (Nat.le_of_ble_eq_true rfl) ?_
  intro p e s m args below meth c Q S hq hE ls hl
  obtain ⟨hx, hb, hml, hown, hts⟩ := id S
  have hl : lv_has ls 4 [(0, .int (nI r)), (1, .int (nI w)), (2, .int (nI c9)), (3, .int (nI k9))] := hl
  refine lv_iconst (v := nI 4) hx hb dX4_place_0 kc_iconst_4 ?_
  refine lv_iconst (v := nI 4) hx hb dX4_place_1 kc_iconst_4 ?_
  refine lv_bipush (v := nI 6) hx hb dX4_place_2 kc_bipush_6 ?_
  refine lv_iload_n hx hb dX4_place_4 rfl (lv_at hl 0 rfl) ?_
  refine r_mulN hx hb dX4_place_5 ?_
  refine lv_iload_n hx hb dX4_place_6 rfl (lv_at hl 1 rfl) ?_
  refine r_addN hx hb dX4_place_7 ?_
  refine r_mulN hx hb dX4_place_8 ?_
  refine lv_iload_n hx hb dX4_place_9 rfl (lv_at hl 2 rfl) ?_
  refine r_addN hx hb dX4_place_10 ?_
  refine r_mulN hx hb dX4_place_11 ?_
  refine lv_iload_n hx hb dX4_place_12 rfl (lv_at hl 3 rfl) ?_
  refine r_addN hx hb dX4_place_13 ?_
  exact hE dX4_place_14 (rfl) (show nI ((4 * ((4 * ((6 * r) + w)) + c9)) + k9) = nI (4 * (4 * (6 * r + w) + c9) + k9) from by first | rfl | (congr <;> omega) | simp_all)
abbrev rmX4_stampPlace : Room := { frames := 0, cells := 0, slots := 0, locals := 0 }
set_option maxHeartbeats 4000000 in
set_option maxRecDepth 100000 in
theorem c_X4_stampPlace (l : Launch) (D : va_G) (r w k9 : Nat) : MQi l yX4_stampPlace wsX4_stampPlace rmX4_stampPlace [.int (nI r), .int (nI w), .int (nI k9)] D [] ([]) (fun rz => rz = nI (792 + 4 * (6 * r + w) + k9)) := by
  refine met_q (own := RX4) (cc := cX4_stampPlace) (maxL := 3) (ty := .int) (by decide) rfl rfl (Nat.le_of_ble_eq_true rfl) ?_
  intro p e s m args below meth c Q S hq hE ls hl
  obtain ⟨hx, hb, hml, hown, hts⟩ := id S
  have hl : lv_has ls 3 [(0, .int (nI r)), (1, .int (nI w)), (2, .int (nI k9))] := hl
  refine lv_sipush (v := nI 792) hx hb dX4_stampPlace_0 kc_sipush_792 ?_
  refine lv_iconst (v := nI 4) hx hb dX4_stampPlace_3 kc_iconst_4 ?_
  refine lv_bipush (v := nI 6) hx hb dX4_stampPlace_4 kc_bipush_6 ?_
  refine lv_iload_n hx hb dX4_stampPlace_6 rfl (lv_at hl 0 rfl) ?_
  refine r_mulN hx hb dX4_stampPlace_7 ?_
  refine lv_iload_n hx hb dX4_stampPlace_8 rfl (lv_at hl 1 rfl) ?_
  refine r_addN hx hb dX4_stampPlace_9 ?_
  refine r_mulN hx hb dX4_stampPlace_10 ?_
  refine r_addN hx hb dX4_stampPlace_11 ?_
  refine lv_iload_n hx hb dX4_stampPlace_12 rfl (lv_at hl 2 rfl) ?_
  refine r_addN hx hb dX4_stampPlace_13 ?_
  exact hE dX4_stampPlace_14 (rfl) (show nI ((792 + (4 * ((6 * r) + w))) + k9) = nI (792 + 4 * (6 * r + w) + k9) from by first | rfl | (congr <;> omega) | simp_all)
abbrev rmX4_elementPlace : Room := { frames := 0, cells := 0, slots := 0, locals := 0 }
set_option maxHeartbeats 4000000 in
set_option maxRecDepth 100000 in
theorem c_X4_elementPlace (l : Launch) (D : va_G) (r w c9 k9 : Nat) : MQi l yX4_elementPlace wsX4_elementPlace rmX4_elementPlace [.int (nI r), .int (nI w), .int (nI c9), .int (nI k9)] D [] ([]) (fun rz => rz = nI (888 + 4 * (16 * (6 * r + w) + c9) + k9)) := by
  refine met_q (own := RX4) (cc := cX4_elementPlace) (maxL := 4) (ty := .int) (by decide) rfl rfl (Nat.le_of_ble_eq_true rfl) ?_
  intro p e s m args below meth c Q S hq hE ls hl
  obtain ⟨hx, hb, hml, hown, hts⟩ := id S
  have hl : lv_has ls 4 [(0, .int (nI r)), (1, .int (nI w)), (2, .int (nI c9)), (3, .int (nI k9))] := hl
  refine lv_sipush (v := nI 888) hx hb dX4_elementPlace_0 kc_sipush_888 ?_
  refine lv_iconst (v := nI 4) hx hb dX4_elementPlace_3 kc_iconst_4 ?_
  refine lv_bipush (v := nI 16) hx hb dX4_elementPlace_4 kc_bipush_16 ?_
  refine lv_bipush (v := nI 6) hx hb dX4_elementPlace_6 kc_bipush_6 ?_
  refine lv_iload_n hx hb dX4_elementPlace_8 rfl (lv_at hl 0 rfl) ?_
  refine r_mulN hx hb dX4_elementPlace_9 ?_
  refine lv_iload_n hx hb dX4_elementPlace_10 rfl (lv_at hl 1 rfl) ?_
  refine r_addN hx hb dX4_elementPlace_11 ?_
  refine r_mulN hx hb dX4_elementPlace_12 ?_
  refine lv_iload_n hx hb dX4_elementPlace_13 rfl (lv_at hl 2 rfl) ?_
  refine r_addN hx hb dX4_elementPlace_14 ?_
  refine r_mulN hx hb dX4_elementPlace_15 ?_
  refine r_addN hx hb dX4_elementPlace_16 ?_
  refine lv_iload_n hx hb dX4_elementPlace_17 rfl (lv_at hl 3 rfl) ?_
  refine r_addN hx hb dX4_elementPlace_18 ?_
  exact hE dX4_elementPlace_19 (rfl) (show nI ((888 + (4 * ((16 * ((6 * r) + w)) + c9))) + k9) = nI (888 + 4 * (16 * (6 * r + w) + c9) + k9) from by first | rfl | (congr <;> omega) | simp_all)
abbrev rmX4_mark : Room := { frames := 1, cells := 0, slots := 0, locals := 23 }
set_option maxHeartbeats 4000000 in
set_option maxRecDepth 100000 in
theorem c_X4_mark (l : Launch) (D : va_G) (cI : ClassId) (m9 : Nat → Nat) (sa : Nat → Int32) (tx : Nat → Nat) (th : Int32) (sv ln po : Nat) (lt fi sc nu : Int32) (ad rv : Nat) (r w c9 k9 : Nat) (hr : r < 4) (hw5 : w < 6) (hc : c9 < 4) (hk9 : k9 < 4) : MQi l yX4_mark wsX4_mark rmX4_mark [.ref (m9 0), .int (nI r), .int (nI w), .int (nI c9), .int (nI k9)] D [(cI, .int)] (wM cI m9 sa tx th sv ln po lt fi sc nu ad rv) (fun rz => rz = sa (24 + (4 * (4 * (6 * r + w) + c9) + k9))) := by
  refine met_q (own := RX4) (cc := cX4_mark) (maxL := 5) (ty := .int) (by decide) rfl rfl (Nat.le_of_ble_eq_true rfl) ?_
  intro p e s m args below meth c Q S hq hE ls hl
  obtain ⟨hx, hb, hml, hown, hts⟩ := id S
  have k7 := hts (.fieldLink RX4 7 "CausalTableModel" "s" "[I") (by decide +kernel)
  have hin4 := (show ∀ w ∈ wsX40, w ∈ wsX4_mark by decide +kernel)
  have hl : lv_has ls 5 [(0, .ref (m9 0)), (1, .int (nI r)), (2, .int (nI w)), (3, .int (nI c9)), (4, .int (nI k9))] := hl
  refine lv_aload_n hx hb dX4_mark_0 rfl (lv_at hl 0 rfl) ?_
  refine r_get hx hb hts hown hq 0 1 hin4 rfl rfl (by decide) k7 rfl dX4_mark_1 ?_
  refine lv_bipush (v := nI 24) hx hb dX4_mark_4 kc_bipush_24 ?_
  refine lv_iload_n hx hb dX4_mark_6 rfl (lv_at hl 1 rfl) ?_
  refine lv_iload_n hx hb dX4_mark_7 rfl (lv_at hl 2 rfl) ?_
  refine lv_iload_n hx hb dX4_mark_8 rfl (lv_at hl 3 rfl) ?_
  refine lv_iload hx hb dX4_mark_9 (lv_at hl 4 rfl) ?_
  refine cq_S (As := [.int (nI r), .int (nI w), .int (nI c9), .int (nI k9)]) (rest := [.int (nI 24), .ref (m9 1)]) S (c_X4_place l D (r := r) (w := w) (c9 := c9) (k9 := k9)) (va_cwS 4 hts gX4_mark_X4_place rfl rfl rfl (by decide +kernel) ⟨Nat.le_of_ble_eq_true rfl, Nat.le_of_ble_eq_true rfl⟩) (hq.sub [] [] rfl rfl) rfl hl.1 (Nat.le_of_ble_eq_true rfl) ⟨Nat.le_of_ble_eq_true rfl, Nat.le_of_ble_eq_true rfl⟩ rfl dX4_mark_11 (fun r_11 e_11 => ?_)
  have e_11 : r_11 = nI (4 * (4 * (6 * r + w) + c9) + k9) := e_11
  subst e_11
  refine r_addN hx hb dX4_mark_14 ?_
  refine r_ald hx hb hq 1 0 rfl rfl (i := 24 + (4 * (4 * (6 * r + w) + c9) + k9)) (by omega) (by decide) dX4_mark_15 ?_
  exact hE dX4_mark_16 (rfl) (show sa (24 + (4 * (4 * (6 * r + w) + c9) + k9)) = sa (24 + (4 * (4 * (6 * r + w) + c9) + k9)) from by first | rfl | (congr <;> omega) | simp_all)
abbrev rmX4_value : Room := { frames := 1, cells := 0, slots := 0, locals := 23 }
set_option maxHeartbeats 4000000 in
set_option maxRecDepth 100000 in
theorem c_X4_value (l : Launch) (D : va_G) (cI : ClassId) (m9 : Nat → Nat) (sa : Nat → Int32) (tx : Nat → Nat) (th : Int32) (sv ln po : Nat) (lt fi sc nu : Int32) (ad rv : Nat) (r w c9 k9 : Nat) (hr : r < 4) (hw5 : w < 6) (hc : c9 < 4) (hk9 : k9 < 4) : MQi l yX4_value wsX4_value rmX4_value [.ref (m9 0), .int (nI r), .int (nI w), .int (nI c9), .int (nI k9)] D [(cI, .int)] (wM cI m9 sa tx th sv ln po lt fi sc nu ad rv) (fun rz => rz = sa (408 + (4 * (4 * (6 * r + w) + c9) + k9))) := by
  refine met_q (own := RX4) (cc := cX4_value) (maxL := 5) (ty := .int) (by decide) rfl rfl (Nat.le_of_ble_eq_true rfl) ?_
  intro p e s m args below meth c Q S hq hE ls hl
  obtain ⟨hx, hb, hml, hown, hts⟩ := id S
  have k7 := hts (.fieldLink RX4 7 "CausalTableModel" "s" "[I") (by decide +kernel)
  have hin4 := (show ∀ w ∈ wsX40, w ∈ wsX4_value by decide +kernel)
  have hl : lv_has ls 5 [(0, .ref (m9 0)), (1, .int (nI r)), (2, .int (nI w)), (3, .int (nI c9)), (4, .int (nI k9))] := hl
  refine lv_aload_n hx hb dX4_value_0 rfl (lv_at hl 0 rfl) ?_
  refine r_get hx hb hts hown hq 0 1 hin4 rfl rfl (by decide) k7 rfl dX4_value_1 ?_
  refine lv_sipush (v := nI 408) hx hb dX4_value_4 kc_sipush_408 ?_
  refine lv_iload_n hx hb dX4_value_7 rfl (lv_at hl 1 rfl) ?_
  refine lv_iload_n hx hb dX4_value_8 rfl (lv_at hl 2 rfl) ?_
  refine lv_iload_n hx hb dX4_value_9 rfl (lv_at hl 3 rfl) ?_
  refine lv_iload hx hb dX4_value_10 (lv_at hl 4 rfl) ?_
  refine cq_S (As := [.int (nI r), .int (nI w), .int (nI c9), .int (nI k9)]) (rest := [.int (nI 408), .ref (m9 1)]) S (c_X4_place l D (r := r) (w := w) (c9 := c9) (k9 := k9)) (va_cwS 4 hts gX4_value_X4_place rfl rfl rfl (by decide +kernel) ⟨Nat.le_of_ble_eq_true rfl, Nat.le_of_ble_eq_true rfl⟩) (hq.sub [] [] rfl rfl) rfl hl.1 (Nat.le_of_ble_eq_true rfl) ⟨Nat.le_of_ble_eq_true rfl, Nat.le_of_ble_eq_true rfl⟩ rfl dX4_value_12 (fun r_12 e_12 => ?_)
  have e_12 : r_12 = nI (4 * (4 * (6 * r + w) + c9) + k9) := e_12
  subst e_12
  refine r_addN hx hb dX4_value_15 ?_
  refine r_ald hx hb hq 1 0 rfl rfl (i := 408 + (4 * (4 * (6 * r + w) + c9) + k9)) (by omega) (by decide) dX4_value_16 ?_
  exact hE dX4_value_17 (rfl) (show sa (408 + (4 * (4 * (6 * r + w) + c9) + k9)) = sa (408 + (4 * (4 * (6 * r + w) + c9) + k9)) from by first | rfl | (congr <;> omega) | simp_all)
abbrev rmX4_seenBy : Room := { frames := 0, cells := 0, slots := 0, locals := 0 }
set_option maxHeartbeats 4000000 in
set_option maxRecDepth 100000 in
theorem c_X4_seenBy (l : Launch) (D : va_G) (cI : ClassId) (m9 : Nat → Nat) (sa : Nat → Int32) (tx : Nat → Nat) (th : Int32) (sv ln po : Nat) (lt fi sc nu : Int32) (ad rv : Nat) (a9 b9 : Nat) (ha9 : a9 < 4) (hb9 : b9 < 4) : MQi l yX4_seenBy wsX4_seenBy rmX4_seenBy [.ref (m9 0), .int (nI a9), .int (nI b9)] D [(cI, .int)] (wM cI m9 sa tx th sv ln po lt fi sc nu ad rv) (fun rz => rz = sa (0 + 4 * a9 + b9)) := by
  refine met_q (own := RX4) (cc := cX4_seenBy) (maxL := 3) (ty := .int) (by decide) rfl rfl (Nat.le_of_ble_eq_true rfl) ?_
  intro p e s m args below meth c Q S hq hE ls hl
  obtain ⟨hx, hb, hml, hown, hts⟩ := id S
  have k7 := hts (.fieldLink RX4 7 "CausalTableModel" "s" "[I") (by decide +kernel)
  have hin4 := (show ∀ w ∈ wsX40, w ∈ wsX4_seenBy by decide +kernel)
  have hl : lv_has ls 3 [(0, .ref (m9 0)), (1, .int (nI a9)), (2, .int (nI b9))] := hl
  refine lv_aload_n hx hb dX4_seenBy_0 rfl (lv_at hl 0 rfl) ?_
  refine r_get hx hb hts hown hq 0 1 hin4 rfl rfl (by decide) k7 rfl dX4_seenBy_1 ?_
  refine lv_iconst (v := nI 0) hx hb dX4_seenBy_4 kc_iconst_0 ?_
  refine lv_iconst (v := nI 4) hx hb dX4_seenBy_5 kc_iconst_4 ?_
  refine lv_iload_n hx hb dX4_seenBy_6 rfl (lv_at hl 1 rfl) ?_
  refine r_mulN hx hb dX4_seenBy_7 ?_
  refine r_addN hx hb dX4_seenBy_8 ?_
  refine lv_iload_n hx hb dX4_seenBy_9 rfl (lv_at hl 2 rfl) ?_
  refine r_addN hx hb dX4_seenBy_10 ?_
  refine r_ald hx hb hq 1 0 rfl rfl (i := (0 + (4 * a9)) + b9) (by omega) (by decide) dX4_seenBy_11 ?_
  exact hE dX4_seenBy_12 (rfl) (show sa ((0 + (4 * a9)) + b9) = sa (0 + 4 * a9 + b9) from by first | rfl | (congr <;> omega) | simp_all)
abbrev rmX4_begins : Room := { frames := 0, cells := 0, slots := 0, locals := 0 }
set_option maxHeartbeats 4000000 in
set_option maxRecDepth 100000 in
theorem c_X4_begins (l : Launch) (D : va_G) (sz : Nat) (cI : ClassId) (m9 : Nat → Nat) (sa : Nat → Int32) (tx : Nat → Nat) (th : Int32) (sv ln po : Nat) (lt fi sc nu : Int32) (ad rv : Nat) (r : Nat) (hr : r < 4) : MUv l yX4_begins wsX4_begins rmX4_begins [.ref (m9 0), .int (nI r)] D [(cI, .int)] (wM cI m9 sa tx th sv ln po lt fi sc nu ad rv) sz (fun (_ : Unit) => True) (fun _ => []) (fun _ => wM cI m9 (bgM sa r) tx th sv ln po lt fi sc nu ad rv) 0 0 := by
  refine met_v (own := RX4) (cc := cX4_begins) (maxL := 2) (by decide) rfl rfl (Nat.le_of_ble_eq_true rfl) ?_
  intro p e s m args below meth c Q A hsz S hmn hw hA hE ls hl
  obtain ⟨hx, hb, hml, hown, hts⟩ := id S
  have k7 := hts (.fieldLink RX4 7 "CausalTableModel" "s" "[I") (by decide +kernel)
  have hin4 := (show ∀ w ∈ wsX40, w ∈ wsX4_begins by decide +kernel)
  have hl : lv_has ls 2 [(0, .ref (m9 0)), (1, .int (nI r))] := hl
  refine lv_aload_n hx hb dX4_begins_0 rfl (lv_at hl 0 rfl) ?_
  refine r_get hx hb hts hown hw.q 0 1 hin4 rfl rfl (by decide) k7 rfl dX4_begins_1 ?_
  refine lv_bipush (v := nI 16) hx hb dX4_begins_4 kc_bipush_16 ?_
  refine lv_iload_n hx hb dX4_begins_6 rfl (lv_at hl 1 rfl) ?_
  refine r_addN hx hb dX4_begins_7 ?_
  refine lv_dup2_11 hx hb dX4_begins_8 rfl rfl ?_
  refine r_ald hx hb hw.q 1 0 rfl rfl (i := 16 + r) (by omega) (by decide) dX4_begins_9 ?_
  refine lv_iconst (v := nI 1) hx hb dX4_begins_10 kc_iconst_1 ?_
  refine lv_iadd hx hb dX4_begins_11 ?_
  refine r_ast hx hb hw 1 0 rfl rfl (i := 16 + r) (by omega) (by decide) dX4_begins_12 (fun H locs hw => ?_)
  have hw : Wd D A [(cI, .int)] (wM cI m9 (upd sa (16 + r) ((sa (16 + r)) + (nI 1))) tx th sv ln po lt fi sc nu ad rv) s s.heap H locs := hw
  refine lv_aload_n hx hb dX4_begins_13 rfl (lv_at hl 0 rfl) ?_
  refine r_get hx hb hts hown hw.q 0 1 hin4 rfl rfl (by decide) k7 rfl dX4_begins_14 ?_
  refine lv_iconst (v := nI 0) hx hb dX4_begins_17 kc_iconst_0 ?_
  refine lv_iconst (v := nI 4) hx hb dX4_begins_18 kc_iconst_4 ?_
  refine lv_iload_n hx hb dX4_begins_19 rfl (lv_at hl 1 rfl) ?_
  refine r_mulN hx hb dX4_begins_20 ?_
  refine r_addN hx hb dX4_begins_21 ?_
  refine lv_iload_n hx hb dX4_begins_22 rfl (lv_at hl 1 rfl) ?_
  refine r_addN hx hb dX4_begins_23 ?_
  refine lv_dup2_11 hx hb dX4_begins_24 rfl rfl ?_
  refine r_ald hx hb hw.q 1 0 rfl rfl (i := (0 + (4 * r)) + r) (by omega) (by decide) dX4_begins_25 ?_
  refine lv_iconst (v := nI 1) hx hb dX4_begins_26 kc_iconst_1 ?_
  refine lv_iadd hx hb dX4_begins_27 ?_
  refine r_ast hx hb hw 1 0 rfl rfl (i := (0 + (4 * r)) + r) (by omega) (by decide) dX4_begins_28 (fun H locs hw => ?_)
  have hw : Wd D A [(cI, .int)] (wM cI m9 (upd (upd sa (16 + r) ((sa (16 + r)) + (nI 1))) ((0 + (4 * r)) + r) (((upd sa (16 + r) ((sa (16 + r)) + (nI 1))) ((0 + (4 * r)) + r)) + (nI 1))) tx th sv ln po lt fi sc nu ad rv) s s.heap H locs := hw
  exact hE () dX4_begins_29 (Nat.le_of_ble_eq_true rfl) (Nat.le_of_ble_eq_true rfl) (hw.sub [0, 1, 2] [] (by decide) rfl rfl) trivial
abbrev rmX4_clears : Room := { frames := 2, cells := 0, slots := 0, locals := 47 }
set_option maxHeartbeats 4000000 in
set_option maxRecDepth 100000 in
theorem c_X4_clears (l : Launch) (D : va_G) (sz : Nat) (cI : ClassId) (m9 : Nat → Nat) (sa : Nat → Int32) (tx : Nat → Nat) (th : Int32) (sv ln po : Nat) (lt fi sc nu : Int32) (ad rv : Nat) (r w c9 : Nat) (hr : r < 4) (hw5 : w < 6) (hc : c9 < 4) : MUi l yX4_clears wsX4_clears rmX4_clears [.ref (m9 0), .int (nI r), .int (nI w), .int (nI c9)] D [(cI, .int)] (wM cI m9 sa tx th sv ln po lt fi sc nu ad rv) sz (fun rz (_ : Unit) => rz = nI (cntG (fun j9 => sa (24 + (4 * (4 * (6 * r + w) + c9) + j9))) 4)) (fun _ => []) (fun _ => wM cI m9 (clrE sa (24 + 4 * (4 * (6 * r + w) + c9)) 4) tx th sv ln po lt fi sc nu ad rv) 0 0 := by
  refine met_u (own := RX4) (cc := cX4_clears) (maxL := 6) (ty := .int) (by decide) rfl rfl (Nat.le_of_ble_eq_true rfl) ?_
  intro p e s m args below meth c Q A hsz S hw hA hE ls hl
  obtain ⟨hx, hb, hml, hown, hts⟩ := id S
  have k7 := hts (.fieldLink RX4 7 "CausalTableModel" "s" "[I") (by decide +kernel)
  have hin4 := (show ∀ w ∈ wsX40, w ∈ wsX4_clears by decide +kernel)
  have hl : lv_has ls 6 [(0, .ref (m9 0)), (1, .int (nI r)), (2, .int (nI w)), (3, .int (nI c9))] := hl
  refine lv_iconst (v := nI 0) hx hb dX4_clears_0 kc_iconst_0 ?_
  refine lv_istore (lv' := [(4, .int (nI 0)), (0, .ref (m9 0)), (1, .int (nI r)), (2, .int (nI w)), (3, .int (nI c9))]) hx hb dX4_clears_1 hl (by decide) rfl (fun ls hl => ?_)
  refine lv_iconst (v := nI 0) hx hb dX4_clears_3 kc_iconst_0 ?_
  refine lv_istore (lv' := [(5, .int (nI 0)), (4, .int (nI 0)), (0, .ref (m9 0)), (1, .int (nI r)), (2, .int (nI w)), (3, .int (nI c9))]) hx hb dX4_clears_4 hl (by decide) rfl (fun ls hl => ?_)
  have L6_1 : ∀ (fu_2 k : Nat), k ≤ 4 → 4 - k < fu_2 → ∀ (H : Heap) (locs : List Loc), Wd D A [(cI, .int)] (wM cI m9 (clrE sa (24 + 4 * (4 * (6 * r + w) + c9)) k) tx th sv ln po lt fi sc nu ad rv) s s.heap H locs → ∀ ls : Array Slot, lv_has ls 6 [(5, .int (nI k)), (4, .int (nI (cntG (fun j9 => sa (24 + (4 * (4 * (6 * r + w) + c9) + j9))) k))), (0, .ref (m9 0)), (1, .int (nI r)), (2, .int (nI w)), (3, .int (nI c9))] → W p l e rmX4_clears s m args below meth c H locs 0 0 Q (F0 m 6 ls []) := by
    intro fu_2
    induction fu_2 with
    | zero => intro k _ h9; exact absurd h9 (Nat.not_lt_zero _)
    | succ fu_2 ih_6 =>
      intro k hk_6 hf_6 H locs hw ls hl
      refine lv_iload hx hb dX4_clears_6 (lv_at hl 0 rfl) ?_
      refine lv_iconst (v := nI 4) hx hb dX4_clears_8 kc_iconst_4 ?_
      refine r_icmp_geN (tgt := 57) hx hb (by omega) (by omega) dX4_clears_9 (by decide) (fun c_9 => ?_) (fun c_9 => ?_)
      ·
        refine lv_iload hx hb dX4_clears_57 (lv_at hl 1 rfl) ?_
        have ew : (wM cI m9 (clrE sa (24 + 4 * (4 * (6 * r + w) + c9)) k) tx th sv ln po lt fi sc nu ad rv) = (wM cI m9 (clrE sa (24 + 4 * (4 * (6 * r + w) + c9)) 4) tx th sv ln po lt fi sc nu ad rv) := by rw [show k = 4 by omega]
        rw [ew] at hw
        exact hE () dX4_clears_59 (rfl) (Nat.le_of_ble_eq_true rfl) (Nat.le_of_ble_eq_true rfl) (hw.sub [0, 1, 2] [] (by decide) rfl rfl) (show nI (cntG (fun j9 => sa (24 + (4 * (4 * (6 * r + w) + c9) + j9))) k) = nI (cntG (fun j9 => sa (24 + (4 * (4 * (6 * r + w) + c9) + j9))) 4) from by rw [show k = 4 by omega])
      ·
        refine lv_iload hx hb dX4_clears_12 (lv_at hl 1 rfl) ?_
        refine lv_aload_n hx hb dX4_clears_14 rfl (lv_at hl 2 rfl) ?_
        refine lv_iload_n hx hb dX4_clears_15 rfl (lv_at hl 3 rfl) ?_
        refine lv_iload_n hx hb dX4_clears_16 rfl (lv_at hl 4 rfl) ?_
        refine lv_iload_n hx hb dX4_clears_17 rfl (lv_at hl 5 rfl) ?_
        refine lv_iload hx hb dX4_clears_18 (lv_at hl 0 rfl) ?_
        refine cq_V (As := [.int (nI r), .int (nI w), .int (nI c9), .int (nI k)]) (rest := [.int (nI (cntG (fun j9 => sa (24 + (4 * (4 * (6 * r + w) + c9) + j9))) k))]) S (c_X4_mark l D (cI := cI) (m9 := m9) (sa := clrE sa (24 + 4 * (4 * (6 * r + w) + c9)) k) (tx := tx) (th := th) (sv := sv) (ln := ln) (po := po) (lt := lt) (fi := fi) (sc := sc) (nu := nu) (ad := ad) (rv := rv) (r := r) (w := w) (c9 := c9) (k9 := k) (hr := by omega) (hw5 := by omega) (hc := by omega) (hk9 := by omega)) (cwV 4 hts gX4_clears_X4_mark rfl rfl rfl (by decide +kernel) ⟨Nat.le_of_ble_eq_true rfl, Nat.le_of_ble_eq_true rfl⟩) (hw.q.sub [0, 1, 2] [0] rfl rfl) 0 rfl rfl rfl hl.1 (Nat.le_of_ble_eq_true rfl) ⟨Nat.le_of_ble_eq_true rfl, Nat.le_of_ble_eq_true rfl⟩ rfl dX4_clears_20 (fun r_20 e_20 => ?_)
        have e_20 : r_20 = sa (24 + (4 * (4 * (6 * r + w) + c9) + k)) := e_20.trans (clrE_out (by omega))
        subst e_20
        have J31_3 : ∀ ls : Array Slot, lv_has ls 6 [(5, .int (nI k)), (4, .int (nI (cntG (fun j9 => sa (24 + (4 * (4 * (6 * r + w) + c9) + j9))) k))), (0, .ref (m9 0)), (1, .int (nI r)), (2, .int (nI w)), (3, .int (nI c9))] → W p l e rmX4_clears s m args below meth c H locs 0 0 Q (F0 m 31 ls [.int (nI (if sa (24 + (4 * (4 * (6 * r + w) + c9) + k)) ≤ 0 then 0 else 1)), .int (nI (cntG (fun j9 => sa (24 + (4 * (4 * (6 * r + w) + c9) + j9))) k))]) := by
          intro ls hl
          refine r_addN hx hb dX4_clears_31 ?_
          refine lv_istore (lv' := [(4, .int (nI ((cntG (fun j9 => sa (24 + (4 * (4 * (6 * r + w) + c9) + j9))) k) + (if sa (24 + (4 * (4 * (6 * r + w) + c9) + k)) ≤ 0 then 0 else 1)))), (5, .int (nI k)), (0, .ref (m9 0)), (1, .int (nI r)), (2, .int (nI w)), (3, .int (nI c9))]) hx hb dX4_clears_32 hl (by decide) rfl (fun ls hl => ?_)
          refine lv_aload_n hx hb dX4_clears_34 rfl (lv_at hl 2 rfl) ?_
          refine r_get hx hb hts hown hw.q 0 1 hin4 rfl rfl (by decide) k7 rfl dX4_clears_35 ?_
          refine lv_bipush (v := nI 24) hx hb dX4_clears_38 kc_bipush_24 ?_
          refine lv_iload_n hx hb dX4_clears_40 rfl (lv_at hl 3 rfl) ?_
          refine lv_iload_n hx hb dX4_clears_41 rfl (lv_at hl 4 rfl) ?_
          refine lv_iload_n hx hb dX4_clears_42 rfl (lv_at hl 5 rfl) ?_
          refine lv_iload hx hb dX4_clears_43 (lv_at hl 1 rfl) ?_
          refine cq_S (As := [.int (nI r), .int (nI w), .int (nI c9), .int (nI k)]) (rest := [.int (nI 24), .ref (m9 1)]) S (c_X4_place l D (r := r) (w := w) (c9 := c9) (k9 := k)) (va_cwS 4 hts gX4_clears_X4_place rfl rfl rfl (by decide +kernel) ⟨Nat.le_of_ble_eq_true rfl, Nat.le_of_ble_eq_true rfl⟩) (hw.q.sub [] [] rfl rfl) rfl hl.1 (Nat.le_of_ble_eq_true rfl) ⟨Nat.le_of_ble_eq_true rfl, Nat.le_of_ble_eq_true rfl⟩ rfl dX4_clears_45 (fun r_45 e_45 => ?_)
          have e_45 : r_45 = nI (4 * (4 * (6 * r + w) + c9) + k) := e_45
          subst e_45
          refine r_addN hx hb dX4_clears_48 ?_
          refine lv_iconst (v := nI 0) hx hb dX4_clears_49 kc_iconst_0 ?_
          refine r_ast hx hb hw 1 0 rfl rfl (i := 24 + (4 * (4 * (6 * r + w) + c9) + k)) (by omega) (by decide) dX4_clears_50 (fun H locs hw => ?_)
          have hw : Wd D A [(cI, .int)] (wM cI m9 (upd (clrE sa (24 + 4 * (4 * (6 * r + w) + c9)) k) (24 + (4 * (4 * (6 * r + w) + c9) + k)) (nI 0)) tx th sv ln po lt fi sc nu ad rv) s s.heap H locs := hw
          refine lv_iinc (v := nI (k + 1)) (lv' := [(5, .int (nI (k + 1))), (4, .int (nI ((cntG (fun j9 => sa (24 + (4 * (4 * (6 * r + w) + c9) + j9))) k) + (if sa (24 + (4 * (4 * (6 * r + w) + c9) + k)) ≤ 0 then 0 else 1)))), (0, .ref (m9 0)), (1, .int (nI r)), (2, .int (nI w)), (3, .int (nI c9))]) hx hb dX4_clears_51 hl (k := 1) rfl (nI_add k 1) (by decide) rfl (fun ls hl => ?_)
          refine lv_goto (tgt := 6) hx hb dX4_clears_54 (by decide) ?_
          have hl : lv_has ls 6 [(5, .int (nI (k + 1))), (4, .int (nI ((cntG (fun j9 => sa (24 + (4 * (4 * (6 * r + w) + c9) + j9))) k) + (if sa (24 + (4 * (4 * (6 * r + w) + c9) + k)) ≤ 0 then 0 else 1)))), (0, .ref (m9 0)), (1, .int (nI r)), (2, .int (nI w)), (3, .int (nI c9))] := lv_sub hl [0, 1, 2, 3, 4, 5] rfl
          have hl : lv_has ls 6 [(5, .int (nI (k + 1))), (4, .int (nI (cntG (fun j9 => sa (24 + (4 * (4 * (6 * r + w) + c9) + j9))) (k + 1)))), (0, .ref (m9 0)), (1, .int (nI r)), (2, .int (nI w)), (3, .int (nI c9))] := lv_rep hl 1 rfl (congrArg (fun z => Value.int (nI z)) (show (cntG (fun j9 => sa (24 + (4 * (4 * (6 * r + w) + c9) + j9))) k) + (if sa (24 + (4 * (4 * (6 * r + w) + c9) + k)) ≤ 0 then 0 else 1) = cntG (fun j9 => sa (24 + (4 * (4 * (6 * r + w) + c9) + j9))) (k + 1) from rfl))
          have hw : Wd D A [(cI, .int)] (wM cI m9 (clrE sa (24 + 4 * (4 * (6 * r + w) + c9)) (k + 1)) tx th sv ln po lt fi sc nu ad rv) s s.heap H locs := Eq.mp (congrArg (fun z9 => Wd D A [(cI, .int)] (wM cI m9 z9 tx th sv ln po lt fi sc nu ad rv) s s.heap H locs) (show upd (clrE sa (24 + 4 * (4 * (6 * r + w) + c9)) k) (24 + (4 * (4 * (6 * r + w) + c9) + k)) (nI 0) = clrE sa (24 + 4 * (4 * (6 * r + w) + c9)) (k + 1) from clrE_s2 _ _ _ _ (by omega))) hw
          exact ih_6 (k + 1) (by omega) (by omega) _ _ hw ls hl
        refine lv_if_le (tgt := 30) hx hb dX4_clears_23 (by decide) (fun c_23 => ?_) (fun c_23 => ?_)
        ·
          refine lv_iconst (v := nI 0) hx hb dX4_clears_30 kc_iconst_0 ?_
          have hl : lv_has ls 6 [(5, .int (nI k)), (4, .int (nI (cntG (fun j9 => sa (24 + (4 * (4 * (6 * r + w) + c9) + j9))) k))), (0, .ref (m9 0)), (1, .int (nI r)), (2, .int (nI w)), (3, .int (nI c9))] := lv_sub hl [0, 1, 2, 3, 4, 5] rfl
          refine r_top hx (show nI 0 = nI (if sa (24 + (4 * (4 * (6 * r + w) + c9) + k)) ≤ 0 then 0 else 1) from by first | rw [if_pos c_23] | rw [if_neg c_23]) ?_
          exact J31_3 ls hl
        ·
          refine lv_iconst (v := nI 1) hx hb dX4_clears_26 kc_iconst_1 ?_
          refine lv_goto (tgt := 31) hx hb dX4_clears_27 (by decide) ?_
          have hl : lv_has ls 6 [(5, .int (nI k)), (4, .int (nI (cntG (fun j9 => sa (24 + (4 * (4 * (6 * r + w) + c9) + j9))) k))), (0, .ref (m9 0)), (1, .int (nI r)), (2, .int (nI w)), (3, .int (nI c9))] := lv_sub hl [0, 1, 2, 3, 4, 5] rfl
          refine r_top hx (show nI 1 = nI (if sa (24 + (4 * (4 * (6 * r + w) + c9) + k)) ≤ 0 then 0 else 1) from by first | rw [if_pos c_23] | rw [if_neg c_23]) ?_
          exact J31_3 ls hl
  have hl : lv_has ls 6 [(5, .int (nI 0)), (4, .int (nI 0)), (0, .ref (m9 0)), (1, .int (nI r)), (2, .int (nI w)), (3, .int (nI c9))] := lv_sub hl [0, 1, 2, 3, 4, 5] rfl
  have hl : lv_has ls 6 [(5, .int (nI 0)), (4, .int (nI (cntG (fun j9 => sa (24 + (4 * (4 * (6 * r + w) + c9) + j9))) 0))), (0, .ref (m9 0)), (1, .int (nI r)), (2, .int (nI w)), (3, .int (nI c9))] := lv_rep hl 1 rfl (congrArg (fun z => Value.int (nI z)) (show 0 = cntG (fun j9 => sa (24 + (4 * (4 * (6 * r + w) + c9) + j9))) 0 from rfl))
  have hw : Wd D A [(cI, .int)] (wM cI m9 (clrE sa (24 + 4 * (4 * (6 * r + w) + c9)) 0) tx th sv ln po lt fi sc nu ad rv) s s.heap s.heap [] := Eq.mp (congrArg (fun z9 => Wd D A [(cI, .int)] (wM cI m9 z9 tx th sv ln po lt fi sc nu ad rv) s s.heap s.heap []) (show sa = clrE sa (24 + 4 * (4 * (6 * r + w) + c9)) 0 from (clrE_0 _ _).symm)) hw
  exact L6_1 (4 + 1) (0) (by omega) (by omega) _ _ hw ls hl
abbrev rmX4_clearsElement : Room := { frames := 1, cells := 0, slots := 0, locals := 23 }
set_option maxHeartbeats 4000000 in
set_option maxRecDepth 100000 in
theorem c_X4_clearsElement (l : Launch) (D : va_G) (sz : Nat) (cI : ClassId) (m9 : Nat → Nat) (sa : Nat → Int32) (tx : Nat → Nat) (th : Int32) (sv ln po : Nat) (lt fi sc nu : Int32) (ad rv : Nat) (r w c9 : Nat) (hr : r < 4) (hw5 : w < 6) (hc : c9 < 16) : MUi l yX4_clearsElement wsX4_clearsElement rmX4_clearsElement [.ref (m9 0), .int (nI r), .int (nI w), .int (nI c9)] D [(cI, .int)] (wM cI m9 sa tx th sv ln po lt fi sc nu ad rv) sz (fun rz (_ : Unit) => rz = nI (cntG (fun j9 => sa (888 + 4 * (16 * (6 * r + w) + c9) + j9)) 4)) (fun _ => []) (fun _ => wM cI m9 (clrE sa (888 + 4 * (16 * (6 * r + w) + c9)) 4) tx th sv ln po lt fi sc nu ad rv) 0 0 := by
  refine met_u (own := RX4) (cc := cX4_clearsElement) (maxL := 6) (ty := .int) (by decide) rfl rfl (Nat.le_of_ble_eq_true rfl) ?_
  intro p e s m args below meth c Q A hsz S hw hA hE ls hl
  obtain ⟨hx, hb, hml, hown, hts⟩ := id S
  have k7 := hts (.fieldLink RX4 7 "CausalTableModel" "s" "[I") (by decide +kernel)
  have hin4 := (show ∀ w ∈ wsX40, w ∈ wsX4_clearsElement by decide +kernel)
  have hl : lv_has ls 6 [(0, .ref (m9 0)), (1, .int (nI r)), (2, .int (nI w)), (3, .int (nI c9))] := hl
  refine lv_iconst (v := nI 0) hx hb dX4_clearsElement_0 kc_iconst_0 ?_
  refine lv_istore (lv' := [(4, .int (nI 0)), (0, .ref (m9 0)), (1, .int (nI r)), (2, .int (nI w)), (3, .int (nI c9))]) hx hb dX4_clearsElement_1 hl (by decide) rfl (fun ls hl => ?_)
  refine lv_iconst (v := nI 0) hx hb dX4_clearsElement_3 kc_iconst_0 ?_
  refine lv_istore (lv' := [(5, .int (nI 0)), (4, .int (nI 0)), (0, .ref (m9 0)), (1, .int (nI r)), (2, .int (nI w)), (3, .int (nI c9))]) hx hb dX4_clearsElement_4 hl (by decide) rfl (fun ls hl => ?_)
  have L6_1 : ∀ (fu_2 k : Nat), k ≤ 4 → 4 - k < fu_2 → ∀ (H : Heap) (locs : List Loc), Wd D A [(cI, .int)] (wM cI m9 (clrE sa (888 + 4 * (16 * (6 * r + w) + c9)) k) tx th sv ln po lt fi sc nu ad rv) s s.heap H locs → ∀ ls : Array Slot, lv_has ls 6 [(5, .int (nI k)), (4, .int (nI (cntG (fun j9 => sa (888 + 4 * (16 * (6 * r + w) + c9) + j9)) k))), (0, .ref (m9 0)), (1, .int (nI r)), (2, .int (nI w)), (3, .int (nI c9))] → W p l e rmX4_clearsElement s m args below meth c H locs 0 0 Q (F0 m 6 ls []) := by
    intro fu_2
    induction fu_2 with
    | zero => intro k _ h9; exact absurd h9 (Nat.not_lt_zero _)
    | succ fu_2 ih_6 =>
      intro k hk_6 hf_6 H locs hw ls hl
      refine lv_iload hx hb dX4_clearsElement_6 (lv_at hl 0 rfl) ?_
      refine lv_iconst (v := nI 4) hx hb dX4_clearsElement_8 kc_iconst_4 ?_
      refine r_icmp_geN (tgt := 58) hx hb (by omega) (by omega) dX4_clearsElement_9 (by decide) (fun c_9 => ?_) (fun c_9 => ?_)
      ·
        refine lv_iload hx hb dX4_clearsElement_58 (lv_at hl 1 rfl) ?_
        have ew : (wM cI m9 (clrE sa (888 + 4 * (16 * (6 * r + w) + c9)) k) tx th sv ln po lt fi sc nu ad rv) = (wM cI m9 (clrE sa (888 + 4 * (16 * (6 * r + w) + c9)) 4) tx th sv ln po lt fi sc nu ad rv) := by rw [show k = 4 by omega]
        rw [ew] at hw
        exact hE () dX4_clearsElement_60 (rfl) (Nat.le_of_ble_eq_true rfl) (Nat.le_of_ble_eq_true rfl) (hw.sub [0, 1, 2] [] (by decide) rfl rfl) (show nI (cntG (fun j9 => sa (888 + 4 * (16 * (6 * r + w) + c9) + j9)) k) = nI (cntG (fun j9 => sa (888 + 4 * (16 * (6 * r + w) + c9) + j9)) 4) from by rw [show k = 4 by omega])
      ·
        refine lv_iload hx hb dX4_clearsElement_12 (lv_at hl 1 rfl) ?_
        refine lv_aload_n hx hb dX4_clearsElement_14 rfl (lv_at hl 2 rfl) ?_
        refine r_get hx hb hts hown hw.q 0 1 hin4 rfl rfl (by decide) k7 rfl dX4_clearsElement_15 ?_
        refine lv_iload_n hx hb dX4_clearsElement_18 rfl (lv_at hl 3 rfl) ?_
        refine lv_iload_n hx hb dX4_clearsElement_19 rfl (lv_at hl 4 rfl) ?_
        refine lv_iload_n hx hb dX4_clearsElement_20 rfl (lv_at hl 5 rfl) ?_
        refine lv_iload hx hb dX4_clearsElement_21 (lv_at hl 0 rfl) ?_
        refine cq_S (As := [.int (nI r), .int (nI w), .int (nI c9), .int (nI k)]) (rest := [.ref (m9 1), .int (nI (cntG (fun j9 => sa (888 + 4 * (16 * (6 * r + w) + c9) + j9)) k))]) S (c_X4_elementPlace l D (r := r) (w := w) (c9 := c9) (k9 := k)) (va_cwS 4 hts gX4_clearsElement_X4_elementPlace rfl rfl rfl (by decide +kernel) ⟨Nat.le_of_ble_eq_true rfl, Nat.le_of_ble_eq_true rfl⟩) (hw.q.sub [] [] rfl rfl) rfl hl.1 (Nat.le_of_ble_eq_true rfl) ⟨Nat.le_of_ble_eq_true rfl, Nat.le_of_ble_eq_true rfl⟩ rfl dX4_clearsElement_23 (fun r_23 e_23 => ?_)
        have e_23 : r_23 = nI (888 + 4 * (16 * (6 * r + w) + c9) + k) := e_23
        subst e_23
        refine r_ald hx hb hw.q 1 0 rfl rfl (i := 888 + 4 * (16 * (6 * r + w) + c9) + k) (by omega) (by decide) dX4_clearsElement_26 ?_
        refine r_top hx (show (clrE sa (888 + 4 * (16 * (6 * r + w) + c9)) k) (888 + 4 * (16 * (6 * r + w) + c9) + k) = sa (888 + 4 * (16 * (6 * r + w) + c9) + k) from clrE_out (by omega)) ?_
        have J35_3 : ∀ ls : Array Slot, lv_has ls 6 [(5, .int (nI k)), (4, .int (nI (cntG (fun j9 => sa (888 + 4 * (16 * (6 * r + w) + c9) + j9)) k))), (0, .ref (m9 0)), (1, .int (nI r)), (2, .int (nI w)), (3, .int (nI c9))] → W p l e rmX4_clearsElement s m args below meth c H locs 0 0 Q (F0 m 35 ls [.int (nI (if sa (888 + 4 * (16 * (6 * r + w) + c9) + k) ≤ 0 then 0 else 1)), .int (nI (cntG (fun j9 => sa (888 + 4 * (16 * (6 * r + w) + c9) + j9)) k))]) := by
          intro ls hl
          refine r_addN hx hb dX4_clearsElement_35 ?_
          refine lv_istore (lv' := [(4, .int (nI ((cntG (fun j9 => sa (888 + 4 * (16 * (6 * r + w) + c9) + j9)) k) + (if sa (888 + 4 * (16 * (6 * r + w) + c9) + k) ≤ 0 then 0 else 1)))), (5, .int (nI k)), (0, .ref (m9 0)), (1, .int (nI r)), (2, .int (nI w)), (3, .int (nI c9))]) hx hb dX4_clearsElement_36 hl (by decide) rfl (fun ls hl => ?_)
          refine lv_aload_n hx hb dX4_clearsElement_38 rfl (lv_at hl 2 rfl) ?_
          refine r_get hx hb hts hown hw.q 0 1 hin4 rfl rfl (by decide) k7 rfl dX4_clearsElement_39 ?_
          refine lv_iload_n hx hb dX4_clearsElement_42 rfl (lv_at hl 3 rfl) ?_
          refine lv_iload_n hx hb dX4_clearsElement_43 rfl (lv_at hl 4 rfl) ?_
          refine lv_iload_n hx hb dX4_clearsElement_44 rfl (lv_at hl 5 rfl) ?_
          refine lv_iload hx hb dX4_clearsElement_45 (lv_at hl 1 rfl) ?_
          refine cq_S (As := [.int (nI r), .int (nI w), .int (nI c9), .int (nI k)]) (rest := [.ref (m9 1)]) S (c_X4_elementPlace l D (r := r) (w := w) (c9 := c9) (k9 := k)) (va_cwS 4 hts gX4_clearsElement_X4_elementPlace rfl rfl rfl (by decide +kernel) ⟨Nat.le_of_ble_eq_true rfl, Nat.le_of_ble_eq_true rfl⟩) (hw.q.sub [] [] rfl rfl) rfl hl.1 (Nat.le_of_ble_eq_true rfl) ⟨Nat.le_of_ble_eq_true rfl, Nat.le_of_ble_eq_true rfl⟩ rfl dX4_clearsElement_47 (fun r_47 e_47 => ?_)
          have e_47 : r_47 = nI (888 + 4 * (16 * (6 * r + w) + c9) + k) := e_47
          subst e_47
          refine lv_iconst (v := nI 0) hx hb dX4_clearsElement_50 kc_iconst_0 ?_
          refine r_ast hx hb hw 1 0 rfl rfl (i := 888 + 4 * (16 * (6 * r + w) + c9) + k) (by omega) (by decide) dX4_clearsElement_51 (fun H locs hw => ?_)
          have hw : Wd D A [(cI, .int)] (wM cI m9 (upd (clrE sa (888 + 4 * (16 * (6 * r + w) + c9)) k) (888 + 4 * (16 * (6 * r + w) + c9) + k) (nI 0)) tx th sv ln po lt fi sc nu ad rv) s s.heap H locs := hw
          refine lv_iinc (v := nI (k + 1)) (lv' := [(5, .int (nI (k + 1))), (4, .int (nI ((cntG (fun j9 => sa (888 + 4 * (16 * (6 * r + w) + c9) + j9)) k) + (if sa (888 + 4 * (16 * (6 * r + w) + c9) + k) ≤ 0 then 0 else 1)))), (0, .ref (m9 0)), (1, .int (nI r)), (2, .int (nI w)), (3, .int (nI c9))]) hx hb dX4_clearsElement_52 hl (k := 1) rfl (nI_add k 1) (by decide) rfl (fun ls hl => ?_)
          refine lv_goto (tgt := 6) hx hb dX4_clearsElement_55 (by decide) ?_
          have hl : lv_has ls 6 [(5, .int (nI (k + 1))), (4, .int (nI ((cntG (fun j9 => sa (888 + 4 * (16 * (6 * r + w) + c9) + j9)) k) + (if sa (888 + 4 * (16 * (6 * r + w) + c9) + k) ≤ 0 then 0 else 1)))), (0, .ref (m9 0)), (1, .int (nI r)), (2, .int (nI w)), (3, .int (nI c9))] := lv_sub hl [0, 1, 2, 3, 4, 5] rfl
          have hl : lv_has ls 6 [(5, .int (nI (k + 1))), (4, .int (nI (cntG (fun j9 => sa (888 + 4 * (16 * (6 * r + w) + c9) + j9)) (k + 1)))), (0, .ref (m9 0)), (1, .int (nI r)), (2, .int (nI w)), (3, .int (nI c9))] := lv_rep hl 1 rfl (congrArg (fun z => Value.int (nI z)) (show (cntG (fun j9 => sa (888 + 4 * (16 * (6 * r + w) + c9) + j9)) k) + (if sa (888 + 4 * (16 * (6 * r + w) + c9) + k) ≤ 0 then 0 else 1) = cntG (fun j9 => sa (888 + 4 * (16 * (6 * r + w) + c9) + j9)) (k + 1) from rfl))
          have hw : Wd D A [(cI, .int)] (wM cI m9 (clrE sa (888 + 4 * (16 * (6 * r + w) + c9)) (k + 1)) tx th sv ln po lt fi sc nu ad rv) s s.heap H locs := Eq.mp (congrArg (fun z9 => Wd D A [(cI, .int)] (wM cI m9 z9 tx th sv ln po lt fi sc nu ad rv) s s.heap H locs) (show upd (clrE sa (888 + 4 * (16 * (6 * r + w) + c9)) k) (888 + 4 * (16 * (6 * r + w) + c9) + k) (nI 0) = clrE sa (888 + 4 * (16 * (6 * r + w) + c9)) (k + 1) from clrE_s2 _ _ _ _ rfl)) hw
          exact ih_6 (k + 1) (by omega) (by omega) _ _ hw ls hl
        refine lv_if_le (tgt := 34) hx hb dX4_clearsElement_27 (by decide) (fun c_27 => ?_) (fun c_27 => ?_)
        ·
          refine lv_iconst (v := nI 0) hx hb dX4_clearsElement_34 kc_iconst_0 ?_
          have hl : lv_has ls 6 [(5, .int (nI k)), (4, .int (nI (cntG (fun j9 => sa (888 + 4 * (16 * (6 * r + w) + c9) + j9)) k))), (0, .ref (m9 0)), (1, .int (nI r)), (2, .int (nI w)), (3, .int (nI c9))] := lv_sub hl [0, 1, 2, 3, 4, 5] rfl
          refine r_top hx (show nI 0 = nI (if sa (888 + 4 * (16 * (6 * r + w) + c9) + k) ≤ 0 then 0 else 1) from by first | rw [if_pos c_27] | rw [if_neg c_27]) ?_
          exact J35_3 ls hl
        ·
          refine lv_iconst (v := nI 1) hx hb dX4_clearsElement_30 kc_iconst_1 ?_
          refine lv_goto (tgt := 35) hx hb dX4_clearsElement_31 (by decide) ?_
          have hl : lv_has ls 6 [(5, .int (nI k)), (4, .int (nI (cntG (fun j9 => sa (888 + 4 * (16 * (6 * r + w) + c9) + j9)) k))), (0, .ref (m9 0)), (1, .int (nI r)), (2, .int (nI w)), (3, .int (nI c9))] := lv_sub hl [0, 1, 2, 3, 4, 5] rfl
          refine r_top hx (show nI 1 = nI (if sa (888 + 4 * (16 * (6 * r + w) + c9) + k) ≤ 0 then 0 else 1) from by first | rw [if_pos c_27] | rw [if_neg c_27]) ?_
          exact J35_3 ls hl
  have hl : lv_has ls 6 [(5, .int (nI 0)), (4, .int (nI 0)), (0, .ref (m9 0)), (1, .int (nI r)), (2, .int (nI w)), (3, .int (nI c9))] := lv_sub hl [0, 1, 2, 3, 4, 5] rfl
  have hl : lv_has ls 6 [(5, .int (nI 0)), (4, .int (nI (cntG (fun j9 => sa (888 + 4 * (16 * (6 * r + w) + c9) + j9)) 0))), (0, .ref (m9 0)), (1, .int (nI r)), (2, .int (nI w)), (3, .int (nI c9))] := lv_rep hl 1 rfl (congrArg (fun z => Value.int (nI z)) (show 0 = cntG (fun j9 => sa (888 + 4 * (16 * (6 * r + w) + c9) + j9)) 0 from rfl))
  have hw : Wd D A [(cI, .int)] (wM cI m9 (clrE sa (888 + 4 * (16 * (6 * r + w) + c9)) 0) tx th sv ln po lt fi sc nu ad rv) s s.heap s.heap [] := Eq.mp (congrArg (fun z9 => Wd D A [(cI, .int)] (wM cI m9 z9 tx th sv ln po lt fi sc nu ad rv) s s.heap s.heap []) (show sa = clrE sa (888 + 4 * (16 * (6 * r + w) + c9)) 0 from (clrE_0 _ _).symm)) hw
  exact L6_1 (4 + 1) (0) (by omega) (by omega) _ _ hw ls hl
abbrev rmX4_makes : Room := { frames := 1, cells := 0, slots := 0, locals := 23 }
set_option maxHeartbeats 4000000 in
set_option maxRecDepth 100000 in
theorem c_X4_makes (l : Launch) (D : va_G) (sz : Nat) (cI : ClassId) (m9 : Nat → Nat) (sa : Nat → Int32) (tx : Nat → Nat) (th : Int32) (sv ln po : Nat) (lt fi sc nu : Int32) (ad rv : Nat) (r w c9 : Nat) (v : Int32) (hr : r < 4) (hw5 : w < 6) (hc : c9 < 4) : MUv l yX4_makes wsX4_makes rmX4_makes [.ref (m9 0), .int (nI r), .int (nI w), .int (nI c9), .int v] D [(cI, .int)] (wM cI m9 sa tx th sv ln po lt fi sc nu ad rv) sz (fun (_ : Unit) => True) (fun _ => []) (fun _ => wM cI m9 (mkM sa r w c9 v) tx th sv ln po lt fi sc nu ad rv) 0 0 := by
  refine met_v (own := RX4) (cc := cX4_makes) (maxL := 5) (by decide) rfl rfl (Nat.le_of_ble_eq_true rfl) ?_
  intro p e s m args below meth c Q A hsz S hmn hw hA hE ls hl
  obtain ⟨hx, hb, hml, hown, hts⟩ := id S
  have k7 := hts (.fieldLink RX4 7 "CausalTableModel" "s" "[I") (by decide +kernel)
  have hin4 := (show ∀ w ∈ wsX40, w ∈ wsX4_makes by decide +kernel)
  have hl : lv_has ls 5 [(0, .ref (m9 0)), (1, .int (nI r)), (2, .int (nI w)), (3, .int (nI c9)), (4, .int v)] := hl
  refine lv_aload_n hx hb dX4_makes_0 rfl (lv_at hl 0 rfl) ?_
  refine r_get hx hb hts hown hw.q 0 1 hin4 rfl rfl (by decide) k7 rfl dX4_makes_1 ?_
  refine lv_bipush (v := nI 24) hx hb dX4_makes_4 kc_bipush_24 ?_
  refine lv_iload_n hx hb dX4_makes_6 rfl (lv_at hl 1 rfl) ?_
  refine lv_iload_n hx hb dX4_makes_7 rfl (lv_at hl 2 rfl) ?_
  refine lv_iload_n hx hb dX4_makes_8 rfl (lv_at hl 3 rfl) ?_
  refine lv_iload_n hx hb dX4_makes_9 rfl (lv_at hl 1 rfl) ?_
  refine cq_S (As := [.int (nI r), .int (nI w), .int (nI c9), .int (nI r)]) (rest := [.int (nI 24), .ref (m9 1)]) S (c_X4_place l D (r := r) (w := w) (c9 := c9) (k9 := r)) (va_cwS 4 hts gX4_makes_X4_place rfl rfl rfl (by decide +kernel) ⟨Nat.le_of_ble_eq_true rfl, Nat.le_of_ble_eq_true rfl⟩) (hw.q.sub [] [] rfl rfl) rfl hl.1 (Nat.le_of_ble_eq_true rfl) ⟨Nat.le_of_ble_eq_true rfl, Nat.le_of_ble_eq_true rfl⟩ rfl dX4_makes_10 (fun r_10 e_10 => ?_)
  have e_10 : r_10 = nI (4 * (4 * (6 * r + w) + c9) + r) := e_10
  subst e_10
  refine r_addN hx hb dX4_makes_13 ?_
  refine lv_aload_n hx hb dX4_makes_14 rfl (lv_at hl 0 rfl) ?_
  refine lv_iload_n hx hb dX4_makes_15 rfl (lv_at hl 1 rfl) ?_
  refine lv_iload_n hx hb dX4_makes_16 rfl (lv_at hl 1 rfl) ?_
  refine cq_V (As := [.int (nI r), .int (nI r)]) (rest := [.int (nI (24 + (4 * (4 * (6 * r + w) + c9) + r))), .ref (m9 1)]) S (c_X4_seenBy l D (cI := cI) (m9 := m9) (sa := sa) (tx := tx) (th := th) (sv := sv) (ln := ln) (po := po) (lt := lt) (fi := fi) (sc := sc) (nu := nu) (ad := ad) (rv := rv) (a9 := r) (b9 := r) (ha9 := by omega) (hb9 := by omega)) (cwV 2 hts gX4_makes_X4_seenBy rfl rfl rfl (by decide +kernel) ⟨Nat.le_of_ble_eq_true rfl, Nat.le_of_ble_eq_true rfl⟩) (hw.q.sub [0, 1, 2] [0] rfl rfl) 0 rfl rfl rfl hl.1 (Nat.le_of_ble_eq_true rfl) ⟨Nat.le_of_ble_eq_true rfl, Nat.le_of_ble_eq_true rfl⟩ rfl dX4_makes_17 (fun r_17 e_17 => ?_)
  have e_17 : r_17 = sa (0 + 4 * r + r) := e_17
  subst e_17
  refine r_ast hx hb hw 1 0 rfl rfl (i := 24 + (4 * (4 * (6 * r + w) + c9) + r)) (by omega) (by decide) dX4_makes_20 (fun H locs hw => ?_)
  have hw : Wd D A [(cI, .int)] (wM cI m9 (upd sa (24 + (4 * (4 * (6 * r + w) + c9) + r)) (sa (0 + 4 * r + r))) tx th sv ln po lt fi sc nu ad rv) s s.heap H locs := hw
  refine lv_aload_n hx hb dX4_makes_21 rfl (lv_at hl 0 rfl) ?_
  refine r_get hx hb hts hown hw.q 0 1 hin4 rfl rfl (by decide) k7 rfl dX4_makes_22 ?_
  refine lv_sipush (v := nI 408) hx hb dX4_makes_25 kc_sipush_408 ?_
  refine lv_iload_n hx hb dX4_makes_28 rfl (lv_at hl 1 rfl) ?_
  refine lv_iload_n hx hb dX4_makes_29 rfl (lv_at hl 2 rfl) ?_
  refine lv_iload_n hx hb dX4_makes_30 rfl (lv_at hl 3 rfl) ?_
  refine lv_iload_n hx hb dX4_makes_31 rfl (lv_at hl 1 rfl) ?_
  refine cq_S (As := [.int (nI r), .int (nI w), .int (nI c9), .int (nI r)]) (rest := [.int (nI 408), .ref (m9 1)]) S (c_X4_place l D (r := r) (w := w) (c9 := c9) (k9 := r)) (va_cwS 4 hts gX4_makes_X4_place rfl rfl rfl (by decide +kernel) ⟨Nat.le_of_ble_eq_true rfl, Nat.le_of_ble_eq_true rfl⟩) (hw.q.sub [] [] rfl rfl) rfl hl.1 (Nat.le_of_ble_eq_true rfl) ⟨Nat.le_of_ble_eq_true rfl, Nat.le_of_ble_eq_true rfl⟩ rfl dX4_makes_32 (fun r_32 e_32 => ?_)
  have e_32 : r_32 = nI (4 * (4 * (6 * r + w) + c9) + r) := e_32
  subst e_32
  refine r_addN hx hb dX4_makes_35 ?_
  refine lv_iload hx hb dX4_makes_36 (lv_at hl 4 rfl) ?_
  refine r_ast hx hb hw 1 0 rfl rfl (i := 408 + (4 * (4 * (6 * r + w) + c9) + r)) (by omega) (by decide) dX4_makes_38 (fun H locs hw => ?_)
  have hw : Wd D A [(cI, .int)] (wM cI m9 (upd (upd sa (24 + (4 * (4 * (6 * r + w) + c9) + r)) (sa (0 + 4 * r + r))) (408 + (4 * (4 * (6 * r + w) + c9) + r)) v) tx th sv ln po lt fi sc nu ad rv) s s.heap H locs := hw
  refine lv_iload_n hx hb dX4_makes_39 rfl (lv_at hl 3 rfl) ?_
  refine r_if_neN (tgt := 63) hx hb (by omega) dX4_makes_40 (by decide) (fun c_40 => ?_) (fun c_40 => ?_)
  ·
    have ew : (wM cI m9 (upd (upd sa (24 + (4 * (4 * (6 * r + w) + c9) + r)) (sa (0 + 4 * r + r))) (408 + (4 * (4 * (6 * r + w) + c9) + r)) v) tx th sv ln po lt fi sc nu ad rv) = (wM cI m9 (mkM sa r w c9 v) tx th sv ln po lt fi sc nu ad rv) := by first | (rw [mkM, if_neg (Nat.ne_of_gt c_40)]) | (subst c_40; rfl)
    rw [ew] at hw
    exact hE () dX4_makes_63 (Nat.le_of_ble_eq_true rfl) (Nat.le_of_ble_eq_true rfl) (hw.sub [0, 1, 2] [] (by decide) rfl rfl) trivial
  ·
    refine lv_aload_n hx hb dX4_makes_43 rfl (lv_at hl 0 rfl) ?_
    refine r_get hx hb hts hown hw.q 0 1 hin4 rfl rfl (by decide) k7 rfl dX4_makes_44 ?_
    refine lv_iload_n hx hb dX4_makes_47 rfl (lv_at hl 1 rfl) ?_
    refine lv_iload_n hx hb dX4_makes_48 rfl (lv_at hl 2 rfl) ?_
    refine lv_iload_n hx hb dX4_makes_49 rfl (lv_at hl 1 rfl) ?_
    refine cq_S (As := [.int (nI r), .int (nI w), .int (nI r)]) (rest := [.ref (m9 1)]) S (c_X4_stampPlace l D (r := r) (w := w) (k9 := r)) (va_cwS 3 hts gX4_makes_X4_stampPlace rfl rfl rfl (by decide +kernel) ⟨Nat.le_of_ble_eq_true rfl, Nat.le_of_ble_eq_true rfl⟩) (hw.q.sub [] [] rfl rfl) rfl hl.1 (Nat.le_of_ble_eq_true rfl) ⟨Nat.le_of_ble_eq_true rfl, Nat.le_of_ble_eq_true rfl⟩ rfl dX4_makes_50 (fun r_50 e_50 => ?_)
    have e_50 : r_50 = nI (792 + 4 * (6 * r + w) + r) := e_50
    subst e_50
    refine lv_aload_n hx hb dX4_makes_53 rfl (lv_at hl 0 rfl) ?_
    refine r_get hx hb hts hown hw.q 0 1 hin4 rfl rfl (by decide) k7 rfl dX4_makes_54 ?_
    refine lv_bipush (v := nI 16) hx hb dX4_makes_57 kc_bipush_16 ?_
    refine lv_iload_n hx hb dX4_makes_59 rfl (lv_at hl 1 rfl) ?_
    refine r_addN hx hb dX4_makes_60 ?_
    refine r_ald hx hb hw.q 1 0 rfl rfl (i := 16 + r) (by omega) (by decide) dX4_makes_61 ?_
    refine r_ast hx hb hw 1 0 rfl rfl (i := 792 + 4 * (6 * r + w) + r) (by omega) (by decide) dX4_makes_62 (fun H locs hw => ?_)
    have hw : Wd D A [(cI, .int)] (wM cI m9 (upd (upd (upd sa (24 + (4 * (4 * (6 * r + w) + c9) + r)) (sa (0 + 4 * r + r))) (408 + (4 * (4 * (6 * r + w) + c9) + r)) v) (792 + 4 * (6 * r + w) + r) ((upd (upd sa (24 + (4 * (4 * (6 * r + w) + c9) + r)) (sa (0 + 4 * r + r))) (408 + (4 * (4 * (6 * r + w) + c9) + r)) v) (16 + r))) tx th sv ln po lt fi sc nu ad rv) s s.heap H locs := hw
    have ew : (wM cI m9 (upd (upd (upd sa (24 + (4 * (4 * (6 * r + w) + c9) + r)) (sa (0 + 4 * r + r))) (408 + (4 * (4 * (6 * r + w) + c9) + r)) v) (792 + 4 * (6 * r + w) + r) ((upd (upd sa (24 + (4 * (4 * (6 * r + w) + c9) + r)) (sa (0 + 4 * r + r))) (408 + (4 * (4 * (6 * r + w) + c9) + r)) v) (16 + r))) tx th sv ln po lt fi sc nu ad rv) = (wM cI m9 (mkM sa r w c9 v) tx th sv ln po lt fi sc nu ad rv) := by first | (rw [mkM, if_neg (Nat.ne_of_gt c_40)]) | (subst c_40; rfl)
    rw [ew] at hw
    exact hE () dX4_makes_63 (Nat.le_of_ble_eq_true rfl) (Nat.le_of_ble_eq_true rfl) (hw.sub [0, 1, 2] [] (by decide) rfl rfl) trivial
abbrev rmX4_greatestOf : Room := { frames := 2, cells := 0, slots := 0, locals := 47 }
set_option maxHeartbeats 4000000 in
set_option maxRecDepth 100000 in
theorem c_X4_greatestOf (l : Launch) (D : va_G) (cI : ClassId) (m9 : Nat → Nat) (sa : Nat → Int32) (tx : Nat → Nat) (th : Int32) (sv ln po : Nat) (lt fi sc nu : Int32) (ad rv : Nat) (r w : Nat) (hr : r < 4) (hw5 : w < 6) : MQi l yX4_greatestOf wsX4_greatestOf rmX4_greatestOf [.ref (m9 0), .int (nI r), .int (nI w)] D [(cI, .int)] (wM cI m9 sa tx th sv ln po lt fi sc nu ad rv) (fun rz => rz = goM sa r w 4) := by
  refine met_q (own := RX4) (cc := cX4_greatestOf) (maxL := 6) (ty := .int) (by decide) rfl rfl (Nat.le_of_ble_eq_true rfl) ?_
  intro p e s m args below meth c Q S hq hE ls hl
  obtain ⟨hx, hb, hml, hown, hts⟩ := id S
  have hl : lv_has ls 6 [(0, .ref (m9 0)), (1, .int (nI r)), (2, .int (nI w))] := hl
  refine lv_iconst (v := (-1)) hx hb dX4_greatestOf_0 kc_iconst_m1 ?_
  refine lv_istore_n (lv' := [(3, .int (-1)), (0, .ref (m9 0)), (1, .int (nI r)), (2, .int (nI w))]) hx hb dX4_greatestOf_1 rfl hl (by decide) rfl (fun ls hl => ?_)
  refine lv_iconst (v := nI 0) hx hb dX4_greatestOf_2 kc_iconst_0 ?_
  refine lv_istore (lv' := [(4, .int (nI 0)), (3, .int (-1)), (0, .ref (m9 0)), (1, .int (nI r)), (2, .int (nI w))]) hx hb dX4_greatestOf_3 hl (by decide) rfl (fun ls hl => ?_)
  have L5_1 : ∀ (fu_2 k : Nat), k ≤ 4 → 4 - k < fu_2 → ∀ ls : Array Slot, lv_has ls 6 [(4, .int (nI k)), (3, .int (goM sa r w k)), (0, .ref (m9 0)), (1, .int (nI r)), (2, .int (nI w))] → W p l e rmX4_greatestOf s m args below meth c s.heap [] 0 0 Q (F0 m 5 ls []) := by
    intro fu_2
    induction fu_2 with
    | zero => intro k _ h9; exact absurd h9 (Nat.not_lt_zero _)
    | succ fu_2 ih_5 =>
      intro k hk_5 hf_5 ls hl
      refine lv_iload hx hb dX4_greatestOf_5 (lv_at hl 0 rfl) ?_
      refine lv_iconst (v := nI 4) hx hb dX4_greatestOf_7 kc_iconst_4 ?_
      refine r_icmp_geN (tgt := 68) hx hb (by omega) (by omega) dX4_greatestOf_8 (by decide) (fun c_8 => ?_) (fun c_8 => ?_)
      ·
        refine lv_iload_n hx hb dX4_greatestOf_68 rfl (lv_at hl 1 rfl) ?_
        exact hE dX4_greatestOf_69 (rfl) (show goM sa r w k = goM sa r w 4 from by rw [show k = 4 by omega])
      ·
        refine lv_aload_n hx hb dX4_greatestOf_11 rfl (lv_at hl 2 rfl) ?_
        refine lv_iload_n hx hb dX4_greatestOf_12 rfl (lv_at hl 3 rfl) ?_
        refine lv_iload_n hx hb dX4_greatestOf_13 rfl (lv_at hl 4 rfl) ?_
        refine lv_iconst (v := nI 2) hx hb dX4_greatestOf_14 kc_iconst_2 ?_
        refine lv_iload hx hb dX4_greatestOf_15 (lv_at hl 0 rfl) ?_
        refine cq_V (As := [.int (nI r), .int (nI w), .int (nI 2), .int (nI k)]) (rest := []) S (c_X4_mark l D (cI := cI) (m9 := m9) (sa := sa) (tx := tx) (th := th) (sv := sv) (ln := ln) (po := po) (lt := lt) (fi := fi) (sc := sc) (nu := nu) (ad := ad) (rv := rv) (r := r) (w := w) (c9 := 2) (k9 := k) (hr := by omega) (hw5 := by omega) (hc := by omega) (hk9 := by omega)) (cwV 4 hts gX4_greatestOf_X4_mark rfl rfl rfl (by decide +kernel) ⟨Nat.le_of_ble_eq_true rfl, Nat.le_of_ble_eq_true rfl⟩) (hq.sub [0, 1, 2] [0] rfl rfl) 0 rfl rfl rfl hl.1 (Nat.le_of_ble_eq_true rfl) ⟨Nat.le_of_ble_eq_true rfl, Nat.le_of_ble_eq_true rfl⟩ rfl dX4_greatestOf_17 (fun r_17 e_17 => ?_)
        have e_17 : r_17 = sa (24 + (4 * (4 * (6 * r + w) + 2) + k)) := e_17
        subst e_17
        have J41_3 : ∀ ls : Array Slot, lv_has ls 6 [(4, .int (nI k)), (3, .int (goM sa r w k)), (0, .ref (m9 0)), (1, .int (nI r)), (2, .int (nI w))] → W p l e rmX4_greatestOf s m args below meth c s.heap [] 0 0 Q (F0 m 41 ls [.int (b2 (¬ sa (24 + (4 * (4 * (6 * r + w) + 2) + k)) ≤ 0 ∧ ¬ sa (408 + (4 * (4 * (6 * r + w) + 2) + k)) ≤ goM sa r w k))]) := by
          intro ls hl
          refine lv_istore (lv' := [(5, .int (b2 (¬ sa (24 + (4 * (4 * (6 * r + w) + 2) + k)) ≤ 0 ∧ ¬ sa (408 + (4 * (4 * (6 * r + w) + 2) + k)) ≤ goM sa r w k))), (4, .int (nI k)), (3, .int (goM sa r w k)), (0, .ref (m9 0)), (1, .int (nI r)), (2, .int (nI w))]) hx hb dX4_greatestOf_41 hl (by decide) rfl (fun ls hl => ?_)
          refine lv_iload hx hb dX4_greatestOf_43 (lv_at hl 0 rfl) ?_
          refine r_if_eqB (tgt := 60) hx hb dX4_greatestOf_45 (by decide) (fun c_45 => ?_) (fun c_45 => ?_)
          ·
            refine lv_iload_n hx hb dX4_greatestOf_60 rfl (lv_at hl 2 rfl) ?_
            refine lv_istore_n (lv' := [(3, .int (goM sa r w k)), (5, .int (b2 (¬ sa (24 + (4 * (4 * (6 * r + w) + 2) + k)) ≤ 0 ∧ ¬ sa (408 + (4 * (4 * (6 * r + w) + 2) + k)) ≤ goM sa r w k))), (4, .int (nI k)), (0, .ref (m9 0)), (1, .int (nI r)), (2, .int (nI w))]) hx hb dX4_greatestOf_61 rfl hl (by decide) rfl (fun ls hl => ?_)
            refine lv_iinc (v := nI (k + 1)) (lv' := [(4, .int (nI (k + 1))), (3, .int (goM sa r w k)), (5, .int (b2 (¬ sa (24 + (4 * (4 * (6 * r + w) + 2) + k)) ≤ 0 ∧ ¬ sa (408 + (4 * (4 * (6 * r + w) + 2) + k)) ≤ goM sa r w k))), (0, .ref (m9 0)), (1, .int (nI r)), (2, .int (nI w))]) hx hb dX4_greatestOf_62 hl (k := 2) rfl (nI_add k 1) (by decide) rfl (fun ls hl => ?_)
            refine lv_goto (tgt := 5) hx hb dX4_greatestOf_65 (by decide) ?_
            have hl : lv_has ls 6 [(4, .int (nI (k + 1))), (3, .int (goM sa r w k)), (0, .ref (m9 0)), (1, .int (nI r)), (2, .int (nI w))] := lv_sub hl [0, 1, 3, 4, 5] rfl
            have hl : lv_has ls 6 [(4, .int (nI (k + 1))), (3, .int (goM sa r w (k + 1))), (0, .ref (m9 0)), (1, .int (nI r)), (2, .int (nI w))] := lv_rep hl 1 rfl (congrArg Value.int (show goM sa r w k = goM sa r w (k + 1) from by simp only [goM]; first | rw [if_pos c_45] | rw [if_neg c_45]))
            exact ih_5 (k + 1) (by omega) (by omega) ls hl
          ·
            refine lv_aload_n hx hb dX4_greatestOf_48 rfl (lv_at hl 3 rfl) ?_
            refine lv_iload_n hx hb dX4_greatestOf_49 rfl (lv_at hl 4 rfl) ?_
            refine lv_iload_n hx hb dX4_greatestOf_50 rfl (lv_at hl 5 rfl) ?_
            refine lv_iconst (v := nI 2) hx hb dX4_greatestOf_51 kc_iconst_2 ?_
            refine lv_iload hx hb dX4_greatestOf_52 (lv_at hl 1 rfl) ?_
            refine cq_V (As := [.int (nI r), .int (nI w), .int (nI 2), .int (nI k)]) (rest := []) S (c_X4_value l D (cI := cI) (m9 := m9) (sa := sa) (tx := tx) (th := th) (sv := sv) (ln := ln) (po := po) (lt := lt) (fi := fi) (sc := sc) (nu := nu) (ad := ad) (rv := rv) (r := r) (w := w) (c9 := 2) (k9 := k) (hr := by omega) (hw5 := by omega) (hc := by omega) (hk9 := by omega)) (cwV 4 hts gX4_greatestOf_X4_value rfl rfl rfl (by decide +kernel) ⟨Nat.le_of_ble_eq_true rfl, Nat.le_of_ble_eq_true rfl⟩) (hq.sub [0, 1, 2] [0] rfl rfl) 0 rfl rfl rfl hl.1 (Nat.le_of_ble_eq_true rfl) ⟨Nat.le_of_ble_eq_true rfl, Nat.le_of_ble_eq_true rfl⟩ rfl dX4_greatestOf_54 (fun r_54 e_54 => ?_)
            have e_54 : r_54 = sa (408 + (4 * (4 * (6 * r + w) + 2) + k)) := e_54
            subst e_54
            refine lv_goto (tgt := 61) hx hb dX4_greatestOf_57 (by decide) ?_
            refine lv_istore_n (lv' := [(3, .int (sa (408 + (4 * (4 * (6 * r + w) + 2) + k)))), (5, .int (b2 (¬ sa (24 + (4 * (4 * (6 * r + w) + 2) + k)) ≤ 0 ∧ ¬ sa (408 + (4 * (4 * (6 * r + w) + 2) + k)) ≤ goM sa r w k))), (4, .int (nI k)), (0, .ref (m9 0)), (1, .int (nI r)), (2, .int (nI w))]) hx hb dX4_greatestOf_61 rfl hl (by decide) rfl (fun ls hl => ?_)
            refine lv_iinc (v := nI (k + 1)) (lv' := [(4, .int (nI (k + 1))), (3, .int (sa (408 + (4 * (4 * (6 * r + w) + 2) + k)))), (5, .int (b2 (¬ sa (24 + (4 * (4 * (6 * r + w) + 2) + k)) ≤ 0 ∧ ¬ sa (408 + (4 * (4 * (6 * r + w) + 2) + k)) ≤ goM sa r w k))), (0, .ref (m9 0)), (1, .int (nI r)), (2, .int (nI w))]) hx hb dX4_greatestOf_62 hl (k := 2) rfl (nI_add k 1) (by decide) rfl (fun ls hl => ?_)
            refine lv_goto (tgt := 5) hx hb dX4_greatestOf_65 (by decide) ?_
            have hl : lv_has ls 6 [(4, .int (nI (k + 1))), (3, .int (sa (408 + (4 * (4 * (6 * r + w) + 2) + k)))), (0, .ref (m9 0)), (1, .int (nI r)), (2, .int (nI w))] := lv_sub hl [0, 1, 3, 4, 5] rfl
            have hl : lv_has ls 6 [(4, .int (nI (k + 1))), (3, .int (goM sa r w (k + 1))), (0, .ref (m9 0)), (1, .int (nI r)), (2, .int (nI w))] := lv_rep hl 1 rfl (congrArg Value.int (show sa (408 + (4 * (4 * (6 * r + w) + 2) + k)) = goM sa r w (k + 1) from by simp only [goM]; first | rw [if_pos c_45] | rw [if_neg c_45]))
            exact ih_5 (k + 1) (by omega) (by omega) ls hl
        refine lv_if_le (tgt := 40) hx hb dX4_greatestOf_20 (by decide) (fun c_20 => ?_) (fun c_20 => ?_)
        ·
          refine lv_iconst (v := nI 0) hx hb dX4_greatestOf_40 kc_iconst_0 ?_
          have hl : lv_has ls 6 [(4, .int (nI k)), (3, .int (goM sa r w k)), (0, .ref (m9 0)), (1, .int (nI r)), (2, .int (nI w))] := lv_sub hl [0, 1, 2, 3, 4] rfl
          refine r_top hx (show nI 0 = b2 (¬ sa (24 + (4 * (4 * (6 * r + w) + 2) + k)) ≤ 0 ∧ ¬ sa (408 + (4 * (4 * (6 * r + w) + 2) + k)) ≤ goM sa r w k) from by first | exact ret1 ⟨c_20, c_33⟩ | exact ret0 (fun h => h.1 c_20) | exact ret0 (fun h => h.2 c_33)) ?_
          exact J41_3 ls hl
        ·
          refine lv_aload_n hx hb dX4_greatestOf_23 rfl (lv_at hl 2 rfl) ?_
          refine lv_iload_n hx hb dX4_greatestOf_24 rfl (lv_at hl 3 rfl) ?_
          refine lv_iload_n hx hb dX4_greatestOf_25 rfl (lv_at hl 4 rfl) ?_
          refine lv_iconst (v := nI 2) hx hb dX4_greatestOf_26 kc_iconst_2 ?_
          refine lv_iload hx hb dX4_greatestOf_27 (lv_at hl 0 rfl) ?_
          refine cq_V (As := [.int (nI r), .int (nI w), .int (nI 2), .int (nI k)]) (rest := []) S (c_X4_value l D (cI := cI) (m9 := m9) (sa := sa) (tx := tx) (th := th) (sv := sv) (ln := ln) (po := po) (lt := lt) (fi := fi) (sc := sc) (nu := nu) (ad := ad) (rv := rv) (r := r) (w := w) (c9 := 2) (k9 := k) (hr := by omega) (hw5 := by omega) (hc := by omega) (hk9 := by omega)) (cwV 4 hts gX4_greatestOf_X4_value rfl rfl rfl (by decide +kernel) ⟨Nat.le_of_ble_eq_true rfl, Nat.le_of_ble_eq_true rfl⟩) (hq.sub [0, 1, 2] [0] rfl rfl) 0 rfl rfl rfl hl.1 (Nat.le_of_ble_eq_true rfl) ⟨Nat.le_of_ble_eq_true rfl, Nat.le_of_ble_eq_true rfl⟩ rfl dX4_greatestOf_29 (fun r_29 e_29 => ?_)
          have e_29 : r_29 = sa (408 + (4 * (4 * (6 * r + w) + 2) + k)) := e_29
          subst e_29
          refine lv_iload_n hx hb dX4_greatestOf_32 rfl (lv_at hl 1 rfl) ?_
          refine lv_icmp_le (tgt := 40) hx hb dX4_greatestOf_33 (by decide) (fun c_33 => ?_) (fun c_33 => ?_)
          ·
            refine lv_iconst (v := nI 0) hx hb dX4_greatestOf_40 kc_iconst_0 ?_
            have hl : lv_has ls 6 [(4, .int (nI k)), (3, .int (goM sa r w k)), (0, .ref (m9 0)), (1, .int (nI r)), (2, .int (nI w))] := lv_sub hl [0, 1, 2, 3, 4] rfl
            refine r_top hx (show nI 0 = b2 (¬ sa (24 + (4 * (4 * (6 * r + w) + 2) + k)) ≤ 0 ∧ ¬ sa (408 + (4 * (4 * (6 * r + w) + 2) + k)) ≤ goM sa r w k) from by first | exact ret1 ⟨c_20, c_33⟩ | exact ret0 (fun h => h.1 c_20) | exact ret0 (fun h => h.2 c_33)) ?_
            exact J41_3 ls hl
          ·
            refine lv_iconst (v := nI 1) hx hb dX4_greatestOf_36 kc_iconst_1 ?_
            refine lv_goto (tgt := 41) hx hb dX4_greatestOf_37 (by decide) ?_
            have hl : lv_has ls 6 [(4, .int (nI k)), (3, .int (goM sa r w k)), (0, .ref (m9 0)), (1, .int (nI r)), (2, .int (nI w))] := lv_sub hl [0, 1, 2, 3, 4] rfl
            refine r_top hx (show nI 1 = b2 (¬ sa (24 + (4 * (4 * (6 * r + w) + 2) + k)) ≤ 0 ∧ ¬ sa (408 + (4 * (4 * (6 * r + w) + 2) + k)) ≤ goM sa r w k) from by first | exact ret1 ⟨c_20, c_33⟩ | exact ret0 (fun h => h.1 c_20) | exact ret0 (fun h => h.2 c_33)) ?_
            exact J41_3 ls hl
  have hl : lv_has ls 6 [(4, .int (nI 0)), (3, .int (-1)), (0, .ref (m9 0)), (1, .int (nI r)), (2, .int (nI w))] := lv_sub hl [0, 1, 2, 3, 4] rfl
  have hl : lv_has ls 6 [(4, .int (nI 0)), (3, .int (goM sa r w 0)), (0, .ref (m9 0)), (1, .int (nI r)), (2, .int (nI w))] := lv_rep hl 1 rfl (congrArg Value.int (show (-1) = goM sa r w 0 from rfl))
  exact L5_1 (4 + 1) (0) (by omega) (by omega) ls hl
abbrev rmX4_puts : Room := { frames := 3, cells := 0, slots := 0, locals := 72 }
set_option maxHeartbeats 4000000 in
set_option maxRecDepth 100000 in
theorem c_X4_puts (l : Launch) (D : va_G) (sz : Nat) (cI : ClassId) (m9 : Nat → Nat) (sa : Nat → Int32) (tx : Nat → Nat) (th : Int32) (sv ln po : Nat) (lt fi sc nu : Int32) (ad rv : Nat) (r w c9 : Nat) (v : Int32) (hr : r < 4) (hw5 : w < 6) (hc : c9 < 3) : MUi l yX4_puts wsX4_puts rmX4_puts [.ref (m9 0), .int (nI r), .int (nI w), .int (nI c9), .int v] D [(cI, .int)] (wM cI m9 sa tx th sv ln po lt fi sc nu ad rv) sz (fun rz (_ : Unit) => rz = nI (cntG (fun j9 => bgM sa r (24 + (4 * (4 * (6 * r + w) + c9) + j9))) 4)) (fun _ => []) (fun _ => wM cI m9 (putM sa r w c9 v) tx th sv ln po lt fi sc nu ad rv) 0 0 := by
  refine met_u (own := RX4) (cc := cX4_puts) (maxL := 7) (ty := .int) (by decide) rfl rfl (Nat.le_of_ble_eq_true rfl) ?_
  intro p e s m args below meth c Q A hsz S hw hA hE ls hl
  obtain ⟨hx, hb, hml, hown, hts⟩ := id S
  have hl : lv_has ls 7 [(0, .ref (m9 0)), (1, .int (nI r)), (2, .int (nI w)), (3, .int (nI c9)), (4, .int v)] := hl
  refine lv_aload_n hx hb dX4_puts_0 rfl (lv_at hl 0 rfl) ?_
  refine lv_iload_n hx hb dX4_puts_1 rfl (lv_at hl 1 rfl) ?_
  refine cu_Vv (As := [.int (nI r)]) (rest := []) (wc := wM cI m9 sa tx th sv ln po lt fi sc nu ad rv) (wr := []) S (c_X4_begins l D (sz := s.heap.size) (cI := cI) (m9 := m9) (sa := sa) (tx := tx) (th := th) (sv := sv) (ln := ln) (po := po) (lt := lt) (fi := fi) (sc := sc) (nu := nu) (ad := ad) (rv := rv) (r := r) (hr := by omega)) (cwV 1 hts gX4_puts_X4_begins rfl rfl rfl (by decide +kernel) ⟨Nat.le_of_ble_eq_true rfl, Nat.le_of_ble_eq_true rfl⟩) hw hA [0, 1, 2] [] [0] rfl rfl rfl (by decide) (by decide) (by decide) 0 rfl rfl rfl hl.1 (Nat.le_of_ble_eq_true rfl) ⟨Nat.le_of_ble_eq_true rfl, Nat.le_of_ble_eq_true rfl⟩ rfl dX4_puts_2 (fun u_2 H locs e_2 hw => ?_)
  have hw : Wd D A [(cI, .int)] (wM cI m9 (bgM sa r) tx th sv ln po lt fi sc nu ad rv) s s.heap H locs := hw
  refine lv_aload_n hx hb dX4_puts_5 rfl (lv_at hl 0 rfl) ?_
  refine lv_iload_n hx hb dX4_puts_6 rfl (lv_at hl 1 rfl) ?_
  refine lv_iload_n hx hb dX4_puts_7 rfl (lv_at hl 2 rfl) ?_
  refine cq_V (As := [.int (nI r), .int (nI w)]) (rest := []) S (c_X4_greatestOf l D (cI := cI) (m9 := m9) (sa := bgM sa r) (tx := tx) (th := th) (sv := sv) (ln := ln) (po := po) (lt := lt) (fi := fi) (sc := sc) (nu := nu) (ad := ad) (rv := rv) (r := r) (w := w) (hr := by omega) (hw5 := by omega)) (cwV 2 hts gX4_puts_X4_greatestOf rfl rfl rfl (by decide +kernel) ⟨Nat.le_of_ble_eq_true rfl, Nat.le_of_ble_eq_true rfl⟩) (hw.q.sub [0, 1, 2] [0] rfl rfl) 0 rfl rfl rfl hl.1 (Nat.le_of_ble_eq_true rfl) ⟨Nat.le_of_ble_eq_true rfl, Nat.le_of_ble_eq_true rfl⟩ rfl dX4_puts_8 (fun r_8 e_8 => ?_)
  have e_8 : r_8 = goM (bgM sa r) r w 4 := e_8
  subst e_8
  refine lv_istore (lv' := [(5, .int (goM (bgM sa r) r w 4)), (0, .ref (m9 0)), (1, .int (nI r)), (2, .int (nI w)), (3, .int (nI c9)), (4, .int v)]) hx hb dX4_puts_11 hl (by decide) rfl (fun ls hl => ?_)
  refine lv_aload_n hx hb dX4_puts_13 rfl (lv_at hl 1 rfl) ?_
  refine lv_iload_n hx hb dX4_puts_14 rfl (lv_at hl 2 rfl) ?_
  refine lv_iload_n hx hb dX4_puts_15 rfl (lv_at hl 3 rfl) ?_
  refine lv_iload_n hx hb dX4_puts_16 rfl (lv_at hl 4 rfl) ?_
  refine cu_Vi (As := [.int (nI r), .int (nI w), .int (nI c9)]) (rest := []) (wc := wM cI m9 (bgM sa r) tx th sv ln po lt fi sc nu ad rv) (wr := []) S (c_X4_clears l D (sz := H.size) (cI := cI) (m9 := m9) (sa := bgM sa r) (tx := tx) (th := th) (sv := sv) (ln := ln) (po := po) (lt := lt) (fi := fi) (sc := sc) (nu := nu) (ad := ad) (rv := rv) (r := r) (w := w) (c9 := c9) (hr := by omega) (hw5 := by omega) (hc := by omega)) (cwV 3 hts gX4_puts_X4_clears rfl rfl rfl (by decide +kernel) ⟨Nat.le_of_ble_eq_true rfl, Nat.le_of_ble_eq_true rfl⟩) hw hA [0, 1, 2] [] [0] rfl rfl rfl (by decide) (by decide) (by decide) 0 rfl rfl rfl hl.1 (Nat.le_of_ble_eq_true rfl) ⟨Nat.le_of_ble_eq_true rfl, Nat.le_of_ble_eq_true rfl⟩ rfl dX4_puts_17 (fun r_17 u_17 H locs e_17 hw => ?_)
  have hw : Wd D A [(cI, .int)] (wM cI m9 (clrE (bgM sa r) (24 + 4 * (4 * (6 * r + w) + c9)) 4) tx th sv ln po lt fi sc nu ad rv) s s.heap H locs := hw
  have e_17 : r_17 = nI (cntG (fun j9 => (bgM sa r) (24 + (4 * (4 * (6 * r + w) + c9) + j9))) 4) := e_17
  subst e_17
  refine lv_istore (lv' := [(6, .int (nI (cntG (fun j9 => (bgM sa r) (24 + (4 * (4 * (6 * r + w) + c9) + j9))) 4))), (5, .int (goM (bgM sa r) r w 4)), (0, .ref (m9 0)), (1, .int (nI r)), (2, .int (nI w)), (3, .int (nI c9)), (4, .int v)]) hx hb dX4_puts_20 hl (by decide) rfl (fun ls hl => ?_)
  refine lv_aload_n hx hb dX4_puts_22 rfl (lv_at hl 2 rfl) ?_
  refine lv_iload_n hx hb dX4_puts_23 rfl (lv_at hl 3 rfl) ?_
  refine lv_iload_n hx hb dX4_puts_24 rfl (lv_at hl 4 rfl) ?_
  refine lv_iload_n hx hb dX4_puts_25 rfl (lv_at hl 5 rfl) ?_
  refine lv_iload_n hx hb dX4_puts_26 rfl (lv_at hl 5 rfl) ?_
  refine lv_iconst (v := nI 2) hx hb dX4_puts_27 kc_iconst_2 ?_
  have J45_1 : ∀ ls : Array Slot, lv_has ls 7 [(6, .int (nI (cntG (fun j9 => (bgM sa r) (24 + (4 * (4 * (6 * r + w) + c9) + j9))) 4))), (5, .int (goM (bgM sa r) r w 4)), (0, .ref (m9 0)), (1, .int (nI r)), (2, .int (nI w)), (3, .int (nI c9)), (4, .int v)] → W p l e rmX4_puts s m args below meth c H locs 0 0 Q (F0 m 45 ls [.int (if c9 = 2 ∧ ¬ goM (bgM sa r) r w 4 ≤ v then goM (bgM sa r) r w 4 else v), .int (nI c9), .int (nI w), .int (nI r), .ref (m9 0)]) := by
    intro ls hl
    refine cu_Vv (As := [.int (nI r), .int (nI w), .int (nI c9), .int (if c9 = 2 ∧ ¬ goM (bgM sa r) r w 4 ≤ v then goM (bgM sa r) r w 4 else v)]) (rest := []) (wc := wM cI m9 (clrE (bgM sa r) (24 + 4 * (4 * (6 * r + w) + c9)) 4) tx th sv ln po lt fi sc nu ad rv) (wr := []) S (c_X4_makes l D (sz := H.size) (cI := cI) (m9 := m9) (sa := clrE (bgM sa r) (24 + 4 * (4 * (6 * r + w) + c9)) 4) (tx := tx) (th := th) (sv := sv) (ln := ln) (po := po) (lt := lt) (fi := fi) (sc := sc) (nu := nu) (ad := ad) (rv := rv) (r := r) (w := w) (c9 := c9) (v := if c9 = 2 ∧ ¬ goM (bgM sa r) r w 4 ≤ v then goM (bgM sa r) r w 4 else v) (hr := by omega) (hw5 := by omega) (hc := by omega)) (cwV 4 hts gX4_puts_X4_makes rfl rfl rfl (by decide +kernel) ⟨Nat.le_of_ble_eq_true rfl, Nat.le_of_ble_eq_true rfl⟩) hw hA [0, 1, 2] [] [0] rfl rfl rfl (by decide) (by decide) (by decide) 0 rfl rfl rfl hl.1 (Nat.le_of_ble_eq_true rfl) ⟨Nat.le_of_ble_eq_true rfl, Nat.le_of_ble_eq_true rfl⟩ rfl dX4_puts_45 (fun u_45 H locs e_45 hw => ?_)
    have hw : Wd D A [(cI, .int)] (wM cI m9 (mkM (clrE (bgM sa r) (24 + 4 * (4 * (6 * r + w) + c9)) 4) r w c9 (if c9 = 2 ∧ ¬ goM (bgM sa r) r w 4 ≤ v then goM (bgM sa r) r w 4 else v)) tx th sv ln po lt fi sc nu ad rv) s s.heap H locs := hw
    refine lv_iload hx hb dX4_puts_48 (lv_at hl 0 rfl) ?_
    exact hE () dX4_puts_50 (rfl) (Nat.le_of_ble_eq_true rfl) (Nat.le_of_ble_eq_true rfl) (hw.sub [0, 1, 2] [] (by decide) rfl rfl) (show nI (cntG (fun j9 => (bgM sa r) (24 + (4 * (4 * (6 * r + w) + c9) + j9))) 4) = nI (cntG (fun j9 => bgM sa r (24 + (4 * (4 * (6 * r + w) + c9) + j9))) 4) from by first | rfl | (congr <;> omega) | simp_all)
  refine r_icmp_neN (tgt := 43) hx hb (by omega) (by omega) dX4_puts_28 (by decide) (fun c_28 => ?_) (fun c_28 => ?_)
  ·
    refine lv_iload hx hb dX4_puts_43 (lv_at hl 6 rfl) ?_
    have hl : lv_has ls 7 [(6, .int (nI (cntG (fun j9 => (bgM sa r) (24 + (4 * (4 * (6 * r + w) + c9) + j9))) 4))), (5, .int (goM (bgM sa r) r w 4)), (0, .ref (m9 0)), (1, .int (nI r)), (2, .int (nI w)), (3, .int (nI c9)), (4, .int v)] := lv_sub hl [0, 1, 2, 3, 4, 5, 6] rfl
    refine r_top hx (show v = if c9 = 2 ∧ ¬ goM (bgM sa r) r w 4 ≤ v then goM (bgM sa r) r w 4 else v from by first | exact (if_pos ⟨c_28, c_35⟩).symm | exact (if_neg (fun h => c_28 h.1)).symm | exact (if_neg (fun h => h.2 c_35)).symm) ?_
    exact J45_1 ls hl
  ·
    refine lv_iload hx hb dX4_puts_31 (lv_at hl 1 rfl) ?_
    refine lv_iload hx hb dX4_puts_33 (lv_at hl 6 rfl) ?_
    refine lv_icmp_le (tgt := 43) hx hb dX4_puts_35 (by decide) (fun c_35 => ?_) (fun c_35 => ?_)
    ·
      refine lv_iload hx hb dX4_puts_43 (lv_at hl 6 rfl) ?_
      have hl : lv_has ls 7 [(6, .int (nI (cntG (fun j9 => (bgM sa r) (24 + (4 * (4 * (6 * r + w) + c9) + j9))) 4))), (5, .int (goM (bgM sa r) r w 4)), (0, .ref (m9 0)), (1, .int (nI r)), (2, .int (nI w)), (3, .int (nI c9)), (4, .int v)] := lv_sub hl [0, 1, 2, 3, 4, 5, 6] rfl
      refine r_top hx (show v = if c9 = 2 ∧ ¬ goM (bgM sa r) r w 4 ≤ v then goM (bgM sa r) r w 4 else v from by first | exact (if_pos ⟨c_28, c_35⟩).symm | exact (if_neg (fun h => c_28 h.1)).symm | exact (if_neg (fun h => h.2 c_35)).symm) ?_
      exact J45_1 ls hl
    ·
      refine lv_iload hx hb dX4_puts_38 (lv_at hl 1 rfl) ?_
      refine lv_goto (tgt := 45) hx hb dX4_puts_40 (by decide) ?_
      have hl : lv_has ls 7 [(6, .int (nI (cntG (fun j9 => (bgM sa r) (24 + (4 * (4 * (6 * r + w) + c9) + j9))) 4))), (5, .int (goM (bgM sa r) r w 4)), (0, .ref (m9 0)), (1, .int (nI r)), (2, .int (nI w)), (3, .int (nI c9)), (4, .int v)] := lv_sub hl [0, 1, 2, 3, 4, 5, 6] rfl
      refine r_top hx (show goM (bgM sa r) r w 4 = if c9 = 2 ∧ ¬ goM (bgM sa r) r w 4 ≤ v then goM (bgM sa r) r w 4 else v from by first | exact (if_pos ⟨c_28, c_35⟩).symm | exact (if_neg (fun h => c_28 h.1)).symm | exact (if_neg (fun h => h.2 c_35)).symm) ?_
      exact J45_1 ls hl
abbrev rmX4_sumOf : Room := { frames := 2, cells := 0, slots := 0, locals := 47 }
set_option maxHeartbeats 4000000 in
set_option maxRecDepth 100000 in
theorem c_X4_sumOf (l : Launch) (D : va_G) (cI : ClassId) (m9 : Nat → Nat) (sa : Nat → Int32) (tx : Nat → Nat) (th : Int32) (sv ln po : Nat) (lt fi sc nu : Int32) (ad rv : Nat) (r w c9 : Nat) (hr : r < 4) (hw5 : w < 6) (hc : c9 < 4) : MQi l yX4_sumOf wsX4_sumOf rmX4_sumOf [.ref (m9 0), .int (nI r), .int (nI w), .int (nI c9)] D [(cI, .int)] (wM cI m9 sa tx th sv ln po lt fi sc nu ad rv) (fun rz => rz = smM sa r w c9 4) := by
  refine met_q (own := RX4) (cc := cX4_sumOf) (maxL := 6) (ty := .int) (by decide) rfl rfl (Nat.le_of_ble_eq_true rfl) ?_
  intro p e s m args below meth c Q S hq hE ls hl
  obtain ⟨hx, hb, hml, hown, hts⟩ := id S
  have hl : lv_has ls 6 [(0, .ref (m9 0)), (1, .int (nI r)), (2, .int (nI w)), (3, .int (nI c9))] := hl
  refine lv_iconst (v := nI 0) hx hb dX4_sumOf_0 kc_iconst_0 ?_
  refine lv_istore (lv' := [(4, .int (nI 0)), (0, .ref (m9 0)), (1, .int (nI r)), (2, .int (nI w)), (3, .int (nI c9))]) hx hb dX4_sumOf_1 hl (by decide) rfl (fun ls hl => ?_)
  refine lv_iconst (v := nI 0) hx hb dX4_sumOf_3 kc_iconst_0 ?_
  refine lv_istore (lv' := [(5, .int (nI 0)), (4, .int (nI 0)), (0, .ref (m9 0)), (1, .int (nI r)), (2, .int (nI w)), (3, .int (nI c9))]) hx hb dX4_sumOf_4 hl (by decide) rfl (fun ls hl => ?_)
  have L6_1 : ∀ (fu_2 k : Nat), k ≤ 4 → 4 - k < fu_2 → ∀ ls : Array Slot, lv_has ls 6 [(5, .int (nI k)), (4, .int (smM sa r w c9 k)), (0, .ref (m9 0)), (1, .int (nI r)), (2, .int (nI w)), (3, .int (nI c9))] → W p l e rmX4_sumOf s m args below meth c s.heap [] 0 0 Q (F0 m 6 ls []) := by
    intro fu_2
    induction fu_2 with
    | zero => intro k _ h9; exact absurd h9 (Nat.not_lt_zero _)
    | succ fu_2 ih_6 =>
      intro k hk_6 hf_6 ls hl
      refine lv_iload hx hb dX4_sumOf_6 (lv_at hl 0 rfl) ?_
      refine lv_iconst (v := nI 4) hx hb dX4_sumOf_8 kc_iconst_4 ?_
      refine r_icmp_geN (tgt := 48) hx hb (by omega) (by omega) dX4_sumOf_9 (by decide) (fun c_9 => ?_) (fun c_9 => ?_)
      ·
        refine lv_iload hx hb dX4_sumOf_48 (lv_at hl 1 rfl) ?_
        exact hE dX4_sumOf_50 (rfl) (show smM sa r w c9 k = smM sa r w c9 4 from by rw [show k = 4 by omega])
      ·
        refine lv_iload hx hb dX4_sumOf_12 (lv_at hl 1 rfl) ?_
        refine lv_aload_n hx hb dX4_sumOf_14 rfl (lv_at hl 2 rfl) ?_
        refine lv_iload_n hx hb dX4_sumOf_15 rfl (lv_at hl 3 rfl) ?_
        refine lv_iload_n hx hb dX4_sumOf_16 rfl (lv_at hl 4 rfl) ?_
        refine lv_iload_n hx hb dX4_sumOf_17 rfl (lv_at hl 5 rfl) ?_
        refine lv_iload hx hb dX4_sumOf_18 (lv_at hl 0 rfl) ?_
        refine cq_V (As := [.int (nI r), .int (nI w), .int (nI c9), .int (nI k)]) (rest := [.int (smM sa r w c9 k)]) S (c_X4_mark l D (cI := cI) (m9 := m9) (sa := sa) (tx := tx) (th := th) (sv := sv) (ln := ln) (po := po) (lt := lt) (fi := fi) (sc := sc) (nu := nu) (ad := ad) (rv := rv) (r := r) (w := w) (c9 := c9) (k9 := k) (hr := by omega) (hw5 := by omega) (hc := by omega) (hk9 := by omega)) (cwV 4 hts gX4_sumOf_X4_mark rfl rfl rfl (by decide +kernel) ⟨Nat.le_of_ble_eq_true rfl, Nat.le_of_ble_eq_true rfl⟩) (hq.sub [0, 1, 2] [0] rfl rfl) 0 rfl rfl rfl hl.1 (Nat.le_of_ble_eq_true rfl) ⟨Nat.le_of_ble_eq_true rfl, Nat.le_of_ble_eq_true rfl⟩ rfl dX4_sumOf_20 (fun r_20 e_20 => ?_)
        have e_20 : r_20 = sa (24 + (4 * (4 * (6 * r + w) + c9) + k)) := e_20
        subst e_20
        have J39_3 : ∀ ls : Array Slot, lv_has ls 6 [(5, .int (nI k)), (4, .int (smM sa r w c9 k)), (0, .ref (m9 0)), (1, .int (nI r)), (2, .int (nI w)), (3, .int (nI c9))] → W p l e rmX4_sumOf s m args below meth c s.heap [] 0 0 Q (F0 m 39 ls [.int (if sa (24 + (4 * (4 * (6 * r + w) + c9) + k)) ≤ 0 then nI 0 else sa (408 + (4 * (4 * (6 * r + w) + c9) + k))), .int (smM sa r w c9 k)]) := by
          intro ls hl
          refine lv_iadd hx hb dX4_sumOf_39 ?_
          refine lv_istore (lv' := [(4, .int ((smM sa r w c9 k) + (if sa (24 + (4 * (4 * (6 * r + w) + c9) + k)) ≤ 0 then nI 0 else sa (408 + (4 * (4 * (6 * r + w) + c9) + k))))), (5, .int (nI k)), (0, .ref (m9 0)), (1, .int (nI r)), (2, .int (nI w)), (3, .int (nI c9))]) hx hb dX4_sumOf_40 hl (by decide) rfl (fun ls hl => ?_)
          refine lv_iinc (v := nI (k + 1)) (lv' := [(5, .int (nI (k + 1))), (4, .int ((smM sa r w c9 k) + (if sa (24 + (4 * (4 * (6 * r + w) + c9) + k)) ≤ 0 then nI 0 else sa (408 + (4 * (4 * (6 * r + w) + c9) + k))))), (0, .ref (m9 0)), (1, .int (nI r)), (2, .int (nI w)), (3, .int (nI c9))]) hx hb dX4_sumOf_42 hl (k := 1) rfl (nI_add k 1) (by decide) rfl (fun ls hl => ?_)
          refine lv_goto (tgt := 6) hx hb dX4_sumOf_45 (by decide) ?_
          have hl : lv_has ls 6 [(5, .int (nI (k + 1))), (4, .int ((smM sa r w c9 k) + (if sa (24 + (4 * (4 * (6 * r + w) + c9) + k)) ≤ 0 then nI 0 else sa (408 + (4 * (4 * (6 * r + w) + c9) + k))))), (0, .ref (m9 0)), (1, .int (nI r)), (2, .int (nI w)), (3, .int (nI c9))] := lv_sub hl [0, 1, 2, 3, 4, 5] rfl
          have hl : lv_has ls 6 [(5, .int (nI (k + 1))), (4, .int (smM sa r w c9 (k + 1))), (0, .ref (m9 0)), (1, .int (nI r)), (2, .int (nI w)), (3, .int (nI c9))] := lv_rep hl 1 rfl (congrArg Value.int (show (smM sa r w c9 k) + (if sa (24 + (4 * (4 * (6 * r + w) + c9) + k)) ≤ 0 then nI 0 else sa (408 + (4 * (4 * (6 * r + w) + c9) + k))) = smM sa r w c9 (k + 1) from rfl))
          exact ih_6 (k + 1) (by omega) (by omega) ls hl
        refine lv_if_le (tgt := 38) hx hb dX4_sumOf_23 (by decide) (fun c_23 => ?_) (fun c_23 => ?_)
        ·
          refine lv_iconst (v := nI 0) hx hb dX4_sumOf_38 kc_iconst_0 ?_
          have hl : lv_has ls 6 [(5, .int (nI k)), (4, .int (smM sa r w c9 k)), (0, .ref (m9 0)), (1, .int (nI r)), (2, .int (nI w)), (3, .int (nI c9))] := lv_sub hl [0, 1, 2, 3, 4, 5] rfl
          refine r_top hx (show nI 0 = if sa (24 + (4 * (4 * (6 * r + w) + c9) + k)) ≤ 0 then nI 0 else sa (408 + (4 * (4 * (6 * r + w) + c9) + k)) from by first | rw [if_pos c_23] | rw [if_neg c_23]) ?_
          exact J39_3 ls hl
        ·
          refine lv_aload_n hx hb dX4_sumOf_26 rfl (lv_at hl 2 rfl) ?_
          refine lv_iload_n hx hb dX4_sumOf_27 rfl (lv_at hl 3 rfl) ?_
          refine lv_iload_n hx hb dX4_sumOf_28 rfl (lv_at hl 4 rfl) ?_
          refine lv_iload_n hx hb dX4_sumOf_29 rfl (lv_at hl 5 rfl) ?_
          refine lv_iload hx hb dX4_sumOf_30 (lv_at hl 0 rfl) ?_
          refine cq_V (As := [.int (nI r), .int (nI w), .int (nI c9), .int (nI k)]) (rest := [.int (smM sa r w c9 k)]) S (c_X4_value l D (cI := cI) (m9 := m9) (sa := sa) (tx := tx) (th := th) (sv := sv) (ln := ln) (po := po) (lt := lt) (fi := fi) (sc := sc) (nu := nu) (ad := ad) (rv := rv) (r := r) (w := w) (c9 := c9) (k9 := k) (hr := by omega) (hw5 := by omega) (hc := by omega) (hk9 := by omega)) (cwV 4 hts gX4_sumOf_X4_value rfl rfl rfl (by decide +kernel) ⟨Nat.le_of_ble_eq_true rfl, Nat.le_of_ble_eq_true rfl⟩) (hq.sub [0, 1, 2] [0] rfl rfl) 0 rfl rfl rfl hl.1 (Nat.le_of_ble_eq_true rfl) ⟨Nat.le_of_ble_eq_true rfl, Nat.le_of_ble_eq_true rfl⟩ rfl dX4_sumOf_32 (fun r_32 e_32 => ?_)
          have e_32 : r_32 = sa (408 + (4 * (4 * (6 * r + w) + c9) + k)) := e_32
          subst e_32
          refine lv_goto (tgt := 39) hx hb dX4_sumOf_35 (by decide) ?_
          have hl : lv_has ls 6 [(5, .int (nI k)), (4, .int (smM sa r w c9 k)), (0, .ref (m9 0)), (1, .int (nI r)), (2, .int (nI w)), (3, .int (nI c9))] := lv_sub hl [0, 1, 2, 3, 4, 5] rfl
          refine r_top hx (show sa (408 + (4 * (4 * (6 * r + w) + c9) + k)) = if sa (24 + (4 * (4 * (6 * r + w) + c9) + k)) ≤ 0 then nI 0 else sa (408 + (4 * (4 * (6 * r + w) + c9) + k)) from by first | rw [if_pos c_23] | rw [if_neg c_23]) ?_
          exact J39_3 ls hl
  have hl : lv_has ls 6 [(5, .int (nI 0)), (4, .int (nI 0)), (0, .ref (m9 0)), (1, .int (nI r)), (2, .int (nI w)), (3, .int (nI c9))] := lv_sub hl [0, 1, 2, 3, 4, 5] rfl
  have hl : lv_has ls 6 [(5, .int (nI 0)), (4, .int (smM sa r w c9 0)), (0, .ref (m9 0)), (1, .int (nI r)), (2, .int (nI w)), (3, .int (nI c9))] := lv_rep hl 1 rfl (congrArg Value.int (show nI 0 = smM sa r w c9 0 from rfl))
  exact L6_1 (4 + 1) (0) (by omega) (by omega) ls hl
abbrev rmX4_adds : Room := { frames := 3, cells := 0, slots := 0, locals := 72 }
set_option maxHeartbeats 4000000 in
set_option maxRecDepth 100000 in
theorem c_X4_adds (l : Launch) (D : va_G) (sz : Nat) (cI : ClassId) (m9 : Nat → Nat) (sa : Nat → Int32) (tx : Nat → Nat) (th : Int32) (sv ln po : Nat) (lt fi sc nu : Int32) (ad rv : Nat) (r w : Nat) (v : Int32) (hr : r < 4) (hw5 : w < 6) : MUi l yX4_adds wsX4_adds rmX4_adds [.ref (m9 0), .int (nI r), .int (nI w), .int v] D [(cI, .int)] (wM cI m9 sa tx th sv ln po lt fi sc nu ad rv) sz (fun rz (_ : Unit) => rz = smM (addM sa r w v) r w 3 4) (fun _ => []) (fun _ => wM cI m9 (addM sa r w v) tx th sv ln po lt fi sc nu ad rv) 0 0 := by
  refine met_u (own := RX4) (cc := cX4_adds) (maxL := 5) (ty := .int) (by decide) rfl rfl (Nat.le_of_ble_eq_true rfl) ?_
  intro p e s m args below meth c Q A hsz S hw hA hE ls hl
  obtain ⟨hx, hb, hml, hown, hts⟩ := id S
  have hl : lv_has ls 5 [(0, .ref (m9 0)), (1, .int (nI r)), (2, .int (nI w)), (3, .int v)] := hl
  refine lv_aload_n hx hb dX4_adds_0 rfl (lv_at hl 0 rfl) ?_
  refine lv_iload_n hx hb dX4_adds_1 rfl (lv_at hl 1 rfl) ?_
  refine cu_Vv (As := [.int (nI r)]) (rest := []) (wc := wM cI m9 sa tx th sv ln po lt fi sc nu ad rv) (wr := []) S (c_X4_begins l D (sz := s.heap.size) (cI := cI) (m9 := m9) (sa := sa) (tx := tx) (th := th) (sv := sv) (ln := ln) (po := po) (lt := lt) (fi := fi) (sc := sc) (nu := nu) (ad := ad) (rv := rv) (r := r) (hr := by omega)) (cwV 1 hts gX4_adds_X4_begins rfl rfl rfl (by decide +kernel) ⟨Nat.le_of_ble_eq_true rfl, Nat.le_of_ble_eq_true rfl⟩) hw hA [0, 1, 2] [] [0] rfl rfl rfl (by decide) (by decide) (by decide) 0 rfl rfl rfl hl.1 (Nat.le_of_ble_eq_true rfl) ⟨Nat.le_of_ble_eq_true rfl, Nat.le_of_ble_eq_true rfl⟩ rfl dX4_adds_2 (fun u_2 H locs e_2 hw => ?_)
  have hw : Wd D A [(cI, .int)] (wM cI m9 (bgM sa r) tx th sv ln po lt fi sc nu ad rv) s s.heap H locs := hw
  refine lv_aload_n hx hb dX4_adds_5 rfl (lv_at hl 0 rfl) ?_
  refine lv_iload_n hx hb dX4_adds_6 rfl (lv_at hl 1 rfl) ?_
  refine lv_iload_n hx hb dX4_adds_7 rfl (lv_at hl 2 rfl) ?_
  refine lv_iconst (v := nI 3) hx hb dX4_adds_8 kc_iconst_3 ?_
  refine lv_iload_n hx hb dX4_adds_9 rfl (lv_at hl 1 rfl) ?_
  refine cq_V (As := [.int (nI r), .int (nI w), .int (nI 3), .int (nI r)]) (rest := []) S (c_X4_mark l D (cI := cI) (m9 := m9) (sa := bgM sa r) (tx := tx) (th := th) (sv := sv) (ln := ln) (po := po) (lt := lt) (fi := fi) (sc := sc) (nu := nu) (ad := ad) (rv := rv) (r := r) (w := w) (c9 := 3) (k9 := r) (hr := by omega) (hw5 := by omega) (hc := by omega) (hk9 := by omega)) (cwV 4 hts gX4_adds_X4_mark rfl rfl rfl (by decide +kernel) ⟨Nat.le_of_ble_eq_true rfl, Nat.le_of_ble_eq_true rfl⟩) (hw.q.sub [0, 1, 2] [0] rfl rfl) 0 rfl rfl rfl hl.1 (Nat.le_of_ble_eq_true rfl) ⟨Nat.le_of_ble_eq_true rfl, Nat.le_of_ble_eq_true rfl⟩ rfl dX4_adds_10 (fun r_10 e_10 => ?_)
  have e_10 : r_10 = (bgM sa r) (24 + (4 * (4 * (6 * r + w) + 3) + r)) := e_10
  subst e_10
  have J28_1 : ∀ ls : Array Slot, lv_has ls 5 [(0, .ref (m9 0)), (1, .int (nI r)), (2, .int (nI w)), (3, .int v)] → W p l e rmX4_adds s m args below meth c H locs 0 0 Q (F0 m 28 ls [.int (if bgM sa r (24 + (4 * (4 * (6 * r + w) + 3) + r)) ≤ 0 then nI 0 else bgM sa r (408 + (4 * (4 * (6 * r + w) + 3) + r)))]) := by
    intro ls hl
    refine lv_istore (lv' := [(4, .int (if bgM sa r (24 + (4 * (4 * (6 * r + w) + 3) + r)) ≤ 0 then nI 0 else bgM sa r (408 + (4 * (4 * (6 * r + w) + 3) + r)))), (0, .ref (m9 0)), (1, .int (nI r)), (2, .int (nI w)), (3, .int v)]) hx hb dX4_adds_28 hl (by decide) rfl (fun ls hl => ?_)
    refine lv_aload_n hx hb dX4_adds_30 rfl (lv_at hl 1 rfl) ?_
    refine lv_iload_n hx hb dX4_adds_31 rfl (lv_at hl 2 rfl) ?_
    refine lv_iload_n hx hb dX4_adds_32 rfl (lv_at hl 3 rfl) ?_
    refine lv_iconst (v := nI 3) hx hb dX4_adds_33 kc_iconst_3 ?_
    refine lv_iload hx hb dX4_adds_34 (lv_at hl 0 rfl) ?_
    refine lv_iload_n hx hb dX4_adds_36 rfl (lv_at hl 4 rfl) ?_
    refine lv_iadd hx hb dX4_adds_37 ?_
    refine cu_Vv (As := [.int (nI r), .int (nI w), .int (nI 3), .int ((if bgM sa r (24 + (4 * (4 * (6 * r + w) + 3) + r)) ≤ 0 then nI 0 else bgM sa r (408 + (4 * (4 * (6 * r + w) + 3) + r))) + v)]) (rest := []) (wc := wM cI m9 (bgM sa r) tx th sv ln po lt fi sc nu ad rv) (wr := []) S (c_X4_makes l D (sz := H.size) (cI := cI) (m9 := m9) (sa := bgM sa r) (tx := tx) (th := th) (sv := sv) (ln := ln) (po := po) (lt := lt) (fi := fi) (sc := sc) (nu := nu) (ad := ad) (rv := rv) (r := r) (w := w) (c9 := 3) (v := (if bgM sa r (24 + (4 * (4 * (6 * r + w) + 3) + r)) ≤ 0 then nI 0 else bgM sa r (408 + (4 * (4 * (6 * r + w) + 3) + r))) + v) (hr := by omega) (hw5 := by omega) (hc := by omega)) (cwV 4 hts gX4_adds_X4_makes rfl rfl rfl (by decide +kernel) ⟨Nat.le_of_ble_eq_true rfl, Nat.le_of_ble_eq_true rfl⟩) hw hA [0, 1, 2] [] [0] rfl rfl rfl (by decide) (by decide) (by decide) 0 rfl rfl rfl hl.1 (Nat.le_of_ble_eq_true rfl) ⟨Nat.le_of_ble_eq_true rfl, Nat.le_of_ble_eq_true rfl⟩ rfl dX4_adds_38 (fun u_38 H locs e_38 hw => ?_)
    have hw : Wd D A [(cI, .int)] (wM cI m9 (mkM (bgM sa r) r w 3 ((if bgM sa r (24 + (4 * (4 * (6 * r + w) + 3) + r)) ≤ 0 then nI 0 else bgM sa r (408 + (4 * (4 * (6 * r + w) + 3) + r))) + v)) tx th sv ln po lt fi sc nu ad rv) s s.heap H locs := hw
    refine lv_aload_n hx hb dX4_adds_41 rfl (lv_at hl 1 rfl) ?_
    refine lv_iload_n hx hb dX4_adds_42 rfl (lv_at hl 2 rfl) ?_
    refine lv_iload_n hx hb dX4_adds_43 rfl (lv_at hl 3 rfl) ?_
    refine lv_iconst (v := nI 3) hx hb dX4_adds_44 kc_iconst_3 ?_
    refine cq_V (As := [.int (nI r), .int (nI w), .int (nI 3)]) (rest := []) S (c_X4_sumOf l D (cI := cI) (m9 := m9) (sa := mkM (bgM sa r) r w 3 ((if bgM sa r (24 + (4 * (4 * (6 * r + w) + 3) + r)) ≤ 0 then nI 0 else bgM sa r (408 + (4 * (4 * (6 * r + w) + 3) + r))) + v)) (tx := tx) (th := th) (sv := sv) (ln := ln) (po := po) (lt := lt) (fi := fi) (sc := sc) (nu := nu) (ad := ad) (rv := rv) (r := r) (w := w) (c9 := 3) (hr := by omega) (hw5 := by omega) (hc := by omega)) (cwV 3 hts gX4_adds_X4_sumOf rfl rfl rfl (by decide +kernel) ⟨Nat.le_of_ble_eq_true rfl, Nat.le_of_ble_eq_true rfl⟩) (hw.q.sub [0, 1, 2] [0] rfl rfl) 0 rfl rfl rfl hl.1 (Nat.le_of_ble_eq_true rfl) ⟨Nat.le_of_ble_eq_true rfl, Nat.le_of_ble_eq_true rfl⟩ rfl dX4_adds_45 (fun r_45 e_45 => ?_)
    have e_45 : r_45 = smM (mkM (bgM sa r) r w 3 ((if bgM sa r (24 + (4 * (4 * (6 * r + w) + 3) + r)) ≤ 0 then nI 0 else bgM sa r (408 + (4 * (4 * (6 * r + w) + 3) + r))) + v)) r w 3 4 := e_45
    subst e_45
    exact hE () dX4_adds_48 (rfl) (Nat.le_of_ble_eq_true rfl) (Nat.le_of_ble_eq_true rfl) (hw.sub [0, 1, 2] [] (by decide) rfl rfl) (show smM (mkM (bgM sa r) r w 3 ((if bgM sa r (24 + (4 * (4 * (6 * r + w) + 3) + r)) ≤ 0 then nI 0 else bgM sa r (408 + (4 * (4 * (6 * r + w) + 3) + r))) + v)) r w 3 4 = smM (addM sa r w v) r w 3 4 from rfl)
  refine lv_if_le (tgt := 27) hx hb dX4_adds_13 (by decide) (fun c_13 => ?_) (fun c_13 => ?_)
  ·
    refine lv_iconst (v := nI 0) hx hb dX4_adds_27 kc_iconst_0 ?_
    have hl : lv_has ls 5 [(0, .ref (m9 0)), (1, .int (nI r)), (2, .int (nI w)), (3, .int v)] := lv_sub hl [0, 1, 2, 3] rfl
    refine r_top hx (show nI 0 = if bgM sa r (24 + (4 * (4 * (6 * r + w) + 3) + r)) ≤ 0 then nI 0 else bgM sa r (408 + (4 * (4 * (6 * r + w) + 3) + r)) from by first | rw [if_pos c_13] | rw [if_neg c_13]) ?_
    exact J28_1 ls hl
  ·
    refine lv_aload_n hx hb dX4_adds_16 rfl (lv_at hl 0 rfl) ?_
    refine lv_iload_n hx hb dX4_adds_17 rfl (lv_at hl 1 rfl) ?_
    refine lv_iload_n hx hb dX4_adds_18 rfl (lv_at hl 2 rfl) ?_
    refine lv_iconst (v := nI 3) hx hb dX4_adds_19 kc_iconst_3 ?_
    refine lv_iload_n hx hb dX4_adds_20 rfl (lv_at hl 1 rfl) ?_
    refine cq_V (As := [.int (nI r), .int (nI w), .int (nI 3), .int (nI r)]) (rest := []) S (c_X4_value l D (cI := cI) (m9 := m9) (sa := bgM sa r) (tx := tx) (th := th) (sv := sv) (ln := ln) (po := po) (lt := lt) (fi := fi) (sc := sc) (nu := nu) (ad := ad) (rv := rv) (r := r) (w := w) (c9 := 3) (k9 := r) (hr := by omega) (hw5 := by omega) (hc := by omega) (hk9 := by omega)) (cwV 4 hts gX4_adds_X4_value rfl rfl rfl (by decide +kernel) ⟨Nat.le_of_ble_eq_true rfl, Nat.le_of_ble_eq_true rfl⟩) (hw.q.sub [0, 1, 2] [0] rfl rfl) 0 rfl rfl rfl hl.1 (Nat.le_of_ble_eq_true rfl) ⟨Nat.le_of_ble_eq_true rfl, Nat.le_of_ble_eq_true rfl⟩ rfl dX4_adds_21 (fun r_21 e_21 => ?_)
    have e_21 : r_21 = (bgM sa r) (408 + (4 * (4 * (6 * r + w) + 3) + r)) := e_21
    subst e_21
    refine lv_goto (tgt := 28) hx hb dX4_adds_24 (by decide) ?_
    have hl : lv_has ls 5 [(0, .ref (m9 0)), (1, .int (nI r)), (2, .int (nI w)), (3, .int v)] := lv_sub hl [0, 1, 2, 3] rfl
    refine r_top hx (show (bgM sa r) (408 + (4 * (4 * (6 * r + w) + 3) + r)) = if bgM sa r (24 + (4 * (4 * (6 * r + w) + 3) + r)) ≤ 0 then nI 0 else bgM sa r (408 + (4 * (4 * (6 * r + w) + 3) + r)) from by first | rw [if_pos c_13] | rw [if_neg c_13]) ?_
    exact J28_1 ls hl
abbrev rmX4_includes : Room := { frames := 2, cells := 0, slots := 0, locals := 48 }
set_option maxHeartbeats 4000000 in
set_option maxRecDepth 100000 in
theorem c_X4_includes (l : Launch) (D : va_G) (sz : Nat) (cI : ClassId) (m9 : Nat → Nat) (sa : Nat → Int32) (tx : Nat → Nat) (th : Int32) (sv ln po : Nat) (lt fi sc nu : Int32) (ad rv : Nat) (r w c9 : Nat) (hr : r < 4) (hw5 : w < 6) (hc : c9 < 16) : MUi l yX4_includes wsX4_includes rmX4_includes [.ref (m9 0), .int (nI r), .int (nI w), .int (nI c9)] D [(cI, .int)] (wM cI m9 sa tx th sv ln po lt fi sc nu ad rv) sz (fun rz (_ : Unit) => rz = nI (cntG (fun j9 => bgM sa r (888 + 4 * (16 * (6 * r + w) + c9) + j9)) 4)) (fun _ => []) (fun _ => wM cI m9 (incM sa r w c9) tx th sv ln po lt fi sc nu ad rv) 0 0 := by
  refine met_u (own := RX4) (cc := cX4_includes) (maxL := 5) (ty := .int) (by decide) rfl rfl (Nat.le_of_ble_eq_true rfl) ?_
  intro p e s m args below meth c Q A hsz S hw hA hE ls hl
  obtain ⟨hx, hb, hml, hown, hts⟩ := id S
  have k7 := hts (.fieldLink RX4 7 "CausalTableModel" "s" "[I") (by decide +kernel)
  have hin4 := (show ∀ w ∈ wsX40, w ∈ wsX4_includes by decide +kernel)
  have hl : lv_has ls 5 [(0, .ref (m9 0)), (1, .int (nI r)), (2, .int (nI w)), (3, .int (nI c9))] := hl
  refine lv_aload_n hx hb dX4_includes_0 rfl (lv_at hl 0 rfl) ?_
  refine lv_iload_n hx hb dX4_includes_1 rfl (lv_at hl 1 rfl) ?_
  refine cu_Vv (As := [.int (nI r)]) (rest := []) (wc := wM cI m9 sa tx th sv ln po lt fi sc nu ad rv) (wr := []) S (c_X4_begins l D (sz := s.heap.size) (cI := cI) (m9 := m9) (sa := sa) (tx := tx) (th := th) (sv := sv) (ln := ln) (po := po) (lt := lt) (fi := fi) (sc := sc) (nu := nu) (ad := ad) (rv := rv) (r := r) (hr := by omega)) (cwV 1 hts gX4_includes_X4_begins rfl rfl rfl (by decide +kernel) ⟨Nat.le_of_ble_eq_true rfl, Nat.le_of_ble_eq_true rfl⟩) hw hA [0, 1, 2] [] [0] rfl rfl rfl (by decide) (by decide) (by decide) 0 rfl rfl rfl hl.1 (Nat.le_of_ble_eq_true rfl) ⟨Nat.le_of_ble_eq_true rfl, Nat.le_of_ble_eq_true rfl⟩ rfl dX4_includes_2 (fun u_2 H locs e_2 hw => ?_)
  have hw : Wd D A [(cI, .int)] (wM cI m9 (bgM sa r) tx th sv ln po lt fi sc nu ad rv) s s.heap H locs := hw
  refine lv_aload_n hx hb dX4_includes_5 rfl (lv_at hl 0 rfl) ?_
  refine lv_iload_n hx hb dX4_includes_6 rfl (lv_at hl 1 rfl) ?_
  refine lv_iload_n hx hb dX4_includes_7 rfl (lv_at hl 2 rfl) ?_
  refine lv_iload_n hx hb dX4_includes_8 rfl (lv_at hl 3 rfl) ?_
  refine cu_Vi (As := [.int (nI r), .int (nI w), .int (nI c9)]) (rest := []) (wc := wM cI m9 (bgM sa r) tx th sv ln po lt fi sc nu ad rv) (wr := []) S (c_X4_clearsElement l D (sz := H.size) (cI := cI) (m9 := m9) (sa := bgM sa r) (tx := tx) (th := th) (sv := sv) (ln := ln) (po := po) (lt := lt) (fi := fi) (sc := sc) (nu := nu) (ad := ad) (rv := rv) (r := r) (w := w) (c9 := c9) (hr := by omega) (hw5 := by omega) (hc := by omega)) (cwV 3 hts gX4_includes_X4_clearsElement rfl rfl rfl (by decide +kernel) ⟨Nat.le_of_ble_eq_true rfl, Nat.le_of_ble_eq_true rfl⟩) hw hA [0, 1, 2] [] [0] rfl rfl rfl (by decide) (by decide) (by decide) 0 rfl rfl rfl hl.1 (Nat.le_of_ble_eq_true rfl) ⟨Nat.le_of_ble_eq_true rfl, Nat.le_of_ble_eq_true rfl⟩ rfl dX4_includes_9 (fun r_9 u_9 H locs e_9 hw => ?_)
  have hw : Wd D A [(cI, .int)] (wM cI m9 (clrE (bgM sa r) (888 + 4 * (16 * (6 * r + w) + c9)) 4) tx th sv ln po lt fi sc nu ad rv) s s.heap H locs := hw
  have e_9 : r_9 = nI (cntG (fun j9 => (bgM sa r) (888 + 4 * (16 * (6 * r + w) + c9) + j9)) 4) := e_9
  subst e_9
  refine lv_istore (lv' := [(4, .int (nI (cntG (fun j9 => (bgM sa r) (888 + 4 * (16 * (6 * r + w) + c9) + j9)) 4))), (0, .ref (m9 0)), (1, .int (nI r)), (2, .int (nI w)), (3, .int (nI c9))]) hx hb dX4_includes_12 hl (by decide) rfl (fun ls hl => ?_)
  refine lv_aload_n hx hb dX4_includes_14 rfl (lv_at hl 1 rfl) ?_
  refine r_get hx hb hts hown hw.q 0 1 hin4 rfl rfl (by decide) k7 rfl dX4_includes_15 ?_
  refine lv_iload_n hx hb dX4_includes_18 rfl (lv_at hl 2 rfl) ?_
  refine lv_iload_n hx hb dX4_includes_19 rfl (lv_at hl 3 rfl) ?_
  refine lv_iload_n hx hb dX4_includes_20 rfl (lv_at hl 4 rfl) ?_
  refine lv_iload_n hx hb dX4_includes_21 rfl (lv_at hl 2 rfl) ?_
  refine cq_S (As := [.int (nI r), .int (nI w), .int (nI c9), .int (nI r)]) (rest := [.ref (m9 1)]) S (c_X4_elementPlace l D (r := r) (w := w) (c9 := c9) (k9 := r)) (va_cwS 4 hts gX4_includes_X4_elementPlace rfl rfl rfl (by decide +kernel) ⟨Nat.le_of_ble_eq_true rfl, Nat.le_of_ble_eq_true rfl⟩) (hw.q.sub [] [] rfl rfl) rfl hl.1 (Nat.le_of_ble_eq_true rfl) ⟨Nat.le_of_ble_eq_true rfl, Nat.le_of_ble_eq_true rfl⟩ rfl dX4_includes_22 (fun r_22 e_22 => ?_)
  have e_22 : r_22 = nI (888 + 4 * (16 * (6 * r + w) + c9) + r) := e_22
  subst e_22
  refine lv_aload_n hx hb dX4_includes_25 rfl (lv_at hl 1 rfl) ?_
  refine lv_iload_n hx hb dX4_includes_26 rfl (lv_at hl 2 rfl) ?_
  refine lv_iload_n hx hb dX4_includes_27 rfl (lv_at hl 2 rfl) ?_
  refine cq_V (As := [.int (nI r), .int (nI r)]) (rest := [.int (nI (888 + 4 * (16 * (6 * r + w) + c9) + r)), .ref (m9 1)]) S (c_X4_seenBy l D (cI := cI) (m9 := m9) (sa := clrE (bgM sa r) (888 + 4 * (16 * (6 * r + w) + c9)) 4) (tx := tx) (th := th) (sv := sv) (ln := ln) (po := po) (lt := lt) (fi := fi) (sc := sc) (nu := nu) (ad := ad) (rv := rv) (a9 := r) (b9 := r) (ha9 := by omega) (hb9 := by omega)) (cwV 2 hts gX4_includes_X4_seenBy rfl rfl rfl (by decide +kernel) ⟨Nat.le_of_ble_eq_true rfl, Nat.le_of_ble_eq_true rfl⟩) (hw.q.sub [0, 1, 2] [0] rfl rfl) 0 rfl rfl rfl hl.1 (Nat.le_of_ble_eq_true rfl) ⟨Nat.le_of_ble_eq_true rfl, Nat.le_of_ble_eq_true rfl⟩ rfl dX4_includes_28 (fun r_28 e_28 => ?_)
  have e_28 : r_28 = (clrE (bgM sa r) (888 + 4 * (16 * (6 * r + w) + c9)) 4) (0 + 4 * r + r) := e_28
  subst e_28
  refine r_ast hx hb hw 1 0 rfl rfl (i := 888 + 4 * (16 * (6 * r + w) + c9) + r) (by omega) (by decide) dX4_includes_31 (fun H locs hw => ?_)
  have hw : Wd D A [(cI, .int)] (wM cI m9 (upd (clrE (bgM sa r) (888 + 4 * (16 * (6 * r + w) + c9)) 4) (888 + 4 * (16 * (6 * r + w) + c9) + r) ((clrE (bgM sa r) (888 + 4 * (16 * (6 * r + w) + c9)) 4) (0 + 4 * r + r))) tx th sv ln po lt fi sc nu ad rv) s s.heap H locs := hw
  refine lv_iload hx hb dX4_includes_32 (lv_at hl 0 rfl) ?_
  exact hE () dX4_includes_34 (rfl) (Nat.le_of_ble_eq_true rfl) (Nat.le_of_ble_eq_true rfl) (hw.sub [0, 1, 2] [] (by decide) rfl rfl) (show nI (cntG (fun j9 => (bgM sa r) (888 + 4 * (16 * (6 * r + w) + c9) + j9)) 4) = nI (cntG (fun j9 => bgM sa r (888 + 4 * (16 * (6 * r + w) + c9) + j9)) 4) from by first | rfl | (congr <;> omega) | simp_all)
abbrev rmX4_excludes : Room := { frames := 2, cells := 0, slots := 0, locals := 48 }
set_option maxHeartbeats 4000000 in
set_option maxRecDepth 100000 in
theorem c_X4_excludes (l : Launch) (D : va_G) (sz : Nat) (cI : ClassId) (m9 : Nat → Nat) (sa : Nat → Int32) (tx : Nat → Nat) (th : Int32) (sv ln po : Nat) (lt fi sc nu : Int32) (ad rv : Nat) (r w c9 : Nat) (hr : r < 4) (hw5 : w < 6) (hc : c9 < 16) : MUi l yX4_excludes wsX4_excludes rmX4_excludes [.ref (m9 0), .int (nI r), .int (nI w), .int (nI c9)] D [(cI, .int)] (wM cI m9 sa tx th sv ln po lt fi sc nu ad rv) sz (fun rz (_ : Unit) => rz = nI (cntG (fun j9 => bgM sa r (888 + 4 * (16 * (6 * r + w) + c9) + j9)) 4)) (fun _ => []) (fun _ => wM cI m9 (excM sa r w c9) tx th sv ln po lt fi sc nu ad rv) 0 0 := by
  refine met_u (own := RX4) (cc := cX4_excludes) (maxL := 4) (ty := .int) (by decide) rfl rfl (Nat.le_of_ble_eq_true rfl) ?_
  intro p e s m args below meth c Q A hsz S hw hA hE ls hl
  obtain ⟨hx, hb, hml, hown, hts⟩ := id S
  have hl : lv_has ls 4 [(0, .ref (m9 0)), (1, .int (nI r)), (2, .int (nI w)), (3, .int (nI c9))] := hl
  refine lv_aload_n hx hb dX4_excludes_0 rfl (lv_at hl 0 rfl) ?_
  refine lv_iload_n hx hb dX4_excludes_1 rfl (lv_at hl 1 rfl) ?_
  refine cu_Vv (As := [.int (nI r)]) (rest := []) (wc := wM cI m9 sa tx th sv ln po lt fi sc nu ad rv) (wr := []) S (c_X4_begins l D (sz := s.heap.size) (cI := cI) (m9 := m9) (sa := sa) (tx := tx) (th := th) (sv := sv) (ln := ln) (po := po) (lt := lt) (fi := fi) (sc := sc) (nu := nu) (ad := ad) (rv := rv) (r := r) (hr := by omega)) (cwV 1 hts gX4_excludes_X4_begins rfl rfl rfl (by decide +kernel) ⟨Nat.le_of_ble_eq_true rfl, Nat.le_of_ble_eq_true rfl⟩) hw hA [0, 1, 2] [] [0] rfl rfl rfl (by decide) (by decide) (by decide) 0 rfl rfl rfl hl.1 (Nat.le_of_ble_eq_true rfl) ⟨Nat.le_of_ble_eq_true rfl, Nat.le_of_ble_eq_true rfl⟩ rfl dX4_excludes_2 (fun u_2 H locs e_2 hw => ?_)
  have hw : Wd D A [(cI, .int)] (wM cI m9 (bgM sa r) tx th sv ln po lt fi sc nu ad rv) s s.heap H locs := hw
  refine lv_aload_n hx hb dX4_excludes_5 rfl (lv_at hl 0 rfl) ?_
  refine lv_iload_n hx hb dX4_excludes_6 rfl (lv_at hl 1 rfl) ?_
  refine lv_iload_n hx hb dX4_excludes_7 rfl (lv_at hl 2 rfl) ?_
  refine lv_iload_n hx hb dX4_excludes_8 rfl (lv_at hl 3 rfl) ?_
  refine cu_Vi (As := [.int (nI r), .int (nI w), .int (nI c9)]) (rest := []) (wc := wM cI m9 (bgM sa r) tx th sv ln po lt fi sc nu ad rv) (wr := []) S (c_X4_clearsElement l D (sz := H.size) (cI := cI) (m9 := m9) (sa := bgM sa r) (tx := tx) (th := th) (sv := sv) (ln := ln) (po := po) (lt := lt) (fi := fi) (sc := sc) (nu := nu) (ad := ad) (rv := rv) (r := r) (w := w) (c9 := c9) (hr := by omega) (hw5 := by omega) (hc := by omega)) (cwV 3 hts gX4_excludes_X4_clearsElement rfl rfl rfl (by decide +kernel) ⟨Nat.le_of_ble_eq_true rfl, Nat.le_of_ble_eq_true rfl⟩) hw hA [0, 1, 2] [] [0] rfl rfl rfl (by decide) (by decide) (by decide) 0 rfl rfl rfl hl.1 (Nat.le_of_ble_eq_true rfl) ⟨Nat.le_of_ble_eq_true rfl, Nat.le_of_ble_eq_true rfl⟩ rfl dX4_excludes_9 (fun r_9 u_9 H locs e_9 hw => ?_)
  have hw : Wd D A [(cI, .int)] (wM cI m9 (clrE (bgM sa r) (888 + 4 * (16 * (6 * r + w) + c9)) 4) tx th sv ln po lt fi sc nu ad rv) s s.heap H locs := hw
  have e_9 : r_9 = nI (cntG (fun j9 => (bgM sa r) (888 + 4 * (16 * (6 * r + w) + c9) + j9)) 4) := e_9
  subst e_9
  exact hE () dX4_excludes_12 (rfl) (Nat.le_of_ble_eq_true rfl) (Nat.le_of_ble_eq_true rfl) (hw.sub [0, 1, 2] [] (by decide) rfl rfl) (show nI (cntG (fun j9 => (bgM sa r) (888 + 4 * (16 * (6 * r + w) + c9) + j9)) 4) = nI (cntG (fun j9 => bgM sa r (888 + 4 * (16 * (6 * r + w) + c9) + j9)) 4) from by first | rfl | (congr <;> omega) | simp_all)
abbrev rmX4_deletes : Room := { frames := 3, cells := 0, slots := 0, locals := 72 }
set_option maxHeartbeats 4000000 in
set_option maxRecDepth 100000 in
theorem c_X4_deletes (l : Launch) (D : va_G) (sz : Nat) (cI : ClassId) (m9 : Nat → Nat) (sa : Nat → Int32) (tx : Nat → Nat) (th : Int32) (sv ln po : Nat) (lt fi sc nu : Int32) (ad rv : Nat) (r w : Nat) (hr : r < 4) (hw5 : w < 6) : MUi l yX4_deletes wsX4_deletes rmX4_deletes [.ref (m9 0), .int (nI r), .int (nI w)] D [(cI, .int)] (wM cI m9 sa tx th sv ln po lt fi sc nu ad rv) sz (fun rz (_ : Unit) => rz = nI (dcA (bgM sa r) r w 4 + dcB (dlA (bgM sa r) r w 4) r w 16)) (fun _ => []) (fun _ => wM cI m9 (delM sa r w) tx th sv ln po lt fi sc nu ad rv) 0 0 := by
  refine met_u (own := RX4) (cc := cX4_deletes) (maxL := 5) (ty := .int) (by decide) rfl rfl (Nat.le_of_ble_eq_true rfl) ?_
  intro p e s m args below meth c Q A hsz S hw hA hE ls hl
  obtain ⟨hx, hb, hml, hown, hts⟩ := id S
  have hl : lv_has ls 5 [(0, .ref (m9 0)), (1, .int (nI r)), (2, .int (nI w))] := hl
  refine lv_aload_n hx hb dX4_deletes_0 rfl (lv_at hl 0 rfl) ?_
  refine lv_iload_n hx hb dX4_deletes_1 rfl (lv_at hl 1 rfl) ?_
  refine cu_Vv (As := [.int (nI r)]) (rest := []) (wc := wM cI m9 sa tx th sv ln po lt fi sc nu ad rv) (wr := []) S (c_X4_begins l D (sz := s.heap.size) (cI := cI) (m9 := m9) (sa := sa) (tx := tx) (th := th) (sv := sv) (ln := ln) (po := po) (lt := lt) (fi := fi) (sc := sc) (nu := nu) (ad := ad) (rv := rv) (r := r) (hr := by omega)) (cwV 1 hts gX4_deletes_X4_begins rfl rfl rfl (by decide +kernel) ⟨Nat.le_of_ble_eq_true rfl, Nat.le_of_ble_eq_true rfl⟩) hw hA [0, 1, 2] [] [0] rfl rfl rfl (by decide) (by decide) (by decide) 0 rfl rfl rfl hl.1 (Nat.le_of_ble_eq_true rfl) ⟨Nat.le_of_ble_eq_true rfl, Nat.le_of_ble_eq_true rfl⟩ rfl dX4_deletes_2 (fun u_2 H locs e_2 hw => ?_)
  have hw : Wd D A [(cI, .int)] (wM cI m9 (bgM sa r) tx th sv ln po lt fi sc nu ad rv) s s.heap H locs := hw
  refine lv_iconst (v := nI 0) hx hb dX4_deletes_5 kc_iconst_0 ?_
  refine lv_istore_n (lv' := [(3, .int (nI 0)), (0, .ref (m9 0)), (1, .int (nI r)), (2, .int (nI w))]) hx hb dX4_deletes_6 rfl hl (by decide) rfl (fun ls hl => ?_)
  refine lv_iconst (v := nI 0) hx hb dX4_deletes_7 kc_iconst_0 ?_
  refine lv_istore (lv' := [(4, .int (nI 0)), (3, .int (nI 0)), (0, .ref (m9 0)), (1, .int (nI r)), (2, .int (nI w))]) hx hb dX4_deletes_8 hl (by decide) rfl (fun ls hl => ?_)
  have L10_1 : ∀ (fu_2 k : Nat), k ≤ 4 → 4 - k < fu_2 → ∀ (H : Heap) (locs : List Loc), Wd D A [(cI, .int)] (wM cI m9 (dlA (bgM sa r) r w k) tx th sv ln po lt fi sc nu ad rv) s s.heap H locs → ∀ ls : Array Slot, lv_has ls 5 [(4, .int (nI k)), (3, .int (nI (dcA (bgM sa r) r w k))), (0, .ref (m9 0)), (1, .int (nI r)), (2, .int (nI w))] → W p l e rmX4_deletes s m args below meth c H locs 0 0 Q (F0 m 10 ls []) := by
    intro fu_2
    induction fu_2 with
    | zero => intro k _ h9; exact absurd h9 (Nat.not_lt_zero _)
    | succ fu_2 ih_10 =>
      intro k hk_10 hf_10 H locs hw ls hl
      refine lv_iload hx hb dX4_deletes_10 (lv_at hl 0 rfl) ?_
      refine lv_iconst (v := nI 4) hx hb dX4_deletes_12 kc_iconst_4 ?_
      refine r_icmp_geN (tgt := 33) hx hb (by omega) (by omega) dX4_deletes_13 (by decide) (fun c_13 => ?_) (fun c_13 => ?_)
      ·
        refine lv_iconst (v := nI 0) hx hb dX4_deletes_33 kc_iconst_0 ?_
        refine lv_istore (lv' := [(4, .int (nI 0)), (3, .int (nI (dcA (bgM sa r) r w k))), (0, .ref (m9 0)), (1, .int (nI r)), (2, .int (nI w))]) hx hb dX4_deletes_34 hl (by decide) rfl (fun ls hl => ?_)
        have L36_3 : ∀ (fu_4 j : Nat), j ≤ 16 → 16 - j < fu_4 → ∀ (H : Heap) (locs : List Loc), Wd D A [(cI, .int)] (wM cI m9 (dlB (dlA (bgM sa r) r w 4) r w j) tx th sv ln po lt fi sc nu ad rv) s s.heap H locs → ∀ ls : Array Slot, lv_has ls 5 [(4, .int (nI j)), (3, .int (nI (dcA (bgM sa r) r w 4 + dcB (dlA (bgM sa r) r w 4) r w j))), (0, .ref (m9 0)), (1, .int (nI r)), (2, .int (nI w))] → W p l e rmX4_deletes s m args below meth c H locs 0 0 Q (F0 m 36 ls []) := by
          intro fu_4
          induction fu_4 with
          | zero => intro j _ h9; exact absurd h9 (Nat.not_lt_zero _)
          | succ fu_4 ih_36 =>
            intro j hk_36 hf_36 H locs hw ls hl
            refine lv_iload hx hb dX4_deletes_36 (lv_at hl 0 rfl) ?_
            refine lv_bipush (v := nI 16) hx hb dX4_deletes_38 kc_bipush_16 ?_
            refine r_icmp_geN (tgt := 60) hx hb (by omega) (by omega) dX4_deletes_40 (by decide) (fun c_40 => ?_) (fun c_40 => ?_)
            ·
              refine lv_iload_n hx hb dX4_deletes_60 rfl (lv_at hl 1 rfl) ?_
              have ew : (wM cI m9 (dlB (dlA (bgM sa r) r w 4) r w j) tx th sv ln po lt fi sc nu ad rv) = (wM cI m9 (delM sa r w) tx th sv ln po lt fi sc nu ad rv) := by rw [show j = 16 by omega]; rfl
              rw [ew] at hw
              exact hE () dX4_deletes_61 (rfl) (Nat.le_of_ble_eq_true rfl) (Nat.le_of_ble_eq_true rfl) (hw.sub [0, 1, 2] [] (by decide) rfl rfl) (show nI (dcA (bgM sa r) r w 4 + dcB (dlA (bgM sa r) r w 4) r w j) = nI (dcA (bgM sa r) r w 4 + dcB (dlA (bgM sa r) r w 4) r w 16) from by rw [show j = 16 by omega])
            ·
              refine lv_iload_n hx hb dX4_deletes_43 rfl (lv_at hl 1 rfl) ?_
              refine lv_aload_n hx hb dX4_deletes_44 rfl (lv_at hl 2 rfl) ?_
              refine lv_iload_n hx hb dX4_deletes_45 rfl (lv_at hl 3 rfl) ?_
              refine lv_iload_n hx hb dX4_deletes_46 rfl (lv_at hl 4 rfl) ?_
              refine lv_iload hx hb dX4_deletes_47 (lv_at hl 0 rfl) ?_
              refine cu_Vi (As := [.int (nI r), .int (nI w), .int (nI j)]) (rest := [.int (nI (dcA (bgM sa r) r w 4 + dcB (dlA (bgM sa r) r w 4) r w j))]) (wc := wM cI m9 (dlB (dlA (bgM sa r) r w 4) r w j) tx th sv ln po lt fi sc nu ad rv) (wr := []) S (c_X4_clearsElement l D (sz := H.size) (cI := cI) (m9 := m9) (sa := dlB (dlA (bgM sa r) r w 4) r w j) (tx := tx) (th := th) (sv := sv) (ln := ln) (po := po) (lt := lt) (fi := fi) (sc := sc) (nu := nu) (ad := ad) (rv := rv) (r := r) (w := w) (c9 := j) (hr := by omega) (hw5 := by omega) (hc := by omega)) (cwV 3 hts gX4_deletes_X4_clearsElement rfl rfl rfl (by decide +kernel) ⟨Nat.le_of_ble_eq_true rfl, Nat.le_of_ble_eq_true rfl⟩) hw hA [0, 1, 2] [] [0] rfl rfl rfl (by decide) (by decide) (by decide) 0 rfl rfl rfl hl.1 (Nat.le_of_ble_eq_true rfl) ⟨Nat.le_of_ble_eq_true rfl, Nat.le_of_ble_eq_true rfl⟩ rfl dX4_deletes_49 (fun r_49 u_49 H locs e_49 hw => ?_)
              have hw : Wd D A [(cI, .int)] (wM cI m9 (clrE (dlB (dlA (bgM sa r) r w 4) r w j) (888 + 4 * (16 * (6 * r + w) + j)) 4) tx th sv ln po lt fi sc nu ad rv) s s.heap H locs := hw
              have e_49 : r_49 = nI (cntG (fun j9 => (dlB (dlA (bgM sa r) r w 4) r w j) (888 + 4 * (16 * (6 * r + w) + j) + j9)) 4) := e_49
              subst e_49
              refine r_addN hx hb dX4_deletes_52 ?_
              refine lv_istore_n (lv' := [(3, .int (nI ((dcA (bgM sa r) r w 4 + dcB (dlA (bgM sa r) r w 4) r w j) + (cntG (fun j9 => (dlB (dlA (bgM sa r) r w 4) r w j) (888 + 4 * (16 * (6 * r + w) + j) + j9)) 4)))), (4, .int (nI j)), (0, .ref (m9 0)), (1, .int (nI r)), (2, .int (nI w))]) hx hb dX4_deletes_53 rfl hl (by decide) rfl (fun ls hl => ?_)
              refine lv_iinc (v := nI (j + 1)) (lv' := [(4, .int (nI (j + 1))), (3, .int (nI ((dcA (bgM sa r) r w 4 + dcB (dlA (bgM sa r) r w 4) r w j) + (cntG (fun j9 => (dlB (dlA (bgM sa r) r w 4) r w j) (888 + 4 * (16 * (6 * r + w) + j) + j9)) 4)))), (0, .ref (m9 0)), (1, .int (nI r)), (2, .int (nI w))]) hx hb dX4_deletes_54 hl (k := 1) rfl (nI_add j 1) (by decide) rfl (fun ls hl => ?_)
              refine lv_goto (tgt := 36) hx hb dX4_deletes_57 (by decide) ?_
              have hl : lv_has ls 5 [(4, .int (nI (j + 1))), (3, .int (nI ((dcA (bgM sa r) r w 4 + dcB (dlA (bgM sa r) r w 4) r w j) + (cntG (fun j9 => (dlB (dlA (bgM sa r) r w 4) r w j) (888 + 4 * (16 * (6 * r + w) + j) + j9)) 4)))), (0, .ref (m9 0)), (1, .int (nI r)), (2, .int (nI w))] := lv_sub hl [0, 1, 2, 3, 4] rfl
              have hl : lv_has ls 5 [(4, .int (nI (j + 1))), (3, .int (nI (dcA (bgM sa r) r w 4 + dcB (dlA (bgM sa r) r w 4) r w (j + 1)))), (0, .ref (m9 0)), (1, .int (nI r)), (2, .int (nI w))] := lv_rep hl 1 rfl (congrArg (fun z => Value.int (nI z)) (show (dcA (bgM sa r) r w 4 + dcB (dlA (bgM sa r) r w 4) r w j) + (cntG (fun j9 => (dlB (dlA (bgM sa r) r w 4) r w j) (888 + 4 * (16 * (6 * r + w) + j) + j9)) 4) = dcA (bgM sa r) r w 4 + dcB (dlA (bgM sa r) r w 4) r w (j + 1) from Nat.add_assoc _ _ _))
              have hw : Wd D A [(cI, .int)] (wM cI m9 (dlB (dlA (bgM sa r) r w 4) r w (j + 1)) tx th sv ln po lt fi sc nu ad rv) s s.heap H locs := Eq.mp (congrArg (fun z9 => Wd D A [(cI, .int)] (wM cI m9 z9 tx th sv ln po lt fi sc nu ad rv) s s.heap H locs) (show clrE (dlB (dlA (bgM sa r) r w 4) r w j) (888 + 4 * (16 * (6 * r + w) + j)) 4 = dlB (dlA (bgM sa r) r w 4) r w (j + 1) from rfl)) hw
              exact ih_36 (j + 1) (by omega) (by omega) _ _ hw ls hl
        have hl : lv_has ls 5 [(4, .int (nI 0)), (3, .int (nI (dcA (bgM sa r) r w k))), (0, .ref (m9 0)), (1, .int (nI r)), (2, .int (nI w))] := lv_sub hl [0, 1, 2, 3, 4] rfl
        have hl : lv_has ls 5 [(4, .int (nI 0)), (3, .int (nI (dcA (bgM sa r) r w 4 + dcB (dlA (bgM sa r) r w 4) r w 0))), (0, .ref (m9 0)), (1, .int (nI r)), (2, .int (nI w))] := lv_rep hl 1 rfl (congrArg (fun z => Value.int (nI z)) (show dcA (bgM sa r) r w k = dcA (bgM sa r) r w 4 + dcB (dlA (bgM sa r) r w 4) r w 0 from by rw [show k = 4 by omega]; rfl))
        have hw : Wd D A [(cI, .int)] (wM cI m9 (dlB (dlA (bgM sa r) r w 4) r w 0) tx th sv ln po lt fi sc nu ad rv) s s.heap H locs := Eq.mp (congrArg (fun z9 => Wd D A [(cI, .int)] (wM cI m9 z9 tx th sv ln po lt fi sc nu ad rv) s s.heap H locs) (show dlA (bgM sa r) r w k = dlB (dlA (bgM sa r) r w 4) r w 0 from by rw [show k = 4 by omega]; rfl)) hw
        exact L36_3 (16 + 1) (0) (by omega) (by omega) _ _ hw ls hl
      ·
        refine lv_iload_n hx hb dX4_deletes_16 rfl (lv_at hl 1 rfl) ?_
        refine lv_aload_n hx hb dX4_deletes_17 rfl (lv_at hl 2 rfl) ?_
        refine lv_iload_n hx hb dX4_deletes_18 rfl (lv_at hl 3 rfl) ?_
        refine lv_iload_n hx hb dX4_deletes_19 rfl (lv_at hl 4 rfl) ?_
        refine lv_iload hx hb dX4_deletes_20 (lv_at hl 0 rfl) ?_
        refine cu_Vi (As := [.int (nI r), .int (nI w), .int (nI k)]) (rest := [.int (nI (dcA (bgM sa r) r w k))]) (wc := wM cI m9 (dlA (bgM sa r) r w k) tx th sv ln po lt fi sc nu ad rv) (wr := []) S (c_X4_clears l D (sz := H.size) (cI := cI) (m9 := m9) (sa := dlA (bgM sa r) r w k) (tx := tx) (th := th) (sv := sv) (ln := ln) (po := po) (lt := lt) (fi := fi) (sc := sc) (nu := nu) (ad := ad) (rv := rv) (r := r) (w := w) (c9 := k) (hr := by omega) (hw5 := by omega) (hc := by omega)) (cwV 3 hts gX4_deletes_X4_clears rfl rfl rfl (by decide +kernel) ⟨Nat.le_of_ble_eq_true rfl, Nat.le_of_ble_eq_true rfl⟩) hw hA [0, 1, 2] [] [0] rfl rfl rfl (by decide) (by decide) (by decide) 0 rfl rfl rfl hl.1 (Nat.le_of_ble_eq_true rfl) ⟨Nat.le_of_ble_eq_true rfl, Nat.le_of_ble_eq_true rfl⟩ rfl dX4_deletes_22 (fun r_22 u_22 H locs e_22 hw => ?_)
        have hw : Wd D A [(cI, .int)] (wM cI m9 (clrE (dlA (bgM sa r) r w k) (24 + 4 * (4 * (6 * r + w) + k)) 4) tx th sv ln po lt fi sc nu ad rv) s s.heap H locs := hw
        have e_22 : r_22 = nI (cntG (fun j9 => (dlA (bgM sa r) r w k) (24 + (4 * (4 * (6 * r + w) + k) + j9))) 4) := e_22
        subst e_22
        refine r_addN hx hb dX4_deletes_25 ?_
        refine lv_istore_n (lv' := [(3, .int (nI ((dcA (bgM sa r) r w k) + (cntG (fun j9 => (dlA (bgM sa r) r w k) (24 + (4 * (4 * (6 * r + w) + k) + j9))) 4)))), (4, .int (nI k)), (0, .ref (m9 0)), (1, .int (nI r)), (2, .int (nI w))]) hx hb dX4_deletes_26 rfl hl (by decide) rfl (fun ls hl => ?_)
        refine lv_iinc (v := nI (k + 1)) (lv' := [(4, .int (nI (k + 1))), (3, .int (nI ((dcA (bgM sa r) r w k) + (cntG (fun j9 => (dlA (bgM sa r) r w k) (24 + (4 * (4 * (6 * r + w) + k) + j9))) 4)))), (0, .ref (m9 0)), (1, .int (nI r)), (2, .int (nI w))]) hx hb dX4_deletes_27 hl (k := 1) rfl (nI_add k 1) (by decide) rfl (fun ls hl => ?_)
        refine lv_goto (tgt := 10) hx hb dX4_deletes_30 (by decide) ?_
        have hl : lv_has ls 5 [(4, .int (nI (k + 1))), (3, .int (nI ((dcA (bgM sa r) r w k) + (cntG (fun j9 => (dlA (bgM sa r) r w k) (24 + (4 * (4 * (6 * r + w) + k) + j9))) 4)))), (0, .ref (m9 0)), (1, .int (nI r)), (2, .int (nI w))] := lv_sub hl [0, 1, 2, 3, 4] rfl
        have hl : lv_has ls 5 [(4, .int (nI (k + 1))), (3, .int (nI (dcA (bgM sa r) r w (k + 1)))), (0, .ref (m9 0)), (1, .int (nI r)), (2, .int (nI w))] := lv_rep hl 1 rfl (congrArg (fun z => Value.int (nI z)) (show (dcA (bgM sa r) r w k) + (cntG (fun j9 => (dlA (bgM sa r) r w k) (24 + (4 * (4 * (6 * r + w) + k) + j9))) 4) = dcA (bgM sa r) r w (k + 1) from rfl))
        have hw : Wd D A [(cI, .int)] (wM cI m9 (dlA (bgM sa r) r w (k + 1)) tx th sv ln po lt fi sc nu ad rv) s s.heap H locs := Eq.mp (congrArg (fun z9 => Wd D A [(cI, .int)] (wM cI m9 z9 tx th sv ln po lt fi sc nu ad rv) s s.heap H locs) (show clrE (dlA (bgM sa r) r w k) (24 + 4 * (4 * (6 * r + w) + k)) 4 = dlA (bgM sa r) r w (k + 1) from rfl)) hw
        exact ih_10 (k + 1) (by omega) (by omega) _ _ hw ls hl
  have hl : lv_has ls 5 [(4, .int (nI 0)), (3, .int (nI 0)), (0, .ref (m9 0)), (1, .int (nI r)), (2, .int (nI w))] := lv_sub hl [0, 1, 2, 3, 4] rfl
  have hl : lv_has ls 5 [(4, .int (nI 0)), (3, .int (nI (dcA (bgM sa r) r w 0))), (0, .ref (m9 0)), (1, .int (nI r)), (2, .int (nI w))] := lv_rep hl 1 rfl (congrArg (fun z => Value.int (nI z)) (show 0 = dcA (bgM sa r) r w 0 from rfl))
  have hw : Wd D A [(cI, .int)] (wM cI m9 (dlA (bgM sa r) r w 0) tx th sv ln po lt fi sc nu ad rv) s s.heap H locs := Eq.mp (congrArg (fun z9 => Wd D A [(cI, .int)] (wM cI m9 z9 tx th sv ln po lt fi sc nu ad rv) s s.heap H locs) (show bgM sa r = dlA (bgM sa r) r w 0 from rfl)) hw
  exact L10_1 (4 + 1) (0) (by omega) (by omega) _ _ hw ls hl
abbrev rmX4_way : Room := { frames := 1, cells := 0, slots := 0, locals := 22 }
set_option maxHeartbeats 4000000 in
set_option maxRecDepth 100000 in
theorem c_X4_way (l : Launch) (D : va_G) (sz : Nat) (cI : ClassId) (m9 : Nat → Nat) (sa : Nat → Int32) (tx : Nat → Nat) (th : Int32) (sv ln po : Nat) (lt fi sc nu : Int32) (ad rv : Nat) (f t k9 : Nat) (a9 b9 : Int32) (hf4 : f < 4) (ht4 : t < 4) (hk9 : k9 < 4) : MUi l yX4_way wsX4_way rmX4_way [.ref (m9 0), .int (nI f), .int (nI t), .int (nI k9), .int a9, .int b9] D [(cI, .int)] (wM cI m9 sa tx th sv ln po lt fi sc nu ad rv) sz (fun rz (_ : Unit) => rz = wyM sa f t k9 a9 b9) (fun _ => []) (fun _ => wM cI m9 sa tx th sv ln po lt fi sc nu (ad + waM sa t k9 a9 b9) (rv + wrM sa f k9 a9 b9)) 0 0 := by
  refine met_u (own := RX4) (cc := cX4_way) (maxL := 8) (ty := .int) (by decide) rfl rfl (Nat.le_of_ble_eq_true rfl) ?_
  intro p e s m args below meth c Q A hsz S hw hA hE ls hl
  obtain ⟨hx, hb, hml, hown, hts⟩ := id S
  have k69 := hts (.fieldLink RX4 69 "CausalTableModel" "removed" "I") (by decide +kernel)
  have hin4 := (show ∀ w ∈ wsX40, w ∈ wsX4_way by decide +kernel)
  have k72 := hts (.fieldLink RX4 72 "CausalTableModel" "added" "I") (by decide +kernel)
  have hl : lv_has ls 8 [(0, .ref (m9 0)), (1, .int (nI f)), (2, .int (nI t)), (3, .int (nI k9)), (4, .int a9), (5, .int b9)] := hl
  refine lv_iload hx hb dX4_way_0 (lv_at hl 4 rfl) ?_
  refine lv_iload hx hb dX4_way_2 (lv_at hl 5 rfl) ?_
  refine lv_icmp_ne (tgt := 9) hx hb dX4_way_4 (by decide) (fun c_4 => ?_) (fun c_4 => ?_)
  ·
    refine lv_iload hx hb dX4_way_9 (lv_at hl 5 rfl) ?_
    have J30_1 : ∀ ls : Array Slot, lv_has ls 8 [(0, .ref (m9 0)), (1, .int (nI f)), (2, .int (nI t)), (3, .int (nI k9)), (4, .int a9), (5, .int b9)] → W p l e rmX4_way s m args below meth c s.heap [] 0 0 Q (F0 m 30 ls [.int (b2 (goP sa f k9 b9))]) := by
      intro ls hl
      refine lv_istore (lv' := [(6, .int (b2 (goP sa f k9 b9))), (0, .ref (m9 0)), (1, .int (nI f)), (2, .int (nI t)), (3, .int (nI k9)), (4, .int a9), (5, .int b9)]) hx hb dX4_way_30 hl (by decide) rfl (fun ls hl => ?_)
      refine lv_iload hx hb dX4_way_32 (lv_at hl 5 rfl) ?_
      have J53_2 : ∀ ls : Array Slot, lv_has ls 8 [(6, .int (b2 (goP sa f k9 b9))), (0, .ref (m9 0)), (1, .int (nI f)), (2, .int (nI t)), (3, .int (nI k9)), (4, .int a9), (5, .int b9)] → W p l e rmX4_way s m args below meth c s.heap [] 0 0 Q (F0 m 53 ls [.int (b2 (coP sa t k9 a9))]) := by
        intro ls hl
        refine lv_istore (lv' := [(7, .int (b2 (coP sa t k9 a9))), (6, .int (b2 (goP sa f k9 b9))), (0, .ref (m9 0)), (1, .int (nI f)), (2, .int (nI t)), (3, .int (nI k9)), (4, .int a9), (5, .int b9)]) hx hb dX4_way_53 hl (by decide) rfl (fun ls hl => ?_)
        refine lv_aload_n hx hb dX4_way_55 rfl (lv_at hl 2 rfl) ?_
        refine lv_dup hx hb dX4_way_56 rfl ?_
        refine r_get hx hb hts hown hw.q 0 11 hin4 rfl rfl (by decide) k69 rfl dX4_way_57 ?_
        refine lv_iload hx hb dX4_way_60 (lv_at hl 1 rfl) ?_
        have J70_3 : ∀ ls : Array Slot, lv_has ls 8 [(7, .int (b2 (coP sa t k9 a9))), (6, .int (b2 (goP sa f k9 b9))), (0, .ref (m9 0)), (1, .int (nI f)), (2, .int (nI t)), (3, .int (nI k9)), (4, .int a9), (5, .int b9)] → W p l e rmX4_way s m args below meth c s.heap [] 0 0 Q (F0 m 70 ls [.int (nI (wrM sa f k9 a9 b9)), .int (nI rv), .ref (m9 0)]) := by
          intro ls hl
          refine r_addN hx hb dX4_way_70 ?_
          refine r_put hx hb hts hown hw 0 11 (ty := .int) tyX4 tyX4_ok nmX4 hin4 rfl rfl (by decide) k69 rfl (by decide +kernel) rfl rfl (Nat.le_of_ble_eq_true rfl) dX4_way_71 (fun H locs hw => ?_)
          have hw : Wd D A [(cI, .int)] (wM cI m9 sa tx th sv ln po lt fi sc nu ad (rv + (wrM sa f k9 a9 b9))) s s.heap H locs := hw
          refine lv_aload_n hx hb dX4_way_74 rfl (lv_at hl 2 rfl) ?_
          refine lv_dup hx hb dX4_way_75 rfl ?_
          refine r_get hx hb hts hown hw.q 0 10 hin4 rfl rfl (by decide) k72 rfl dX4_way_76 ?_
          refine lv_iload hx hb dX4_way_79 (lv_at hl 0 rfl) ?_
          have J89_4 : ∀ ls : Array Slot, lv_has ls 8 [(7, .int (b2 (coP sa t k9 a9))), (6, .int (b2 (goP sa f k9 b9))), (0, .ref (m9 0)), (1, .int (nI f)), (2, .int (nI t)), (3, .int (nI k9)), (4, .int a9), (5, .int b9)] → W p l e rmX4_way s m args below meth c H locs 0 0 Q (F0 m 89 ls [.int (nI (waM sa t k9 a9 b9)), .int (nI ad), .ref (m9 0)]) := by
            intro ls hl
            refine r_addN hx hb dX4_way_89 ?_
            refine r_put hx hb hts hown hw 0 10 (ty := .int) tyX4 tyX4_ok nmX4 hin4 rfl rfl (by decide) k72 rfl (by decide +kernel) rfl rfl (Nat.le_of_ble_eq_true rfl) dX4_way_90 (fun H locs hw => ?_)
            have hw : Wd D A [(cI, .int)] (wM cI m9 sa tx th sv ln po lt fi sc nu (ad + (waM sa t k9 a9 b9)) (rv + (wrM sa f k9 a9 b9))) s s.heap H locs := hw
            refine lv_iload hx hb dX4_way_93 (lv_at hl 0 rfl) ?_
            refine r_if_eqB (tgt := 102) hx hb dX4_way_95 (by decide) (fun c_95 => ?_) (fun c_95 => ?_)
            ·
              refine lv_iload hx hb dX4_way_102 (lv_at hl 1 rfl) ?_
              refine r_if_eqB (tgt := 111) hx hb dX4_way_104 (by decide) (fun c_104 => ?_) (fun c_104 => ?_)
              ·
                refine lv_iconst (v := nI 0) hx hb dX4_way_111 kc_iconst_0 ?_
                have ew : (wM cI m9 sa tx th sv ln po lt fi sc nu (ad + (waM sa t k9 a9 b9)) (rv + (wrM sa f k9 a9 b9))) = (wM cI m9 sa tx th sv ln po lt fi sc nu (ad + waM sa t k9 a9 b9) (rv + wrM sa f k9 a9 b9)) := rfl
                rw [ew] at hw
                exact hE () dX4_way_112 (rfl) (Nat.le_of_ble_eq_true rfl) (Nat.le_of_ble_eq_true rfl) (hw.sub [0, 1, 2] [] (by decide) rfl rfl) (show nI 0 = wyM sa f t k9 a9 b9 from by first | rw [wyM, if_neg c_4, if_pos c_95] | rw [wyM, if_neg c_4, if_neg c_95, if_pos c_104] | rw [wyM, if_neg c_4, if_neg c_95, if_neg c_104])
              ·
                refine lv_iconst (v := (-1)) hx hb dX4_way_107 kc_iconst_m1 ?_
                refine lv_goto (tgt := 112) hx hb dX4_way_108 (by decide) ?_
                have ew : (wM cI m9 sa tx th sv ln po lt fi sc nu (ad + (waM sa t k9 a9 b9)) (rv + (wrM sa f k9 a9 b9))) = (wM cI m9 sa tx th sv ln po lt fi sc nu (ad + waM sa t k9 a9 b9) (rv + wrM sa f k9 a9 b9)) := rfl
                rw [ew] at hw
                exact hE () dX4_way_112 (rfl) (Nat.le_of_ble_eq_true rfl) (Nat.le_of_ble_eq_true rfl) (hw.sub [0, 1, 2] [] (by decide) rfl rfl) (show (-1) = wyM sa f t k9 a9 b9 from by first | rw [wyM, if_neg c_4, if_pos c_95] | rw [wyM, if_neg c_4, if_neg c_95, if_pos c_104] | rw [wyM, if_neg c_4, if_neg c_95, if_neg c_104])
            ·
              refine lv_iconst (v := nI 1) hx hb dX4_way_98 kc_iconst_1 ?_
              refine lv_goto (tgt := 112) hx hb dX4_way_99 (by decide) ?_
              have ew : (wM cI m9 sa tx th sv ln po lt fi sc nu (ad + (waM sa t k9 a9 b9)) (rv + (wrM sa f k9 a9 b9))) = (wM cI m9 sa tx th sv ln po lt fi sc nu (ad + waM sa t k9 a9 b9) (rv + wrM sa f k9 a9 b9)) := rfl
              rw [ew] at hw
              exact hE () dX4_way_112 (rfl) (Nat.le_of_ble_eq_true rfl) (Nat.le_of_ble_eq_true rfl) (hw.sub [0, 1, 2] [] (by decide) rfl rfl) (show nI 1 = wyM sa f t k9 a9 b9 from by first | rw [wyM, if_neg c_4, if_pos c_95] | rw [wyM, if_neg c_4, if_neg c_95, if_pos c_104] | rw [wyM, if_neg c_4, if_neg c_95, if_neg c_104])
          refine r_if_eqB (tgt := 88) hx hb dX4_way_81 (by decide) (fun c_81 => ?_) (fun c_81 => ?_)
          ·
            refine lv_iconst (v := nI 0) hx hb dX4_way_88 kc_iconst_0 ?_
            have hl : lv_has ls 8 [(7, .int (b2 (coP sa t k9 a9))), (6, .int (b2 (goP sa f k9 b9))), (0, .ref (m9 0)), (1, .int (nI f)), (2, .int (nI t)), (3, .int (nI k9)), (4, .int a9), (5, .int b9)] := lv_sub hl [0, 1, 2, 3, 4, 5, 6, 7] rfl
            refine r_top hx (show nI 0 = nI (waM sa t k9 a9 b9) from by first | rw [waM, if_neg c_4, if_pos c_81] | rw [waM, if_neg c_4, if_neg c_81]) ?_
            exact J89_4 ls hl
          ·
            refine lv_iconst (v := nI 1) hx hb dX4_way_84 kc_iconst_1 ?_
            refine lv_goto (tgt := 89) hx hb dX4_way_85 (by decide) ?_
            have hl : lv_has ls 8 [(7, .int (b2 (coP sa t k9 a9))), (6, .int (b2 (goP sa f k9 b9))), (0, .ref (m9 0)), (1, .int (nI f)), (2, .int (nI t)), (3, .int (nI k9)), (4, .int a9), (5, .int b9)] := lv_sub hl [0, 1, 2, 3, 4, 5, 6, 7] rfl
            refine r_top hx (show nI 1 = nI (waM sa t k9 a9 b9) from by first | rw [waM, if_neg c_4, if_pos c_81] | rw [waM, if_neg c_4, if_neg c_81]) ?_
            exact J89_4 ls hl
        refine r_if_eqB (tgt := 69) hx hb dX4_way_62 (by decide) (fun c_62 => ?_) (fun c_62 => ?_)
        ·
          refine lv_iconst (v := nI 0) hx hb dX4_way_69 kc_iconst_0 ?_
          have hl : lv_has ls 8 [(7, .int (b2 (coP sa t k9 a9))), (6, .int (b2 (goP sa f k9 b9))), (0, .ref (m9 0)), (1, .int (nI f)), (2, .int (nI t)), (3, .int (nI k9)), (4, .int a9), (5, .int b9)] := lv_sub hl [0, 1, 2, 3, 4, 5, 6, 7] rfl
          refine r_top hx (show nI 0 = nI (wrM sa f k9 a9 b9) from by first | rw [wrM, if_neg c_4, if_pos c_62] | rw [wrM, if_neg c_4, if_neg c_62]) ?_
          exact J70_3 ls hl
        ·
          refine lv_iconst (v := nI 1) hx hb dX4_way_65 kc_iconst_1 ?_
          refine lv_goto (tgt := 70) hx hb dX4_way_66 (by decide) ?_
          have hl : lv_has ls 8 [(7, .int (b2 (coP sa t k9 a9))), (6, .int (b2 (goP sa f k9 b9))), (0, .ref (m9 0)), (1, .int (nI f)), (2, .int (nI t)), (3, .int (nI k9)), (4, .int a9), (5, .int b9)] := lv_sub hl [0, 1, 2, 3, 4, 5, 6, 7] rfl
          refine r_top hx (show nI 1 = nI (wrM sa f k9 a9 b9) from by first | rw [wrM, if_neg c_4, if_pos c_62] | rw [wrM, if_neg c_4, if_neg c_62]) ?_
          exact J70_3 ls hl
      refine lv_if_le (tgt := 52) hx hb dX4_way_34 (by decide) (fun c_34 => ?_) (fun c_34 => ?_)
      ·
        refine lv_iconst (v := nI 0) hx hb dX4_way_52 kc_iconst_0 ?_
        have hl : lv_has ls 8 [(6, .int (b2 (goP sa f k9 b9))), (0, .ref (m9 0)), (1, .int (nI f)), (2, .int (nI t)), (3, .int (nI k9)), (4, .int a9), (5, .int b9)] := lv_sub hl [0, 1, 2, 3, 4, 5, 6] rfl
        refine r_top hx (show nI 0 = b2 (coP sa t k9 a9) from by first | exact ret1 ⟨c_34, c_45⟩ | exact ret0 (fun h => h.1 c_34) | exact ret0 (fun h => h.2 c_45)) ?_
        exact J53_2 ls hl
      ·
        refine lv_aload_n hx hb dX4_way_37 rfl (lv_at hl 1 rfl) ?_
        refine lv_iload_n hx hb dX4_way_38 rfl (lv_at hl 3 rfl) ?_
        refine lv_iload_n hx hb dX4_way_39 rfl (lv_at hl 4 rfl) ?_
        refine cq_V (As := [.int (nI t), .int (nI k9)]) (rest := []) S (c_X4_seenBy l D (cI := cI) (m9 := m9) (sa := sa) (tx := tx) (th := th) (sv := sv) (ln := ln) (po := po) (lt := lt) (fi := fi) (sc := sc) (nu := nu) (ad := ad) (rv := rv) (a9 := t) (b9 := k9) (ha9 := by omega) (hb9 := by omega)) (cwV 2 hts gX4_way_X4_seenBy rfl rfl rfl (by decide +kernel) ⟨Nat.le_of_ble_eq_true rfl, Nat.le_of_ble_eq_true rfl⟩) (hw.q.sub [0, 1, 2] [0] rfl rfl) 0 rfl rfl rfl hl.1 (Nat.le_of_ble_eq_true rfl) ⟨Nat.le_of_ble_eq_true rfl, Nat.le_of_ble_eq_true rfl⟩ rfl dX4_way_40 (fun r_40 e_40 => ?_)
        have e_40 : r_40 = sa (0 + 4 * t + k9) := e_40
        subst e_40
        refine lv_iload hx hb dX4_way_43 (lv_at hl 5 rfl) ?_
        refine lv_icmp_ge (tgt := 52) hx hb dX4_way_45 (by decide) (fun c_45 => ?_) (fun c_45 => ?_)
        ·
          refine lv_iconst (v := nI 0) hx hb dX4_way_52 kc_iconst_0 ?_
          have hl : lv_has ls 8 [(6, .int (b2 (goP sa f k9 b9))), (0, .ref (m9 0)), (1, .int (nI f)), (2, .int (nI t)), (3, .int (nI k9)), (4, .int a9), (5, .int b9)] := lv_sub hl [0, 1, 2, 3, 4, 5, 6] rfl
          refine r_top hx (show nI 0 = b2 (coP sa t k9 a9) from by first | exact ret1 ⟨c_34, c_45⟩ | exact ret0 (fun h => h.1 c_34) | exact ret0 (fun h => h.2 c_45)) ?_
          exact J53_2 ls hl
        ·
          refine lv_iconst (v := nI 1) hx hb dX4_way_48 kc_iconst_1 ?_
          refine lv_goto (tgt := 53) hx hb dX4_way_49 (by decide) ?_
          have hl : lv_has ls 8 [(6, .int (b2 (goP sa f k9 b9))), (0, .ref (m9 0)), (1, .int (nI f)), (2, .int (nI t)), (3, .int (nI k9)), (4, .int a9), (5, .int b9)] := lv_sub hl [0, 1, 2, 3, 4, 5, 6] rfl
          refine r_top hx (show nI 1 = b2 (coP sa t k9 a9) from by first | exact ret1 ⟨c_34, c_45⟩ | exact ret0 (fun h => h.1 c_34) | exact ret0 (fun h => h.2 c_45)) ?_
          exact J53_2 ls hl
    refine lv_if_le (tgt := 29) hx hb dX4_way_11 (by decide) (fun c_11 => ?_) (fun c_11 => ?_)
    ·
      refine lv_iconst (v := nI 0) hx hb dX4_way_29 kc_iconst_0 ?_
      have hl : lv_has ls 8 [(0, .ref (m9 0)), (1, .int (nI f)), (2, .int (nI t)), (3, .int (nI k9)), (4, .int a9), (5, .int b9)] := lv_sub hl [0, 1, 2, 3, 4, 5] rfl
      refine r_top hx (show nI 0 = b2 (goP sa f k9 b9) from by first | exact ret1 ⟨c_11, c_22⟩ | exact ret0 (fun h => h.1 c_11) | exact ret0 (fun h => h.2 c_22)) ?_
      exact J30_1 ls hl
    ·
      refine lv_aload_n hx hb dX4_way_14 rfl (lv_at hl 0 rfl) ?_
      refine lv_iload_n hx hb dX4_way_15 rfl (lv_at hl 1 rfl) ?_
      refine lv_iload_n hx hb dX4_way_16 rfl (lv_at hl 3 rfl) ?_
      refine cq_V (As := [.int (nI f), .int (nI k9)]) (rest := []) S (c_X4_seenBy l D (cI := cI) (m9 := m9) (sa := sa) (tx := tx) (th := th) (sv := sv) (ln := ln) (po := po) (lt := lt) (fi := fi) (sc := sc) (nu := nu) (ad := ad) (rv := rv) (a9 := f) (b9 := k9) (ha9 := by omega) (hb9 := by omega)) (cwV 2 hts gX4_way_X4_seenBy rfl rfl rfl (by decide +kernel) ⟨Nat.le_of_ble_eq_true rfl, Nat.le_of_ble_eq_true rfl⟩) (hw.q.sub [0, 1, 2] [0] rfl rfl) 0 rfl rfl rfl hl.1 (Nat.le_of_ble_eq_true rfl) ⟨Nat.le_of_ble_eq_true rfl, Nat.le_of_ble_eq_true rfl⟩ rfl dX4_way_17 (fun r_17 e_17 => ?_)
      have e_17 : r_17 = sa (0 + 4 * f + k9) := e_17
      subst e_17
      refine lv_iload hx hb dX4_way_20 (lv_at hl 5 rfl) ?_
      refine lv_icmp_lt (tgt := 29) hx hb dX4_way_22 (by decide) (fun c_22 => ?_) (fun c_22 => ?_)
      ·
        refine lv_iconst (v := nI 0) hx hb dX4_way_29 kc_iconst_0 ?_
        have hl : lv_has ls 8 [(0, .ref (m9 0)), (1, .int (nI f)), (2, .int (nI t)), (3, .int (nI k9)), (4, .int a9), (5, .int b9)] := lv_sub hl [0, 1, 2, 3, 4, 5] rfl
        refine r_top hx (show nI 0 = b2 (goP sa f k9 b9) from by first | exact ret1 ⟨c_11, c_22⟩ | exact ret0 (fun h => h.1 c_11) | exact ret0 (fun h => h.2 c_22)) ?_
        exact J30_1 ls hl
      ·
        refine lv_iconst (v := nI 1) hx hb dX4_way_25 kc_iconst_1 ?_
        refine lv_goto (tgt := 30) hx hb dX4_way_26 (by decide) ?_
        have hl : lv_has ls 8 [(0, .ref (m9 0)), (1, .int (nI f)), (2, .int (nI t)), (3, .int (nI k9)), (4, .int a9), (5, .int b9)] := lv_sub hl [0, 1, 2, 3, 4, 5] rfl
        refine r_top hx (show nI 1 = b2 (goP sa f k9 b9) from by first | exact ret1 ⟨c_11, c_22⟩ | exact ret0 (fun h => h.1 c_11) | exact ret0 (fun h => h.2 c_22)) ?_
        exact J30_1 ls hl
  ·
    refine lv_iconst (v := nI 0) hx hb dX4_way_7 kc_iconst_0 ?_
    have ew : (wM cI m9 sa tx th sv ln po lt fi sc nu ad rv) = (wM cI m9 sa tx th sv ln po lt fi sc nu (ad + waM sa t k9 a9 b9) (rv + wrM sa f k9 a9 b9)) := by rw [waM, if_pos c_4, wrM, if_pos c_4]; rfl
    rw [ew] at hw
    exact hE () dX4_way_8 (rfl) (Nat.le_of_ble_eq_true rfl) (Nat.le_of_ble_eq_true rfl) (hw.sub [0, 1, 2] [] (by decide) rfl rfl) (show nI 0 = wyM sa f t k9 a9 b9 from by rw [wyM, if_pos c_4])
abbrev rmX4_mergesElements_0 : Room := { frames := 2, cells := 0, slots := 0, locals := 49 }
set_option maxHeartbeats 4000000 in
set_option maxRecDepth 100000 in
theorem c_X4_mergesElements_0 (l : Launch) (D : va_G) (sz : Nat) (cI : ClassId) (m9 : Nat → Nat) (sa : Nat → Int32) (tx : Nat → Nat) (th : Int32) (sv ln po : Nat) (lt fi sc nu : Int32) (ad rv : Nat) (f t : Nat) (hf4 : f < 4) (ht4 : t < 4) : MUv l yX4_mergesElements wsX4_mergesElements rmX4_mergesElements_0 [.ref (m9 0), .int (nI f), .int (nI t), .int (nI 0)] D [(cI, .int)] (wM cI m9 sa tx th sv ln po lt fi sc nu ad rv) sz (fun (_ : Unit) => True) (fun _ => []) (fun _ => wM cI m9 ((meM false f t (sa, ad, rv) 384).1) tx th sv ln po lt fi sc nu ((meM false f t (sa, ad, rv) 384).2.1) ((meM false f t (sa, ad, rv) 384).2.2)) 0 0 := by
  refine met_v (own := RX4) (cc := cX4_mergesElements) (maxL := 8) (by decide) rfl rfl (Nat.le_of_ble_eq_true rfl) ?_
  intro p e s m args below meth c Q A hsz S hmn hw hA hE ls hl
  obtain ⟨hx, hb, hml, hown, hts⟩ := id S
  have k7 := hts (.fieldLink RX4 7 "CausalTableModel" "s" "[I") (by decide +kernel)
  have hin4 := (show ∀ w ∈ wsX40, w ∈ wsX4_mergesElements by decide +kernel)
  have hl : lv_has ls 8 [(0, .ref (m9 0)), (1, .int (nI f)), (2, .int (nI t)), (3, .int (nI 0))] := hl
  refine lv_iconst (v := nI 0) hx hb dX4_mergesElements_0 kc_iconst_0 ?_
  refine lv_istore (lv' := [(4, .int (nI 0)), (0, .ref (m9 0)), (1, .int (nI f)), (2, .int (nI t)), (3, .int (nI 0))]) hx hb dX4_mergesElements_1 hl (by decide) rfl (fun ls hl => ?_)
  have L3_1 : ∀ (fu_2 k : Nat), k ≤ 384 → 384 - k < fu_2 → ∀ (H : Heap) (locs : List Loc), Wd D A [(cI, .int)] (wM cI m9 ((meM false f t (sa, ad, rv) k).1) tx th sv ln po lt fi sc nu ((meM false f t (sa, ad, rv) k).2.1) ((meM false f t (sa, ad, rv) k).2.2)) s s.heap H locs → ∀ ls : Array Slot, lv_has ls 8 [(4, .int (nI k)), (0, .ref (m9 0)), (1, .int (nI f)), (2, .int (nI t)), (3, .int (nI 0))] → W p l e rmX4_mergesElements_0 s m args below meth c H locs 0 0 Q (F0 m 3 ls []) := by
    intro fu_2
    induction fu_2 with
    | zero => intro k _ h9; exact absurd h9 (Nat.not_lt_zero _)
    | succ fu_2 ih_3 =>
      intro k hk_3 hf_3 H locs hw ls hl
      refine lv_iload hx hb dX4_mergesElements_3 (lv_at hl 0 rfl) ?_
      refine lv_sipush (v := nI 384) hx hb dX4_mergesElements_5 kc_sipush_384 ?_
      refine r_icmp_geN (tgt := 108) hx hb (by omega) (by omega) dX4_mergesElements_8 (by decide) (fun c_8 => ?_) (fun c_8 => ?_)
      ·
        have ew : (wM cI m9 ((meM false f t (sa, ad, rv) k).1) tx th sv ln po lt fi sc nu ((meM false f t (sa, ad, rv) k).2.1) ((meM false f t (sa, ad, rv) k).2.2)) = (wM cI m9 ((meM false f t (sa, ad, rv) 384).1) tx th sv ln po lt fi sc nu ((meM false f t (sa, ad, rv) 384).2.1) ((meM false f t (sa, ad, rv) 384).2.2)) := by rw [show k = 384 by omega]
        rw [ew] at hw
        exact hE () dX4_mergesElements_108 (Nat.le_of_ble_eq_true rfl) (Nat.le_of_ble_eq_true rfl) (hw.sub [0, 1, 2] [] (by decide) rfl rfl) trivial
      ·
        refine lv_sipush (v := nI 888) hx hb dX4_mergesElements_11 kc_sipush_888 ?_
        refine lv_sipush (v := nI 384) hx hb dX4_mergesElements_14 kc_sipush_384 ?_
        refine lv_iload_n hx hb dX4_mergesElements_17 rfl (lv_at hl 3 rfl) ?_
        refine r_mulN hx hb dX4_mergesElements_18 ?_
        refine r_addN hx hb dX4_mergesElements_19 ?_
        refine lv_iload hx hb dX4_mergesElements_20 (lv_at hl 0 rfl) ?_
        refine r_addN hx hb dX4_mergesElements_22 ?_
        refine lv_istore (lv' := [(5, .int (nI ((888 + (384 * t)) + k))), (4, .int (nI k)), (0, .ref (m9 0)), (1, .int (nI f)), (2, .int (nI t)), (3, .int (nI 0))]) hx hb dX4_mergesElements_23 hl (by decide) rfl (fun ls hl => ?_)
        refine lv_aload_n hx hb dX4_mergesElements_25 rfl (lv_at hl 2 rfl) ?_
        refine r_get hx hb hts hown hw.q 0 1 hin4 rfl rfl (by decide) k7 rfl dX4_mergesElements_26 ?_
        refine lv_sipush (v := nI 888) hx hb dX4_mergesElements_29 kc_sipush_888 ?_
        refine lv_sipush (v := nI 384) hx hb dX4_mergesElements_32 kc_sipush_384 ?_
        refine lv_iload_n hx hb dX4_mergesElements_35 rfl (lv_at hl 3 rfl) ?_
        refine r_mulN hx hb dX4_mergesElements_36 ?_
        refine r_addN hx hb dX4_mergesElements_37 ?_
        refine lv_iload hx hb dX4_mergesElements_38 (lv_at hl 1 rfl) ?_
        refine r_addN hx hb dX4_mergesElements_40 ?_
        refine r_ald hx hb hw.q 1 0 rfl rfl (i := (888 + (384 * f)) + k) (by omega) (by decide) dX4_mergesElements_41 ?_
        refine lv_istore (lv' := [(6, .int (((meM false f t (sa, ad, rv) k).1) ((888 + (384 * f)) + k))), (5, .int (nI ((888 + (384 * t)) + k))), (4, .int (nI k)), (0, .ref (m9 0)), (1, .int (nI f)), (2, .int (nI t)), (3, .int (nI 0))]) hx hb dX4_mergesElements_42 hl (by decide) rfl (fun ls hl => ?_)
        refine lv_aload_n hx hb dX4_mergesElements_44 rfl (lv_at hl 3 rfl) ?_
        refine lv_iload_n hx hb dX4_mergesElements_45 rfl (lv_at hl 4 rfl) ?_
        refine lv_iload_n hx hb dX4_mergesElements_46 rfl (lv_at hl 5 rfl) ?_
        refine lv_iload hx hb dX4_mergesElements_47 (lv_at hl 2 rfl) ?_
        refine lv_iconst (v := nI 4) hx hb dX4_mergesElements_49 kc_iconst_4 ?_
        refine r_remN hx hb (by omega) (by omega) (by omega) dX4_mergesElements_50 ?_
        refine lv_iload hx hb dX4_mergesElements_51 (lv_at hl 0 rfl) ?_
        refine lv_aload_n hx hb dX4_mergesElements_53 rfl (lv_at hl 3 rfl) ?_
        refine r_get hx hb hts hown hw.q 0 1 hin4 rfl rfl (by decide) k7 rfl dX4_mergesElements_54 ?_
        refine lv_iload hx hb dX4_mergesElements_57 (lv_at hl 1 rfl) ?_
        refine r_ald hx hb hw.q 1 0 rfl rfl (i := (888 + (384 * t)) + k) (by omega) (by decide) dX4_mergesElements_59 ?_
        refine cu_Vi (As := [.int (nI f), .int (nI t), .int (nI (k % 4)), .int (((meM false f t (sa, ad, rv) k).1) ((888 + (384 * f)) + k)), .int (((meM false f t (sa, ad, rv) k).1) ((888 + (384 * t)) + k))]) (rest := []) (wc := wM cI m9 ((meM false f t (sa, ad, rv) k).1) tx th sv ln po lt fi sc nu ((meM false f t (sa, ad, rv) k).2.1) ((meM false f t (sa, ad, rv) k).2.2)) (wr := []) S (c_X4_way l D (sz := H.size) (cI := cI) (m9 := m9) (sa := (meM false f t (sa, ad, rv) k).1) (tx := tx) (th := th) (sv := sv) (ln := ln) (po := po) (lt := lt) (fi := fi) (sc := sc) (nu := nu) (ad := (meM false f t (sa, ad, rv) k).2.1) (rv := (meM false f t (sa, ad, rv) k).2.2) (f := f) (t := t) (k9 := k % 4) (a9 := ((meM false f t (sa, ad, rv) k).1) ((888 + (384 * f)) + k)) (b9 := ((meM false f t (sa, ad, rv) k).1) ((888 + (384 * t)) + k)) (hf4 := by omega) (ht4 := by omega) (hk9 := by omega)) (cwV 5 hts gX4_mergesElements_X4_way rfl rfl rfl (by decide +kernel) ⟨Nat.le_of_ble_eq_true rfl, Nat.le_of_ble_eq_true rfl⟩) hw hA [0, 1, 2] [] [0] rfl rfl rfl (by decide) (by decide) (by decide) 0 rfl rfl rfl hl.1 (Nat.le_of_ble_eq_true rfl) ⟨Nat.le_of_ble_eq_true rfl, Nat.le_of_ble_eq_true rfl⟩ rfl dX4_mergesElements_60 (fun r_60 u_60 H locs e_60 hw => ?_)
        have hw : Wd D A [(cI, .int)] (wM cI m9 ((meM false f t (sa, ad, rv) k).1) tx th sv ln po lt fi sc nu (((meM false f t (sa, ad, rv) k).2.1) + waM ((meM false f t (sa, ad, rv) k).1) t (k % 4) (((meM false f t (sa, ad, rv) k).1) ((888 + (384 * f)) + k)) (((meM false f t (sa, ad, rv) k).1) ((888 + (384 * t)) + k))) (((meM false f t (sa, ad, rv) k).2.2) + wrM ((meM false f t (sa, ad, rv) k).1) f (k % 4) (((meM false f t (sa, ad, rv) k).1) ((888 + (384 * f)) + k)) (((meM false f t (sa, ad, rv) k).1) ((888 + (384 * t)) + k)))) s s.heap H locs := hw
        have e_60 : r_60 = wyM ((meM false f t (sa, ad, rv) k).1) f t (k % 4) (((meM false f t (sa, ad, rv) k).1) ((888 + (384 * f)) + k)) (((meM false f t (sa, ad, rv) k).1) ((888 + (384 * t)) + k)) := e_60
        subst e_60
        refine lv_istore (lv' := [(7, .int (wyM ((meM false f t (sa, ad, rv) k).1) f t (k % 4) (((meM false f t (sa, ad, rv) k).1) ((888 + (384 * f)) + k)) (((meM false f t (sa, ad, rv) k).1) ((888 + (384 * t)) + k)))), (6, .int (((meM false f t (sa, ad, rv) k).1) ((888 + (384 * f)) + k))), (5, .int (nI ((888 + (384 * t)) + k))), (4, .int (nI k)), (0, .ref (m9 0)), (1, .int (nI f)), (2, .int (nI t)), (3, .int (nI 0))]) hx hb dX4_mergesElements_63 hl (by decide) rfl (fun ls hl => ?_)
        refine lv_iload_n hx hb dX4_mergesElements_65 rfl (lv_at hl 7 rfl) ?_
        refine lv_if_eq (tgt := 102) hx hb dX4_mergesElements_66 (by decide) (fun _ => ?_) (fun h => absurd h (by decide))
        refine lv_iinc (v := nI (k + 1)) (lv' := [(4, .int (nI (k + 1))), (7, .int (wyM ((meM false f t (sa, ad, rv) k).1) f t (k % 4) (((meM false f t (sa, ad, rv) k).1) ((888 + (384 * f)) + k)) (((meM false f t (sa, ad, rv) k).1) ((888 + (384 * t)) + k)))), (6, .int (((meM false f t (sa, ad, rv) k).1) ((888 + (384 * f)) + k))), (5, .int (nI ((888 + (384 * t)) + k))), (0, .ref (m9 0)), (1, .int (nI f)), (2, .int (nI t)), (3, .int (nI 0))]) hx hb dX4_mergesElements_102 hl (k := 3) rfl (nI_add k 1) (by decide) rfl (fun ls hl => ?_)
        refine lv_goto (tgt := 3) hx hb dX4_mergesElements_105 (by decide) ?_
        have hl : lv_has ls 8 [(4, .int (nI (k + 1))), (0, .ref (m9 0)), (1, .int (nI f)), (2, .int (nI t)), (3, .int (nI 0))] := lv_sub hl [0, 4, 5, 6, 7] rfl
        have hw : Wd D A [(cI, .int)] (wM cI m9 ((meM false f t (sa, ad, rv) (k + 1)).1) tx th sv ln po lt fi sc nu (((meM false f t (sa, ad, rv) k).2.1) + waM ((meM false f t (sa, ad, rv) k).1) t (k % 4) (((meM false f t (sa, ad, rv) k).1) ((888 + (384 * f)) + k)) (((meM false f t (sa, ad, rv) k).1) ((888 + (384 * t)) + k))) (((meM false f t (sa, ad, rv) k).2.2) + wrM ((meM false f t (sa, ad, rv) k).1) f (k % 4) (((meM false f t (sa, ad, rv) k).1) ((888 + (384 * f)) + k)) (((meM false f t (sa, ad, rv) k).1) ((888 + (384 * t)) + k)))) s s.heap H locs := Eq.mp (congrArg (fun z9 => Wd D A [(cI, .int)] (wM cI m9 z9 tx th sv ln po lt fi sc nu (((meM false f t (sa, ad, rv) k).2.1) + waM ((meM false f t (sa, ad, rv) k).1) t (k % 4) (((meM false f t (sa, ad, rv) k).1) ((888 + (384 * f)) + k)) (((meM false f t (sa, ad, rv) k).1) ((888 + (384 * t)) + k))) (((meM false f t (sa, ad, rv) k).2.2) + wrM ((meM false f t (sa, ad, rv) k).1) f (k % 4) (((meM false f t (sa, ad, rv) k).1) ((888 + (384 * f)) + k)) (((meM false f t (sa, ad, rv) k).1) ((888 + (384 * t)) + k)))) s s.heap H locs) (show ((meM false f t (sa, ad, rv) k).1) = (meM false f t (sa, ad, rv) (k + 1)).1 from rfl)) hw
        have hw : Wd D A [(cI, .int)] (wM cI m9 ((meM false f t (sa, ad, rv) (k + 1)).1) tx th sv ln po lt fi sc nu ((meM false f t (sa, ad, rv) (k + 1)).2.1) (((meM false f t (sa, ad, rv) k).2.2) + wrM ((meM false f t (sa, ad, rv) k).1) f (k % 4) (((meM false f t (sa, ad, rv) k).1) ((888 + (384 * f)) + k)) (((meM false f t (sa, ad, rv) k).1) ((888 + (384 * t)) + k)))) s s.heap H locs := Eq.mp (congrArg (fun z9 => Wd D A [(cI, .int)] (wM cI m9 ((meM false f t (sa, ad, rv) (k + 1)).1) tx th sv ln po lt fi sc nu z9 (((meM false f t (sa, ad, rv) k).2.2) + wrM ((meM false f t (sa, ad, rv) k).1) f (k % 4) (((meM false f t (sa, ad, rv) k).1) ((888 + (384 * f)) + k)) (((meM false f t (sa, ad, rv) k).1) ((888 + (384 * t)) + k)))) s s.heap H locs) (show ((meM false f t (sa, ad, rv) k).2.1) + waM ((meM false f t (sa, ad, rv) k).1) t (k % 4) (((meM false f t (sa, ad, rv) k).1) ((888 + (384 * f)) + k)) (((meM false f t (sa, ad, rv) k).1) ((888 + (384 * t)) + k)) = (meM false f t (sa, ad, rv) (k + 1)).2.1 from rfl)) hw
        have hw : Wd D A [(cI, .int)] (wM cI m9 ((meM false f t (sa, ad, rv) (k + 1)).1) tx th sv ln po lt fi sc nu ((meM false f t (sa, ad, rv) (k + 1)).2.1) ((meM false f t (sa, ad, rv) (k + 1)).2.2)) s s.heap H locs := Eq.mp (congrArg (fun z9 => Wd D A [(cI, .int)] (wM cI m9 ((meM false f t (sa, ad, rv) (k + 1)).1) tx th sv ln po lt fi sc nu ((meM false f t (sa, ad, rv) (k + 1)).2.1) z9) s s.heap H locs) (show ((meM false f t (sa, ad, rv) k).2.2) + wrM ((meM false f t (sa, ad, rv) k).1) f (k % 4) (((meM false f t (sa, ad, rv) k).1) ((888 + (384 * f)) + k)) (((meM false f t (sa, ad, rv) k).1) ((888 + (384 * t)) + k)) = (meM false f t (sa, ad, rv) (k + 1)).2.2 from rfl)) hw
        exact ih_3 (k + 1) (by omega) (by omega) _ _ hw ls hl
  have hl : lv_has ls 8 [(4, .int (nI 0)), (0, .ref (m9 0)), (1, .int (nI f)), (2, .int (nI t)), (3, .int (nI 0))] := lv_sub hl [0, 1, 2, 3, 4] rfl
  have hw : Wd D A [(cI, .int)] (wM cI m9 ((meM false f t (sa, ad, rv) 0).1) tx th sv ln po lt fi sc nu ad rv) s s.heap s.heap [] := Eq.mp (congrArg (fun z9 => Wd D A [(cI, .int)] (wM cI m9 z9 tx th sv ln po lt fi sc nu ad rv) s s.heap s.heap []) (show sa = (meM false f t (sa, ad, rv) 0).1 from rfl)) hw
  have hw : Wd D A [(cI, .int)] (wM cI m9 ((meM false f t (sa, ad, rv) 0).1) tx th sv ln po lt fi sc nu ((meM false f t (sa, ad, rv) 0).2.1) rv) s s.heap s.heap [] := Eq.mp (congrArg (fun z9 => Wd D A [(cI, .int)] (wM cI m9 ((meM false f t (sa, ad, rv) 0).1) tx th sv ln po lt fi sc nu z9 rv) s s.heap s.heap []) (show ad = (meM false f t (sa, ad, rv) 0).2.1 from rfl)) hw
  have hw : Wd D A [(cI, .int)] (wM cI m9 ((meM false f t (sa, ad, rv) 0).1) tx th sv ln po lt fi sc nu ((meM false f t (sa, ad, rv) 0).2.1) ((meM false f t (sa, ad, rv) 0).2.2)) s s.heap s.heap [] := Eq.mp (congrArg (fun z9 => Wd D A [(cI, .int)] (wM cI m9 ((meM false f t (sa, ad, rv) 0).1) tx th sv ln po lt fi sc nu ((meM false f t (sa, ad, rv) 0).2.1) z9) s s.heap s.heap []) (show rv = (meM false f t (sa, ad, rv) 0).2.2 from rfl)) hw
  exact L3_1 (384 + 1) (0) (by omega) (by omega) _ _ hw ls hl
abbrev rmX4_mergesCells_0 : Room := { frames := 2, cells := 0, slots := 0, locals := 49 }
set_option maxHeartbeats 4000000 in
set_option maxRecDepth 100000 in
theorem c_X4_mergesCells_0 (l : Launch) (D : va_G) (sz : Nat) (cI : ClassId) (m9 : Nat → Nat) (sa : Nat → Int32) (tx : Nat → Nat) (th : Int32) (sv ln po : Nat) (lt fi sc nu : Int32) (ad rv : Nat) (f t : Nat) (hf4 : f < 4) (ht4 : t < 4) : MUv l yX4_mergesCells wsX4_mergesCells rmX4_mergesCells_0 [.ref (m9 0), .int (nI f), .int (nI t), .int (nI 0)] D [(cI, .int)] (wM cI m9 sa tx th sv ln po lt fi sc nu ad rv) sz (fun (_ : Unit) => True) (fun _ => []) (fun _ => wM cI m9 ((mcM false f t (sa, ad, rv) 96).1) tx th sv ln po lt fi sc nu ((mcM false f t (sa, ad, rv) 96).2.1) ((mcM false f t (sa, ad, rv) 96).2.2)) 0 0 := by
  refine met_v (own := RX4) (cc := cX4_mergesCells) (maxL := 9) (by decide) rfl rfl (Nat.le_of_ble_eq_true rfl) ?_
  intro p e s m args below meth c Q A hsz S hmn hw hA hE ls hl
  obtain ⟨hx, hb, hml, hown, hts⟩ := id S
  have k7 := hts (.fieldLink RX4 7 "CausalTableModel" "s" "[I") (by decide +kernel)
  have hin4 := (show ∀ w ∈ wsX40, w ∈ wsX4_mergesCells by decide +kernel)
  have hl : lv_has ls 9 [(0, .ref (m9 0)), (1, .int (nI f)), (2, .int (nI t)), (3, .int (nI 0))] := hl
  refine lv_iconst (v := nI 0) hx hb dX4_mergesCells_0 kc_iconst_0 ?_
  refine lv_istore (lv' := [(4, .int (nI 0)), (0, .ref (m9 0)), (1, .int (nI f)), (2, .int (nI t)), (3, .int (nI 0))]) hx hb dX4_mergesCells_1 hl (by decide) rfl (fun ls hl => ?_)
  have L3_1 : ∀ (fu_2 k : Nat), k ≤ 96 → 96 - k < fu_2 → ∀ (H : Heap) (locs : List Loc), Wd D A [(cI, .int)] (wM cI m9 ((mcM false f t (sa, ad, rv) k).1) tx th sv ln po lt fi sc nu ((mcM false f t (sa, ad, rv) k).2.1) ((mcM false f t (sa, ad, rv) k).2.2)) s s.heap H locs → ∀ ls : Array Slot, lv_has ls 9 [(4, .int (nI k)), (0, .ref (m9 0)), (1, .int (nI f)), (2, .int (nI t)), (3, .int (nI 0))] → W p l e rmX4_mergesCells_0 s m args below meth c H locs 0 0 Q (F0 m 3 ls []) := by
    intro fu_2
    induction fu_2 with
    | zero => intro k _ h9; exact absurd h9 (Nat.not_lt_zero _)
    | succ fu_2 ih_3 =>
      intro k hk_3 hf_3 H locs hw ls hl
      refine lv_iload hx hb dX4_mergesCells_3 (lv_at hl 0 rfl) ?_
      refine lv_bipush (v := nI 96) hx hb dX4_mergesCells_5 kc_bipush_96 ?_
      refine r_icmp_geN (tgt := 172) hx hb (by omega) (by omega) dX4_mergesCells_7 (by decide) (fun c_7 => ?_) (fun c_7 => ?_)
      ·
        have ew : (wM cI m9 ((mcM false f t (sa, ad, rv) k).1) tx th sv ln po lt fi sc nu ((mcM false f t (sa, ad, rv) k).2.1) ((mcM false f t (sa, ad, rv) k).2.2)) = (wM cI m9 ((mcM false f t (sa, ad, rv) 96).1) tx th sv ln po lt fi sc nu ((mcM false f t (sa, ad, rv) 96).2.1) ((mcM false f t (sa, ad, rv) 96).2.2)) := by rw [show k = 96 by omega]
        rw [ew] at hw
        exact hE () dX4_mergesCells_172 (Nat.le_of_ble_eq_true rfl) (Nat.le_of_ble_eq_true rfl) (hw.sub [0, 1, 2] [] (by decide) rfl rfl) trivial
      ·
        refine lv_bipush (v := nI 96) hx hb dX4_mergesCells_10 kc_bipush_96 ?_
        refine lv_iload_n hx hb dX4_mergesCells_12 rfl (lv_at hl 3 rfl) ?_
        refine r_mulN hx hb dX4_mergesCells_13 ?_
        refine lv_iload hx hb dX4_mergesCells_14 (lv_at hl 0 rfl) ?_
        refine r_addN hx hb dX4_mergesCells_16 ?_
        refine lv_istore (lv' := [(5, .int (nI ((96 * t) + k))), (4, .int (nI k)), (0, .ref (m9 0)), (1, .int (nI f)), (2, .int (nI t)), (3, .int (nI 0))]) hx hb dX4_mergesCells_17 hl (by decide) rfl (fun ls hl => ?_)
        refine lv_bipush (v := nI 96) hx hb dX4_mergesCells_19 kc_bipush_96 ?_
        refine lv_iload_n hx hb dX4_mergesCells_21 rfl (lv_at hl 3 rfl) ?_
        refine r_mulN hx hb dX4_mergesCells_22 ?_
        refine lv_iload hx hb dX4_mergesCells_23 (lv_at hl 1 rfl) ?_
        refine r_addN hx hb dX4_mergesCells_25 ?_
        refine lv_istore (lv' := [(6, .int (nI ((96 * f) + k))), (5, .int (nI ((96 * t) + k))), (4, .int (nI k)), (0, .ref (m9 0)), (1, .int (nI f)), (2, .int (nI t)), (3, .int (nI 0))]) hx hb dX4_mergesCells_26 hl (by decide) rfl (fun ls hl => ?_)
        refine lv_aload_n hx hb dX4_mergesCells_28 rfl (lv_at hl 3 rfl) ?_
        refine lv_iload_n hx hb dX4_mergesCells_29 rfl (lv_at hl 4 rfl) ?_
        refine lv_iload_n hx hb dX4_mergesCells_30 rfl (lv_at hl 5 rfl) ?_
        refine lv_iload hx hb dX4_mergesCells_31 (lv_at hl 2 rfl) ?_
        refine lv_iconst (v := nI 4) hx hb dX4_mergesCells_33 kc_iconst_4 ?_
        refine r_remN hx hb (by omega) (by omega) (by omega) dX4_mergesCells_34 ?_
        refine lv_aload_n hx hb dX4_mergesCells_35 rfl (lv_at hl 3 rfl) ?_
        refine r_get hx hb hts hown hw.q 0 1 hin4 rfl rfl (by decide) k7 rfl dX4_mergesCells_36 ?_
        refine lv_bipush (v := nI 24) hx hb dX4_mergesCells_39 kc_bipush_24 ?_
        refine lv_iload hx hb dX4_mergesCells_41 (lv_at hl 0 rfl) ?_
        refine r_addN hx hb dX4_mergesCells_43 ?_
        refine r_ald hx hb hw.q 1 0 rfl rfl (i := 24 + ((96 * f) + k)) (by omega) (by decide) dX4_mergesCells_44 ?_
        refine lv_aload_n hx hb dX4_mergesCells_45 rfl (lv_at hl 3 rfl) ?_
        refine r_get hx hb hts hown hw.q 0 1 hin4 rfl rfl (by decide) k7 rfl dX4_mergesCells_46 ?_
        refine lv_bipush (v := nI 24) hx hb dX4_mergesCells_49 kc_bipush_24 ?_
        refine lv_iload hx hb dX4_mergesCells_51 (lv_at hl 1 rfl) ?_
        refine r_addN hx hb dX4_mergesCells_53 ?_
        refine r_ald hx hb hw.q 1 0 rfl rfl (i := 24 + ((96 * t) + k)) (by omega) (by decide) dX4_mergesCells_54 ?_
        refine cu_Vi (As := [.int (nI f), .int (nI t), .int (nI (k % 4)), .int (((mcM false f t (sa, ad, rv) k).1) (24 + ((96 * f) + k))), .int (((mcM false f t (sa, ad, rv) k).1) (24 + ((96 * t) + k)))]) (rest := []) (wc := wM cI m9 ((mcM false f t (sa, ad, rv) k).1) tx th sv ln po lt fi sc nu ((mcM false f t (sa, ad, rv) k).2.1) ((mcM false f t (sa, ad, rv) k).2.2)) (wr := []) S (c_X4_way l D (sz := H.size) (cI := cI) (m9 := m9) (sa := (mcM false f t (sa, ad, rv) k).1) (tx := tx) (th := th) (sv := sv) (ln := ln) (po := po) (lt := lt) (fi := fi) (sc := sc) (nu := nu) (ad := (mcM false f t (sa, ad, rv) k).2.1) (rv := (mcM false f t (sa, ad, rv) k).2.2) (f := f) (t := t) (k9 := k % 4) (a9 := ((mcM false f t (sa, ad, rv) k).1) (24 + ((96 * f) + k))) (b9 := ((mcM false f t (sa, ad, rv) k).1) (24 + ((96 * t) + k))) (hf4 := by omega) (ht4 := by omega) (hk9 := by omega)) (cwV 5 hts gX4_mergesCells_X4_way rfl rfl rfl (by decide +kernel) ⟨Nat.le_of_ble_eq_true rfl, Nat.le_of_ble_eq_true rfl⟩) hw hA [0, 1, 2] [] [0] rfl rfl rfl (by decide) (by decide) (by decide) 0 rfl rfl rfl hl.1 (Nat.le_of_ble_eq_true rfl) ⟨Nat.le_of_ble_eq_true rfl, Nat.le_of_ble_eq_true rfl⟩ rfl dX4_mergesCells_55 (fun r_55 u_55 H locs e_55 hw => ?_)
        have hw : Wd D A [(cI, .int)] (wM cI m9 ((mcM false f t (sa, ad, rv) k).1) tx th sv ln po lt fi sc nu (((mcM false f t (sa, ad, rv) k).2.1) + waM ((mcM false f t (sa, ad, rv) k).1) t (k % 4) (((mcM false f t (sa, ad, rv) k).1) (24 + ((96 * f) + k))) (((mcM false f t (sa, ad, rv) k).1) (24 + ((96 * t) + k)))) (((mcM false f t (sa, ad, rv) k).2.2) + wrM ((mcM false f t (sa, ad, rv) k).1) f (k % 4) (((mcM false f t (sa, ad, rv) k).1) (24 + ((96 * f) + k))) (((mcM false f t (sa, ad, rv) k).1) (24 + ((96 * t) + k))))) s s.heap H locs := hw
        have e_55 : r_55 = wyM ((mcM false f t (sa, ad, rv) k).1) f t (k % 4) (((mcM false f t (sa, ad, rv) k).1) (24 + ((96 * f) + k))) (((mcM false f t (sa, ad, rv) k).1) (24 + ((96 * t) + k))) := e_55
        subst e_55
        refine lv_istore (lv' := [(7, .int (wyM ((mcM false f t (sa, ad, rv) k).1) f t (k % 4) (((mcM false f t (sa, ad, rv) k).1) (24 + ((96 * f) + k))) (((mcM false f t (sa, ad, rv) k).1) (24 + ((96 * t) + k))))), (6, .int (nI ((96 * f) + k))), (5, .int (nI ((96 * t) + k))), (4, .int (nI k)), (0, .ref (m9 0)), (1, .int (nI f)), (2, .int (nI t)), (3, .int (nI 0))]) hx hb dX4_mergesCells_58 hl (by decide) rfl (fun ls hl => ?_)
        refine lv_iload_n hx hb dX4_mergesCells_60 rfl (lv_at hl 7 rfl) ?_
        refine lv_if_eq (tgt := 166) hx hb dX4_mergesCells_61 (by decide) (fun _ => ?_) (fun h => absurd h (by decide))
        refine lv_iinc (v := nI (k + 1)) (lv' := [(4, .int (nI (k + 1))), (7, .int (wyM ((mcM false f t (sa, ad, rv) k).1) f t (k % 4) (((mcM false f t (sa, ad, rv) k).1) (24 + ((96 * f) + k))) (((mcM false f t (sa, ad, rv) k).1) (24 + ((96 * t) + k))))), (6, .int (nI ((96 * f) + k))), (5, .int (nI ((96 * t) + k))), (0, .ref (m9 0)), (1, .int (nI f)), (2, .int (nI t)), (3, .int (nI 0))]) hx hb dX4_mergesCells_166 hl (k := 3) rfl (nI_add k 1) (by decide) rfl (fun ls hl => ?_)
        refine lv_goto (tgt := 3) hx hb dX4_mergesCells_169 (by decide) ?_
        have hl : lv_has ls 9 [(4, .int (nI (k + 1))), (0, .ref (m9 0)), (1, .int (nI f)), (2, .int (nI t)), (3, .int (nI 0))] := lv_sub hl [0, 4, 5, 6, 7] rfl
        have hw : Wd D A [(cI, .int)] (wM cI m9 ((mcM false f t (sa, ad, rv) (k + 1)).1) tx th sv ln po lt fi sc nu (((mcM false f t (sa, ad, rv) k).2.1) + waM ((mcM false f t (sa, ad, rv) k).1) t (k % 4) (((mcM false f t (sa, ad, rv) k).1) (24 + ((96 * f) + k))) (((mcM false f t (sa, ad, rv) k).1) (24 + ((96 * t) + k)))) (((mcM false f t (sa, ad, rv) k).2.2) + wrM ((mcM false f t (sa, ad, rv) k).1) f (k % 4) (((mcM false f t (sa, ad, rv) k).1) (24 + ((96 * f) + k))) (((mcM false f t (sa, ad, rv) k).1) (24 + ((96 * t) + k))))) s s.heap H locs := Eq.mp (congrArg (fun z9 => Wd D A [(cI, .int)] (wM cI m9 z9 tx th sv ln po lt fi sc nu (((mcM false f t (sa, ad, rv) k).2.1) + waM ((mcM false f t (sa, ad, rv) k).1) t (k % 4) (((mcM false f t (sa, ad, rv) k).1) (24 + ((96 * f) + k))) (((mcM false f t (sa, ad, rv) k).1) (24 + ((96 * t) + k)))) (((mcM false f t (sa, ad, rv) k).2.2) + wrM ((mcM false f t (sa, ad, rv) k).1) f (k % 4) (((mcM false f t (sa, ad, rv) k).1) (24 + ((96 * f) + k))) (((mcM false f t (sa, ad, rv) k).1) (24 + ((96 * t) + k))))) s s.heap H locs) (show ((mcM false f t (sa, ad, rv) k).1) = (mcM false f t (sa, ad, rv) (k + 1)).1 from by first | rfl | exact mcM_z c_66 | exact mcM_a c_66 c_133 | exact mcM_b c_66 c_133)) hw
        have hw : Wd D A [(cI, .int)] (wM cI m9 ((mcM false f t (sa, ad, rv) (k + 1)).1) tx th sv ln po lt fi sc nu ((mcM false f t (sa, ad, rv) (k + 1)).2.1) (((mcM false f t (sa, ad, rv) k).2.2) + wrM ((mcM false f t (sa, ad, rv) k).1) f (k % 4) (((mcM false f t (sa, ad, rv) k).1) (24 + ((96 * f) + k))) (((mcM false f t (sa, ad, rv) k).1) (24 + ((96 * t) + k))))) s s.heap H locs := Eq.mp (congrArg (fun z9 => Wd D A [(cI, .int)] (wM cI m9 ((mcM false f t (sa, ad, rv) (k + 1)).1) tx th sv ln po lt fi sc nu z9 (((mcM false f t (sa, ad, rv) k).2.2) + wrM ((mcM false f t (sa, ad, rv) k).1) f (k % 4) (((mcM false f t (sa, ad, rv) k).1) (24 + ((96 * f) + k))) (((mcM false f t (sa, ad, rv) k).1) (24 + ((96 * t) + k))))) s s.heap H locs) (show ((mcM false f t (sa, ad, rv) k).2.1) + waM ((mcM false f t (sa, ad, rv) k).1) t (k % 4) (((mcM false f t (sa, ad, rv) k).1) (24 + ((96 * f) + k))) (((mcM false f t (sa, ad, rv) k).1) (24 + ((96 * t) + k))) = (mcM false f t (sa, ad, rv) (k + 1)).2.1 from rfl)) hw
        have hw : Wd D A [(cI, .int)] (wM cI m9 ((mcM false f t (sa, ad, rv) (k + 1)).1) tx th sv ln po lt fi sc nu ((mcM false f t (sa, ad, rv) (k + 1)).2.1) ((mcM false f t (sa, ad, rv) (k + 1)).2.2)) s s.heap H locs := Eq.mp (congrArg (fun z9 => Wd D A [(cI, .int)] (wM cI m9 ((mcM false f t (sa, ad, rv) (k + 1)).1) tx th sv ln po lt fi sc nu ((mcM false f t (sa, ad, rv) (k + 1)).2.1) z9) s s.heap H locs) (show ((mcM false f t (sa, ad, rv) k).2.2) + wrM ((mcM false f t (sa, ad, rv) k).1) f (k % 4) (((mcM false f t (sa, ad, rv) k).1) (24 + ((96 * f) + k))) (((mcM false f t (sa, ad, rv) k).1) (24 + ((96 * t) + k))) = (mcM false f t (sa, ad, rv) (k + 1)).2.2 from rfl)) hw
        exact ih_3 (k + 1) (by omega) (by omega) _ _ hw ls hl
  have hl : lv_has ls 9 [(4, .int (nI 0)), (0, .ref (m9 0)), (1, .int (nI f)), (2, .int (nI t)), (3, .int (nI 0))] := lv_sub hl [0, 1, 2, 3, 4] rfl
  have hw : Wd D A [(cI, .int)] (wM cI m9 ((mcM false f t (sa, ad, rv) 0).1) tx th sv ln po lt fi sc nu ad rv) s s.heap s.heap [] := Eq.mp (congrArg (fun z9 => Wd D A [(cI, .int)] (wM cI m9 z9 tx th sv ln po lt fi sc nu ad rv) s s.heap s.heap []) (show sa = (mcM false f t (sa, ad, rv) 0).1 from rfl)) hw
  have hw : Wd D A [(cI, .int)] (wM cI m9 ((mcM false f t (sa, ad, rv) 0).1) tx th sv ln po lt fi sc nu ((mcM false f t (sa, ad, rv) 0).2.1) rv) s s.heap s.heap [] := Eq.mp (congrArg (fun z9 => Wd D A [(cI, .int)] (wM cI m9 ((mcM false f t (sa, ad, rv) 0).1) tx th sv ln po lt fi sc nu z9 rv) s s.heap s.heap []) (show ad = (mcM false f t (sa, ad, rv) 0).2.1 from rfl)) hw
  have hw : Wd D A [(cI, .int)] (wM cI m9 ((mcM false f t (sa, ad, rv) 0).1) tx th sv ln po lt fi sc nu ((mcM false f t (sa, ad, rv) 0).2.1) ((mcM false f t (sa, ad, rv) 0).2.2)) s s.heap s.heap [] := Eq.mp (congrArg (fun z9 => Wd D A [(cI, .int)] (wM cI m9 ((mcM false f t (sa, ad, rv) 0).1) tx th sv ln po lt fi sc nu ((mcM false f t (sa, ad, rv) 0).2.1) z9) s s.heap s.heap []) (show rv = (mcM false f t (sa, ad, rv) 0).2.2 from rfl)) hw
  exact L3_1 (96 + 1) (0) (by omega) (by omega) _ _ hw ls hl
abbrev rmX4_looks_0 : Room := { frames := 3, cells := 0, slots := 0, locals := 77 }
set_option maxHeartbeats 4000000 in
set_option maxRecDepth 100000 in
theorem c_X4_looks_0 (l : Launch) (D : va_G) (sz : Nat) (cI : ClassId) (m9 : Nat → Nat) (sa : Nat → Int32) (tx : Nat → Nat) (th : Int32) (sv ln po : Nat) (lt fi sc nu : Int32) (ad rv : Nat) (f t : Nat) (hf4 : f < 4) (ht4 : t < 4) : MUv l yX4_looks wsX4_looks rmX4_looks_0 [.ref (m9 0), .int (nI f), .int (nI t), .int (nI 0)] D [(cI, .int)] (wM cI m9 sa tx th sv ln po lt fi sc nu ad rv) sz (fun (_ : Unit) => True) (fun _ => []) (fun _ => wM cI m9 ((lkM false sa f t).1) tx th sv ln po lt fi sc nu ((lkM false sa f t).2.1) ((lkM false sa f t).2.2)) 0 0 := by
  refine met_v (own := RX4) (cc := cX4_looks) (maxL := 4) (by decide) rfl rfl (Nat.le_of_ble_eq_true rfl) ?_
  intro p e s m args below meth c Q A hsz S hmn hw hA hE ls hl
  obtain ⟨hx, hb, hml, hown, hts⟩ := id S
  have k72 := hts (.fieldLink RX4 72 "CausalTableModel" "added" "I") (by decide +kernel)
  have hin4 := (show ∀ w ∈ wsX40, w ∈ wsX4_looks by decide +kernel)
  have k69 := hts (.fieldLink RX4 69 "CausalTableModel" "removed" "I") (by decide +kernel)
  have hl : lv_has ls 4 [(0, .ref (m9 0)), (1, .int (nI f)), (2, .int (nI t)), (3, .int (nI 0))] := hl
  refine lv_aload_n hx hb dX4_looks_0 rfl (lv_at hl 0 rfl) ?_
  refine lv_iconst (v := nI 0) hx hb dX4_looks_1 kc_iconst_0 ?_
  refine r_put hx hb hts hown hw 0 10 (ty := .int) tyX4 tyX4_ok nmX4 hin4 rfl rfl (by decide) k72 rfl (by decide +kernel) rfl rfl (Nat.le_of_ble_eq_true rfl) dX4_looks_2 (fun H locs hw => ?_)
  have hw : Wd D A [(cI, .int)] (wM cI m9 sa tx th sv ln po lt fi sc nu 0 rv) s s.heap H locs := hw
  refine lv_aload_n hx hb dX4_looks_5 rfl (lv_at hl 0 rfl) ?_
  refine lv_iconst (v := nI 0) hx hb dX4_looks_6 kc_iconst_0 ?_
  refine r_put hx hb hts hown hw 0 11 (ty := .int) tyX4 tyX4_ok nmX4 hin4 rfl rfl (by decide) k69 rfl (by decide +kernel) rfl rfl (Nat.le_of_ble_eq_true rfl) dX4_looks_7 (fun H locs hw => ?_)
  have hw : Wd D A [(cI, .int)] (wM cI m9 sa tx th sv ln po lt fi sc nu 0 0) s s.heap H locs := hw
  refine lv_aload_n hx hb dX4_looks_10 rfl (lv_at hl 0 rfl) ?_
  refine lv_iload_n hx hb dX4_looks_11 rfl (lv_at hl 1 rfl) ?_
  refine lv_iload_n hx hb dX4_looks_12 rfl (lv_at hl 2 rfl) ?_
  refine lv_iload_n hx hb dX4_looks_13 rfl (lv_at hl 3 rfl) ?_
  refine cu_Vv (As := [.int (nI f), .int (nI t), .int (nI 0)]) (rest := []) (wc := wM cI m9 sa tx th sv ln po lt fi sc nu 0 0) (wr := []) S (c_X4_mergesCells_0 l D (sz := H.size) (cI := cI) (m9 := m9) (sa := sa) (tx := tx) (th := th) (sv := sv) (ln := ln) (po := po) (lt := lt) (fi := fi) (sc := sc) (nu := nu) (ad := 0) (rv := 0) (f := f) (t := t) (hf4 := by omega) (ht4 := by omega)) (cwV 3 hts gX4_looks_X4_mergesCells rfl rfl rfl (by decide +kernel) ⟨Nat.le_of_ble_eq_true rfl, Nat.le_of_ble_eq_true rfl⟩) hw hA [0, 1, 2] [] [0] rfl rfl rfl (by decide) (by decide) (by decide) 0 rfl rfl rfl hl.1 (Nat.le_of_ble_eq_true rfl) ⟨Nat.le_of_ble_eq_true rfl, Nat.le_of_ble_eq_true rfl⟩ rfl dX4_looks_14 (fun u_14 H locs e_14 hw => ?_)
  have hw : Wd D A [(cI, .int)] (wM cI m9 ((mcM false f t (sa, 0, 0) 96).1) tx th sv ln po lt fi sc nu ((mcM false f t (sa, 0, 0) 96).2.1) ((mcM false f t (sa, 0, 0) 96).2.2)) s s.heap H locs := hw
  refine lv_aload_n hx hb dX4_looks_17 rfl (lv_at hl 0 rfl) ?_
  refine lv_iload_n hx hb dX4_looks_18 rfl (lv_at hl 1 rfl) ?_
  refine lv_iload_n hx hb dX4_looks_19 rfl (lv_at hl 2 rfl) ?_
  refine lv_iload_n hx hb dX4_looks_20 rfl (lv_at hl 3 rfl) ?_
  refine cu_Vv (As := [.int (nI f), .int (nI t), .int (nI 0)]) (rest := []) (wc := wM cI m9 ((mcM false f t (sa, 0, 0) 96).1) tx th sv ln po lt fi sc nu ((mcM false f t (sa, 0, 0) 96).2.1) ((mcM false f t (sa, 0, 0) 96).2.2)) (wr := []) S (c_X4_mergesElements_0 l D (sz := H.size) (cI := cI) (m9 := m9) (sa := (mcM false f t (sa, 0, 0) 96).1) (tx := tx) (th := th) (sv := sv) (ln := ln) (po := po) (lt := lt) (fi := fi) (sc := sc) (nu := nu) (ad := (mcM false f t (sa, 0, 0) 96).2.1) (rv := (mcM false f t (sa, 0, 0) 96).2.2) (f := f) (t := t) (hf4 := by omega) (ht4 := by omega)) (cwV 3 hts gX4_looks_X4_mergesElements rfl rfl rfl (by decide +kernel) ⟨Nat.le_of_ble_eq_true rfl, Nat.le_of_ble_eq_true rfl⟩) hw hA [0, 1, 2] [] [0] rfl rfl rfl (by decide) (by decide) (by decide) 0 rfl rfl rfl hl.1 (Nat.le_of_ble_eq_true rfl) ⟨Nat.le_of_ble_eq_true rfl, Nat.le_of_ble_eq_true rfl⟩ rfl dX4_looks_21 (fun u_21 H locs e_21 hw => ?_)
  have hw : Wd D A [(cI, .int)] (wM cI m9 ((meM false f t (((mcM false f t (sa, 0, 0) 96).1), ((mcM false f t (sa, 0, 0) 96).2.1), ((mcM false f t (sa, 0, 0) 96).2.2)) 384).1) tx th sv ln po lt fi sc nu ((meM false f t (((mcM false f t (sa, 0, 0) 96).1), ((mcM false f t (sa, 0, 0) 96).2.1), ((mcM false f t (sa, 0, 0) 96).2.2)) 384).2.1) ((meM false f t (((mcM false f t (sa, 0, 0) 96).1), ((mcM false f t (sa, 0, 0) 96).2.1), ((mcM false f t (sa, 0, 0) 96).2.2)) 384).2.2)) s s.heap H locs := hw
  have ew : (wM cI m9 ((meM false f t (((mcM false f t (sa, 0, 0) 96).1), ((mcM false f t (sa, 0, 0) 96).2.1), ((mcM false f t (sa, 0, 0) 96).2.2)) 384).1) tx th sv ln po lt fi sc nu ((meM false f t (((mcM false f t (sa, 0, 0) 96).1), ((mcM false f t (sa, 0, 0) 96).2.1), ((mcM false f t (sa, 0, 0) 96).2.2)) 384).2.1) ((meM false f t (((mcM false f t (sa, 0, 0) 96).1), ((mcM false f t (sa, 0, 0) 96).2.1), ((mcM false f t (sa, 0, 0) 96).2.2)) 384).2.2)) = (wM cI m9 ((lkM false sa f t).1) tx th sv ln po lt fi sc nu ((lkM false sa f t).2.1) ((lkM false sa f t).2.2)) := by rw [lkM]
  rw [ew] at hw
  exact hE () dX4_looks_24 (Nat.le_of_ble_eq_true rfl) (Nat.le_of_ble_eq_true rfl) (hw.sub [0, 1, 2] [] (by decide) rfl rfl) trivial
abbrev rmX4_mergesElements_1 : Room := { frames := 2, cells := 0, slots := 0, locals := 49 }
set_option maxHeartbeats 4000000 in
set_option maxRecDepth 100000 in
theorem c_X4_mergesElements_1 (l : Launch) (D : va_G) (sz : Nat) (cI : ClassId) (m9 : Nat → Nat) (sa : Nat → Int32) (tx : Nat → Nat) (th : Int32) (sv ln po : Nat) (lt fi sc nu : Int32) (ad rv : Nat) (f t : Nat) (hf4 : f < 4) (ht4 : t < 4) : MUv l yX4_mergesElements wsX4_mergesElements rmX4_mergesElements_1 [.ref (m9 0), .int (nI f), .int (nI t), .int (nI 1)] D [(cI, .int)] (wM cI m9 sa tx th sv ln po lt fi sc nu ad rv) sz (fun (_ : Unit) => True) (fun _ => []) (fun _ => wM cI m9 ((meM true f t (sa, ad, rv) 384).1) tx th sv ln po lt fi sc nu ((meM true f t (sa, ad, rv) 384).2.1) ((meM true f t (sa, ad, rv) 384).2.2)) 0 0 := by
  refine met_v (own := RX4) (cc := cX4_mergesElements) (maxL := 8) (by decide) rfl rfl (Nat.le_of_ble_eq_true rfl) ?_
  intro p e s m args below meth c Q A hsz S hmn hw hA hE ls hl
  obtain ⟨hx, hb, hml, hown, hts⟩ := id S
  have k7 := hts (.fieldLink RX4 7 "CausalTableModel" "s" "[I") (by decide +kernel)
  have hin4 := (show ∀ w ∈ wsX40, w ∈ wsX4_mergesElements by decide +kernel)
  have hl : lv_has ls 8 [(0, .ref (m9 0)), (1, .int (nI f)), (2, .int (nI t)), (3, .int (nI 1))] := hl
  refine lv_iconst (v := nI 0) hx hb dX4_mergesElements_0 kc_iconst_0 ?_
  refine lv_istore (lv' := [(4, .int (nI 0)), (0, .ref (m9 0)), (1, .int (nI f)), (2, .int (nI t)), (3, .int (nI 1))]) hx hb dX4_mergesElements_1 hl (by decide) rfl (fun ls hl => ?_)
  have L3_1 : ∀ (fu_2 k : Nat), k ≤ 384 → 384 - k < fu_2 → ∀ (H : Heap) (locs : List Loc), Wd D A [(cI, .int)] (wM cI m9 ((meM true f t (sa, ad, rv) k).1) tx th sv ln po lt fi sc nu ((meM true f t (sa, ad, rv) k).2.1) ((meM true f t (sa, ad, rv) k).2.2)) s s.heap H locs → ∀ ls : Array Slot, lv_has ls 8 [(4, .int (nI k)), (0, .ref (m9 0)), (1, .int (nI f)), (2, .int (nI t)), (3, .int (nI 1))] → W p l e rmX4_mergesElements_1 s m args below meth c H locs 0 0 Q (F0 m 3 ls []) := by
    intro fu_2
    induction fu_2 with
    | zero => intro k _ h9; exact absurd h9 (Nat.not_lt_zero _)
    | succ fu_2 ih_3 =>
      intro k hk_3 hf_3 H locs hw ls hl
      refine lv_iload hx hb dX4_mergesElements_3 (lv_at hl 0 rfl) ?_
      refine lv_sipush (v := nI 384) hx hb dX4_mergesElements_5 kc_sipush_384 ?_
      refine r_icmp_geN (tgt := 108) hx hb (by omega) (by omega) dX4_mergesElements_8 (by decide) (fun c_8 => ?_) (fun c_8 => ?_)
      ·
        have ew : (wM cI m9 ((meM true f t (sa, ad, rv) k).1) tx th sv ln po lt fi sc nu ((meM true f t (sa, ad, rv) k).2.1) ((meM true f t (sa, ad, rv) k).2.2)) = (wM cI m9 ((meM true f t (sa, ad, rv) 384).1) tx th sv ln po lt fi sc nu ((meM true f t (sa, ad, rv) 384).2.1) ((meM true f t (sa, ad, rv) 384).2.2)) := by rw [show k = 384 by omega]
        rw [ew] at hw
        exact hE () dX4_mergesElements_108 (Nat.le_of_ble_eq_true rfl) (Nat.le_of_ble_eq_true rfl) (hw.sub [0, 1, 2] [] (by decide) rfl rfl) trivial
      ·
        refine lv_sipush (v := nI 888) hx hb dX4_mergesElements_11 kc_sipush_888 ?_
        refine lv_sipush (v := nI 384) hx hb dX4_mergesElements_14 kc_sipush_384 ?_
        refine lv_iload_n hx hb dX4_mergesElements_17 rfl (lv_at hl 3 rfl) ?_
        refine r_mulN hx hb dX4_mergesElements_18 ?_
        refine r_addN hx hb dX4_mergesElements_19 ?_
        refine lv_iload hx hb dX4_mergesElements_20 (lv_at hl 0 rfl) ?_
        refine r_addN hx hb dX4_mergesElements_22 ?_
        refine lv_istore (lv' := [(5, .int (nI ((888 + (384 * t)) + k))), (4, .int (nI k)), (0, .ref (m9 0)), (1, .int (nI f)), (2, .int (nI t)), (3, .int (nI 1))]) hx hb dX4_mergesElements_23 hl (by decide) rfl (fun ls hl => ?_)
        refine lv_aload_n hx hb dX4_mergesElements_25 rfl (lv_at hl 2 rfl) ?_
        refine r_get hx hb hts hown hw.q 0 1 hin4 rfl rfl (by decide) k7 rfl dX4_mergesElements_26 ?_
        refine lv_sipush (v := nI 888) hx hb dX4_mergesElements_29 kc_sipush_888 ?_
        refine lv_sipush (v := nI 384) hx hb dX4_mergesElements_32 kc_sipush_384 ?_
        refine lv_iload_n hx hb dX4_mergesElements_35 rfl (lv_at hl 3 rfl) ?_
        refine r_mulN hx hb dX4_mergesElements_36 ?_
        refine r_addN hx hb dX4_mergesElements_37 ?_
        refine lv_iload hx hb dX4_mergesElements_38 (lv_at hl 1 rfl) ?_
        refine r_addN hx hb dX4_mergesElements_40 ?_
        refine r_ald hx hb hw.q 1 0 rfl rfl (i := (888 + (384 * f)) + k) (by omega) (by decide) dX4_mergesElements_41 ?_
        refine lv_istore (lv' := [(6, .int (((meM true f t (sa, ad, rv) k).1) ((888 + (384 * f)) + k))), (5, .int (nI ((888 + (384 * t)) + k))), (4, .int (nI k)), (0, .ref (m9 0)), (1, .int (nI f)), (2, .int (nI t)), (3, .int (nI 1))]) hx hb dX4_mergesElements_42 hl (by decide) rfl (fun ls hl => ?_)
        refine lv_aload_n hx hb dX4_mergesElements_44 rfl (lv_at hl 3 rfl) ?_
        refine lv_iload_n hx hb dX4_mergesElements_45 rfl (lv_at hl 4 rfl) ?_
        refine lv_iload_n hx hb dX4_mergesElements_46 rfl (lv_at hl 5 rfl) ?_
        refine lv_iload hx hb dX4_mergesElements_47 (lv_at hl 2 rfl) ?_
        refine lv_iconst (v := nI 4) hx hb dX4_mergesElements_49 kc_iconst_4 ?_
        refine r_remN hx hb (by omega) (by omega) (by omega) dX4_mergesElements_50 ?_
        refine lv_iload hx hb dX4_mergesElements_51 (lv_at hl 0 rfl) ?_
        refine lv_aload_n hx hb dX4_mergesElements_53 rfl (lv_at hl 3 rfl) ?_
        refine r_get hx hb hts hown hw.q 0 1 hin4 rfl rfl (by decide) k7 rfl dX4_mergesElements_54 ?_
        refine lv_iload hx hb dX4_mergesElements_57 (lv_at hl 1 rfl) ?_
        refine r_ald hx hb hw.q 1 0 rfl rfl (i := (888 + (384 * t)) + k) (by omega) (by decide) dX4_mergesElements_59 ?_
        refine cu_Vi (As := [.int (nI f), .int (nI t), .int (nI (k % 4)), .int (((meM true f t (sa, ad, rv) k).1) ((888 + (384 * f)) + k)), .int (((meM true f t (sa, ad, rv) k).1) ((888 + (384 * t)) + k))]) (rest := []) (wc := wM cI m9 ((meM true f t (sa, ad, rv) k).1) tx th sv ln po lt fi sc nu ((meM true f t (sa, ad, rv) k).2.1) ((meM true f t (sa, ad, rv) k).2.2)) (wr := []) S (c_X4_way l D (sz := H.size) (cI := cI) (m9 := m9) (sa := (meM true f t (sa, ad, rv) k).1) (tx := tx) (th := th) (sv := sv) (ln := ln) (po := po) (lt := lt) (fi := fi) (sc := sc) (nu := nu) (ad := (meM true f t (sa, ad, rv) k).2.1) (rv := (meM true f t (sa, ad, rv) k).2.2) (f := f) (t := t) (k9 := k % 4) (a9 := ((meM true f t (sa, ad, rv) k).1) ((888 + (384 * f)) + k)) (b9 := ((meM true f t (sa, ad, rv) k).1) ((888 + (384 * t)) + k)) (hf4 := by omega) (ht4 := by omega) (hk9 := by omega)) (cwV 5 hts gX4_mergesElements_X4_way rfl rfl rfl (by decide +kernel) ⟨Nat.le_of_ble_eq_true rfl, Nat.le_of_ble_eq_true rfl⟩) hw hA [0, 1, 2] [] [0] rfl rfl rfl (by decide) (by decide) (by decide) 0 rfl rfl rfl hl.1 (Nat.le_of_ble_eq_true rfl) ⟨Nat.le_of_ble_eq_true rfl, Nat.le_of_ble_eq_true rfl⟩ rfl dX4_mergesElements_60 (fun r_60 u_60 H locs e_60 hw => ?_)
        have hw : Wd D A [(cI, .int)] (wM cI m9 ((meM true f t (sa, ad, rv) k).1) tx th sv ln po lt fi sc nu (((meM true f t (sa, ad, rv) k).2.1) + waM ((meM true f t (sa, ad, rv) k).1) t (k % 4) (((meM true f t (sa, ad, rv) k).1) ((888 + (384 * f)) + k)) (((meM true f t (sa, ad, rv) k).1) ((888 + (384 * t)) + k))) (((meM true f t (sa, ad, rv) k).2.2) + wrM ((meM true f t (sa, ad, rv) k).1) f (k % 4) (((meM true f t (sa, ad, rv) k).1) ((888 + (384 * f)) + k)) (((meM true f t (sa, ad, rv) k).1) ((888 + (384 * t)) + k)))) s s.heap H locs := hw
        have e_60 : r_60 = wyM ((meM true f t (sa, ad, rv) k).1) f t (k % 4) (((meM true f t (sa, ad, rv) k).1) ((888 + (384 * f)) + k)) (((meM true f t (sa, ad, rv) k).1) ((888 + (384 * t)) + k)) := e_60
        subst e_60
        refine lv_istore (lv' := [(7, .int (wyM ((meM true f t (sa, ad, rv) k).1) f t (k % 4) (((meM true f t (sa, ad, rv) k).1) ((888 + (384 * f)) + k)) (((meM true f t (sa, ad, rv) k).1) ((888 + (384 * t)) + k)))), (6, .int (((meM true f t (sa, ad, rv) k).1) ((888 + (384 * f)) + k))), (5, .int (nI ((888 + (384 * t)) + k))), (4, .int (nI k)), (0, .ref (m9 0)), (1, .int (nI f)), (2, .int (nI t)), (3, .int (nI 1))]) hx hb dX4_mergesElements_63 hl (by decide) rfl (fun ls hl => ?_)
        refine lv_iload_n hx hb dX4_mergesElements_65 rfl (lv_at hl 7 rfl) ?_
        refine lv_if_eq (tgt := 102) hx hb dX4_mergesElements_66 (by decide) (fun h => absurd h (by decide)) (fun _ => ?_)
        refine lv_aload_n hx hb dX4_mergesElements_69 rfl (lv_at hl 4 rfl) ?_
        refine r_get hx hb hts hown hw.q 0 1 hin4 rfl rfl (by decide) k7 rfl dX4_mergesElements_70 ?_
        refine lv_iload hx hb dX4_mergesElements_73 (lv_at hl 2 rfl) ?_
        refine lv_iload hx hb dX4_mergesElements_75 (lv_at hl 0 rfl) ?_
        have J101_3 : ∀ ls : Array Slot, lv_has ls 8 [(7, .int (wyM ((meM true f t (sa, ad, rv) k).1) f t (k % 4) (((meM true f t (sa, ad, rv) k).1) ((888 + (384 * f)) + k)) (((meM true f t (sa, ad, rv) k).1) ((888 + (384 * t)) + k)))), (6, .int (((meM true f t (sa, ad, rv) k).1) ((888 + (384 * f)) + k))), (5, .int (nI ((888 + (384 * t)) + k))), (4, .int (nI k)), (0, .ref (m9 0)), (1, .int (nI f)), (2, .int (nI t)), (3, .int (nI 1))] → W p l e rmX4_mergesElements_1 s m args below meth c H locs 0 0 Q (F0 m 101 ls [.int (if wyM (meM true f t (sa, ad, rv) k).1 f t (k % 4) ((meM true f t (sa, ad, rv) k).1 (888 + 384 * f + k)) ((meM true f t (sa, ad, rv) k).1 (888 + 384 * t + k)) ≤ 0 then (if 0 ≤ wyM (meM true f t (sa, ad, rv) k).1 f t (k % 4) ((meM true f t (sa, ad, rv) k).1 (888 + 384 * f + k)) ((meM true f t (sa, ad, rv) k).1 (888 + 384 * t + k)) then (meM true f t (sa, ad, rv) k).1 (888 + 384 * t + k) else nI 0) else (meM true f t (sa, ad, rv) k).1 (888 + 384 * f + k)), .int (nI (888 + 384 * t + k)), .ref (m9 1)]) := by
          intro ls hl
          refine r_ast hx hb hw 1 0 rfl rfl (i := 888 + 384 * t + k) (by omega) (by decide) dX4_mergesElements_101 (fun H locs hw => ?_)
          have hw : Wd D A [(cI, .int)] (wM cI m9 (upd ((meM true f t (sa, ad, rv) k).1) (888 + 384 * t + k) (if wyM (meM true f t (sa, ad, rv) k).1 f t (k % 4) ((meM true f t (sa, ad, rv) k).1 (888 + 384 * f + k)) ((meM true f t (sa, ad, rv) k).1 (888 + 384 * t + k)) ≤ 0 then (if 0 ≤ wyM (meM true f t (sa, ad, rv) k).1 f t (k % 4) ((meM true f t (sa, ad, rv) k).1 (888 + 384 * f + k)) ((meM true f t (sa, ad, rv) k).1 (888 + 384 * t + k)) then (meM true f t (sa, ad, rv) k).1 (888 + 384 * t + k) else nI 0) else (meM true f t (sa, ad, rv) k).1 (888 + 384 * f + k))) tx th sv ln po lt fi sc nu (((meM true f t (sa, ad, rv) k).2.1) + waM ((meM true f t (sa, ad, rv) k).1) t (k % 4) (((meM true f t (sa, ad, rv) k).1) ((888 + (384 * f)) + k)) (((meM true f t (sa, ad, rv) k).1) ((888 + (384 * t)) + k))) (((meM true f t (sa, ad, rv) k).2.2) + wrM ((meM true f t (sa, ad, rv) k).1) f (k % 4) (((meM true f t (sa, ad, rv) k).1) ((888 + (384 * f)) + k)) (((meM true f t (sa, ad, rv) k).1) ((888 + (384 * t)) + k)))) s s.heap H locs := hw
          refine lv_iinc (v := nI (k + 1)) (lv' := [(4, .int (nI (k + 1))), (7, .int (wyM ((meM true f t (sa, ad, rv) k).1) f t (k % 4) (((meM true f t (sa, ad, rv) k).1) ((888 + (384 * f)) + k)) (((meM true f t (sa, ad, rv) k).1) ((888 + (384 * t)) + k)))), (6, .int (((meM true f t (sa, ad, rv) k).1) ((888 + (384 * f)) + k))), (5, .int (nI ((888 + (384 * t)) + k))), (0, .ref (m9 0)), (1, .int (nI f)), (2, .int (nI t)), (3, .int (nI 1))]) hx hb dX4_mergesElements_102 hl (k := 3) rfl (nI_add k 1) (by decide) rfl (fun ls hl => ?_)
          refine lv_goto (tgt := 3) hx hb dX4_mergesElements_105 (by decide) ?_
          have hl : lv_has ls 8 [(4, .int (nI (k + 1))), (0, .ref (m9 0)), (1, .int (nI f)), (2, .int (nI t)), (3, .int (nI 1))] := lv_sub hl [0, 4, 5, 6, 7] rfl
          have hw : Wd D A [(cI, .int)] (wM cI m9 ((meM true f t (sa, ad, rv) (k + 1)).1) tx th sv ln po lt fi sc nu (((meM true f t (sa, ad, rv) k).2.1) + waM ((meM true f t (sa, ad, rv) k).1) t (k % 4) (((meM true f t (sa, ad, rv) k).1) ((888 + (384 * f)) + k)) (((meM true f t (sa, ad, rv) k).1) ((888 + (384 * t)) + k))) (((meM true f t (sa, ad, rv) k).2.2) + wrM ((meM true f t (sa, ad, rv) k).1) f (k % 4) (((meM true f t (sa, ad, rv) k).1) ((888 + (384 * f)) + k)) (((meM true f t (sa, ad, rv) k).1) ((888 + (384 * t)) + k)))) s s.heap H locs := Eq.mp (congrArg (fun z9 => Wd D A [(cI, .int)] (wM cI m9 z9 tx th sv ln po lt fi sc nu (((meM true f t (sa, ad, rv) k).2.1) + waM ((meM true f t (sa, ad, rv) k).1) t (k % 4) (((meM true f t (sa, ad, rv) k).1) ((888 + (384 * f)) + k)) (((meM true f t (sa, ad, rv) k).1) ((888 + (384 * t)) + k))) (((meM true f t (sa, ad, rv) k).2.2) + wrM ((meM true f t (sa, ad, rv) k).1) f (k % 4) (((meM true f t (sa, ad, rv) k).1) ((888 + (384 * f)) + k)) (((meM true f t (sa, ad, rv) k).1) ((888 + (384 * t)) + k)))) s s.heap H locs) (show upd ((meM true f t (sa, ad, rv) k).1) (888 + 384 * t + k) (if wyM (meM true f t (sa, ad, rv) k).1 f t (k % 4) ((meM true f t (sa, ad, rv) k).1 (888 + 384 * f + k)) ((meM true f t (sa, ad, rv) k).1 (888 + 384 * t + k)) ≤ 0 then (if 0 ≤ wyM (meM true f t (sa, ad, rv) k).1 f t (k % 4) ((meM true f t (sa, ad, rv) k).1 (888 + 384 * f + k)) ((meM true f t (sa, ad, rv) k).1 (888 + 384 * t + k)) then (meM true f t (sa, ad, rv) k).1 (888 + 384 * t + k) else nI 0) else (meM true f t (sa, ad, rv) k).1 (888 + 384 * f + k)) = (meM true f t (sa, ad, rv) (k + 1)).1 from rfl)) hw
          have hw : Wd D A [(cI, .int)] (wM cI m9 ((meM true f t (sa, ad, rv) (k + 1)).1) tx th sv ln po lt fi sc nu ((meM true f t (sa, ad, rv) (k + 1)).2.1) (((meM true f t (sa, ad, rv) k).2.2) + wrM ((meM true f t (sa, ad, rv) k).1) f (k % 4) (((meM true f t (sa, ad, rv) k).1) ((888 + (384 * f)) + k)) (((meM true f t (sa, ad, rv) k).1) ((888 + (384 * t)) + k)))) s s.heap H locs := Eq.mp (congrArg (fun z9 => Wd D A [(cI, .int)] (wM cI m9 ((meM true f t (sa, ad, rv) (k + 1)).1) tx th sv ln po lt fi sc nu z9 (((meM true f t (sa, ad, rv) k).2.2) + wrM ((meM true f t (sa, ad, rv) k).1) f (k % 4) (((meM true f t (sa, ad, rv) k).1) ((888 + (384 * f)) + k)) (((meM true f t (sa, ad, rv) k).1) ((888 + (384 * t)) + k)))) s s.heap H locs) (show ((meM true f t (sa, ad, rv) k).2.1) + waM ((meM true f t (sa, ad, rv) k).1) t (k % 4) (((meM true f t (sa, ad, rv) k).1) ((888 + (384 * f)) + k)) (((meM true f t (sa, ad, rv) k).1) ((888 + (384 * t)) + k)) = (meM true f t (sa, ad, rv) (k + 1)).2.1 from rfl)) hw
          have hw : Wd D A [(cI, .int)] (wM cI m9 ((meM true f t (sa, ad, rv) (k + 1)).1) tx th sv ln po lt fi sc nu ((meM true f t (sa, ad, rv) (k + 1)).2.1) ((meM true f t (sa, ad, rv) (k + 1)).2.2)) s s.heap H locs := Eq.mp (congrArg (fun z9 => Wd D A [(cI, .int)] (wM cI m9 ((meM true f t (sa, ad, rv) (k + 1)).1) tx th sv ln po lt fi sc nu ((meM true f t (sa, ad, rv) (k + 1)).2.1) z9) s s.heap H locs) (show ((meM true f t (sa, ad, rv) k).2.2) + wrM ((meM true f t (sa, ad, rv) k).1) f (k % 4) (((meM true f t (sa, ad, rv) k).1) ((888 + (384 * f)) + k)) (((meM true f t (sa, ad, rv) k).1) ((888 + (384 * t)) + k)) = (meM true f t (sa, ad, rv) (k + 1)).2.2 from rfl)) hw
          exact ih_3 (k + 1) (by omega) (by omega) _ _ hw ls hl
        refine lv_if_le (tgt := 85) hx hb dX4_mergesElements_77 (by decide) (fun c_77 => ?_) (fun c_77 => ?_)
        ·
          refine lv_iload hx hb dX4_mergesElements_85 (lv_at hl 0 rfl) ?_
          refine lv_if_ge (tgt := 94) hx hb dX4_mergesElements_87 (by decide) (fun c_87 => ?_) (fun c_87 => ?_)
          ·
            refine lv_aload_n hx hb dX4_mergesElements_94 rfl (lv_at hl 4 rfl) ?_
            refine r_get hx hb hts hown hw.q 0 1 hin4 rfl rfl (by decide) k7 rfl dX4_mergesElements_95 ?_
            refine lv_iload hx hb dX4_mergesElements_98 (lv_at hl 2 rfl) ?_
            refine r_ald hx hb hw.q 1 0 rfl rfl (i := (888 + (384 * t)) + k) (by omega) (by decide) dX4_mergesElements_100 ?_
            have hl : lv_has ls 8 [(7, .int (wyM ((meM true f t (sa, ad, rv) k).1) f t (k % 4) (((meM true f t (sa, ad, rv) k).1) ((888 + (384 * f)) + k)) (((meM true f t (sa, ad, rv) k).1) ((888 + (384 * t)) + k)))), (6, .int (((meM true f t (sa, ad, rv) k).1) ((888 + (384 * f)) + k))), (5, .int (nI ((888 + (384 * t)) + k))), (4, .int (nI k)), (0, .ref (m9 0)), (1, .int (nI f)), (2, .int (nI t)), (3, .int (nI 1))] := lv_sub hl [0, 1, 2, 3, 4, 5, 6, 7] rfl
            refine W.eq (g2 := F0 m 101 ls [.int (((meM true f t (sa, ad, rv) k).1) ((888 + (384 * t)) + k)), .int (nI (888 + 384 * t + k)), .ref (m9 1)]) rfl ?_
            refine r_top hx (show ((meM true f t (sa, ad, rv) k).1) ((888 + (384 * t)) + k) = if wyM (meM true f t (sa, ad, rv) k).1 f t (k % 4) ((meM true f t (sa, ad, rv) k).1 (888 + 384 * f + k)) ((meM true f t (sa, ad, rv) k).1 (888 + 384 * t + k)) ≤ 0 then (if 0 ≤ wyM (meM true f t (sa, ad, rv) k).1 f t (k % 4) ((meM true f t (sa, ad, rv) k).1 (888 + 384 * f + k)) ((meM true f t (sa, ad, rv) k).1 (888 + 384 * t + k)) then (meM true f t (sa, ad, rv) k).1 (888 + 384 * t + k) else nI 0) else (meM true f t (sa, ad, rv) k).1 (888 + 384 * f + k) from by first | rw [if_neg c_77] | rw [if_pos c_77, if_pos c_87] | rw [if_pos c_77, if_neg c_87]) ?_
            exact J101_3 ls hl
          ·
            refine lv_iconst (v := nI 0) hx hb dX4_mergesElements_90 kc_iconst_0 ?_
            refine lv_goto (tgt := 101) hx hb dX4_mergesElements_91 (by decide) ?_
            have hl : lv_has ls 8 [(7, .int (wyM ((meM true f t (sa, ad, rv) k).1) f t (k % 4) (((meM true f t (sa, ad, rv) k).1) ((888 + (384 * f)) + k)) (((meM true f t (sa, ad, rv) k).1) ((888 + (384 * t)) + k)))), (6, .int (((meM true f t (sa, ad, rv) k).1) ((888 + (384 * f)) + k))), (5, .int (nI ((888 + (384 * t)) + k))), (4, .int (nI k)), (0, .ref (m9 0)), (1, .int (nI f)), (2, .int (nI t)), (3, .int (nI 1))] := lv_sub hl [0, 1, 2, 3, 4, 5, 6, 7] rfl
            refine W.eq (g2 := F0 m 101 ls [.int (nI 0), .int (nI (888 + 384 * t + k)), .ref (m9 1)]) rfl ?_
            refine r_top hx (show nI 0 = if wyM (meM true f t (sa, ad, rv) k).1 f t (k % 4) ((meM true f t (sa, ad, rv) k).1 (888 + 384 * f + k)) ((meM true f t (sa, ad, rv) k).1 (888 + 384 * t + k)) ≤ 0 then (if 0 ≤ wyM (meM true f t (sa, ad, rv) k).1 f t (k % 4) ((meM true f t (sa, ad, rv) k).1 (888 + 384 * f + k)) ((meM true f t (sa, ad, rv) k).1 (888 + 384 * t + k)) then (meM true f t (sa, ad, rv) k).1 (888 + 384 * t + k) else nI 0) else (meM true f t (sa, ad, rv) k).1 (888 + 384 * f + k) from by first | rw [if_neg c_77] | rw [if_pos c_77, if_pos c_87] | rw [if_pos c_77, if_neg c_87]) ?_
            exact J101_3 ls hl
        ·
          refine lv_iload hx hb dX4_mergesElements_80 (lv_at hl 1 rfl) ?_
          refine lv_goto (tgt := 101) hx hb dX4_mergesElements_82 (by decide) ?_
          have hl : lv_has ls 8 [(7, .int (wyM ((meM true f t (sa, ad, rv) k).1) f t (k % 4) (((meM true f t (sa, ad, rv) k).1) ((888 + (384 * f)) + k)) (((meM true f t (sa, ad, rv) k).1) ((888 + (384 * t)) + k)))), (6, .int (((meM true f t (sa, ad, rv) k).1) ((888 + (384 * f)) + k))), (5, .int (nI ((888 + (384 * t)) + k))), (4, .int (nI k)), (0, .ref (m9 0)), (1, .int (nI f)), (2, .int (nI t)), (3, .int (nI 1))] := lv_sub hl [0, 1, 2, 3, 4, 5, 6, 7] rfl
          refine W.eq (g2 := F0 m 101 ls [.int (((meM true f t (sa, ad, rv) k).1) ((888 + (384 * f)) + k)), .int (nI (888 + 384 * t + k)), .ref (m9 1)]) rfl ?_
          refine r_top hx (show ((meM true f t (sa, ad, rv) k).1) ((888 + (384 * f)) + k) = if wyM (meM true f t (sa, ad, rv) k).1 f t (k % 4) ((meM true f t (sa, ad, rv) k).1 (888 + 384 * f + k)) ((meM true f t (sa, ad, rv) k).1 (888 + 384 * t + k)) ≤ 0 then (if 0 ≤ wyM (meM true f t (sa, ad, rv) k).1 f t (k % 4) ((meM true f t (sa, ad, rv) k).1 (888 + 384 * f + k)) ((meM true f t (sa, ad, rv) k).1 (888 + 384 * t + k)) then (meM true f t (sa, ad, rv) k).1 (888 + 384 * t + k) else nI 0) else (meM true f t (sa, ad, rv) k).1 (888 + 384 * f + k) from by first | rw [if_neg c_77] | rw [if_pos c_77, if_pos c_87] | rw [if_pos c_77, if_neg c_87]) ?_
          exact J101_3 ls hl
  have hl : lv_has ls 8 [(4, .int (nI 0)), (0, .ref (m9 0)), (1, .int (nI f)), (2, .int (nI t)), (3, .int (nI 1))] := lv_sub hl [0, 1, 2, 3, 4] rfl
  have hw : Wd D A [(cI, .int)] (wM cI m9 ((meM true f t (sa, ad, rv) 0).1) tx th sv ln po lt fi sc nu ad rv) s s.heap s.heap [] := Eq.mp (congrArg (fun z9 => Wd D A [(cI, .int)] (wM cI m9 z9 tx th sv ln po lt fi sc nu ad rv) s s.heap s.heap []) (show sa = (meM true f t (sa, ad, rv) 0).1 from rfl)) hw
  have hw : Wd D A [(cI, .int)] (wM cI m9 ((meM true f t (sa, ad, rv) 0).1) tx th sv ln po lt fi sc nu ((meM true f t (sa, ad, rv) 0).2.1) rv) s s.heap s.heap [] := Eq.mp (congrArg (fun z9 => Wd D A [(cI, .int)] (wM cI m9 ((meM true f t (sa, ad, rv) 0).1) tx th sv ln po lt fi sc nu z9 rv) s s.heap s.heap []) (show ad = (meM true f t (sa, ad, rv) 0).2.1 from rfl)) hw
  have hw : Wd D A [(cI, .int)] (wM cI m9 ((meM true f t (sa, ad, rv) 0).1) tx th sv ln po lt fi sc nu ((meM true f t (sa, ad, rv) 0).2.1) ((meM true f t (sa, ad, rv) 0).2.2)) s s.heap s.heap [] := Eq.mp (congrArg (fun z9 => Wd D A [(cI, .int)] (wM cI m9 ((meM true f t (sa, ad, rv) 0).1) tx th sv ln po lt fi sc nu ((meM true f t (sa, ad, rv) 0).2.1) z9) s s.heap s.heap []) (show rv = (meM true f t (sa, ad, rv) 0).2.2 from rfl)) hw
  exact L3_1 (384 + 1) (0) (by omega) (by omega) _ _ hw ls hl
abbrev rmX4_mergesCells_1 : Room := { frames := 2, cells := 0, slots := 0, locals := 49 }
set_option maxHeartbeats 4000000 in
set_option maxRecDepth 100000 in
theorem c_X4_mergesCells_1 (l : Launch) (D : va_G) (sz : Nat) (cI : ClassId) (m9 : Nat → Nat) (sa : Nat → Int32) (tx : Nat → Nat) (th : Int32) (sv ln po : Nat) (lt fi sc nu : Int32) (ad rv : Nat) (f t : Nat) (hf4 : f < 4) (ht4 : t < 4) : MUv l yX4_mergesCells wsX4_mergesCells rmX4_mergesCells_1 [.ref (m9 0), .int (nI f), .int (nI t), .int (nI 1)] D [(cI, .int)] (wM cI m9 sa tx th sv ln po lt fi sc nu ad rv) sz (fun (_ : Unit) => True) (fun _ => []) (fun _ => wM cI m9 ((mcM true f t (sa, ad, rv) 96).1) tx th sv ln po lt fi sc nu ((mcM true f t (sa, ad, rv) 96).2.1) ((mcM true f t (sa, ad, rv) 96).2.2)) 0 0 := by
  refine met_v (own := RX4) (cc := cX4_mergesCells) (maxL := 9) (by decide) rfl rfl (Nat.le_of_ble_eq_true rfl) ?_
  intro p e s m args below meth c Q A hsz S hmn hw hA hE ls hl
  obtain ⟨hx, hb, hml, hown, hts⟩ := id S
  have k7 := hts (.fieldLink RX4 7 "CausalTableModel" "s" "[I") (by decide +kernel)
  have hin4 := (show ∀ w ∈ wsX40, w ∈ wsX4_mergesCells by decide +kernel)
  have hl : lv_has ls 9 [(0, .ref (m9 0)), (1, .int (nI f)), (2, .int (nI t)), (3, .int (nI 1))] := hl
  refine lv_iconst (v := nI 0) hx hb dX4_mergesCells_0 kc_iconst_0 ?_
  refine lv_istore (lv' := [(4, .int (nI 0)), (0, .ref (m9 0)), (1, .int (nI f)), (2, .int (nI t)), (3, .int (nI 1))]) hx hb dX4_mergesCells_1 hl (by decide) rfl (fun ls hl => ?_)
  have L3_1 : ∀ (fu_2 k : Nat), k ≤ 96 → 96 - k < fu_2 → ∀ (H : Heap) (locs : List Loc), Wd D A [(cI, .int)] (wM cI m9 ((mcM true f t (sa, ad, rv) k).1) tx th sv ln po lt fi sc nu ((mcM true f t (sa, ad, rv) k).2.1) ((mcM true f t (sa, ad, rv) k).2.2)) s s.heap H locs → ∀ ls : Array Slot, lv_has ls 9 [(4, .int (nI k)), (0, .ref (m9 0)), (1, .int (nI f)), (2, .int (nI t)), (3, .int (nI 1))] → W p l e rmX4_mergesCells_1 s m args below meth c H locs 0 0 Q (F0 m 3 ls []) := by
    intro fu_2
    induction fu_2 with
    | zero => intro k _ h9; exact absurd h9 (Nat.not_lt_zero _)
    | succ fu_2 ih_3 =>
      intro k hk_3 hf_3 H locs hw ls hl
      refine lv_iload hx hb dX4_mergesCells_3 (lv_at hl 0 rfl) ?_
      refine lv_bipush (v := nI 96) hx hb dX4_mergesCells_5 kc_bipush_96 ?_
      refine r_icmp_geN (tgt := 172) hx hb (by omega) (by omega) dX4_mergesCells_7 (by decide) (fun c_7 => ?_) (fun c_7 => ?_)
      ·
        have ew : (wM cI m9 ((mcM true f t (sa, ad, rv) k).1) tx th sv ln po lt fi sc nu ((mcM true f t (sa, ad, rv) k).2.1) ((mcM true f t (sa, ad, rv) k).2.2)) = (wM cI m9 ((mcM true f t (sa, ad, rv) 96).1) tx th sv ln po lt fi sc nu ((mcM true f t (sa, ad, rv) 96).2.1) ((mcM true f t (sa, ad, rv) 96).2.2)) := by rw [show k = 96 by omega]
        rw [ew] at hw
        exact hE () dX4_mergesCells_172 (Nat.le_of_ble_eq_true rfl) (Nat.le_of_ble_eq_true rfl) (hw.sub [0, 1, 2] [] (by decide) rfl rfl) trivial
      ·
        refine lv_bipush (v := nI 96) hx hb dX4_mergesCells_10 kc_bipush_96 ?_
        refine lv_iload_n hx hb dX4_mergesCells_12 rfl (lv_at hl 3 rfl) ?_
        refine r_mulN hx hb dX4_mergesCells_13 ?_
        refine lv_iload hx hb dX4_mergesCells_14 (lv_at hl 0 rfl) ?_
        refine r_addN hx hb dX4_mergesCells_16 ?_
        refine lv_istore (lv' := [(5, .int (nI ((96 * t) + k))), (4, .int (nI k)), (0, .ref (m9 0)), (1, .int (nI f)), (2, .int (nI t)), (3, .int (nI 1))]) hx hb dX4_mergesCells_17 hl (by decide) rfl (fun ls hl => ?_)
        refine lv_bipush (v := nI 96) hx hb dX4_mergesCells_19 kc_bipush_96 ?_
        refine lv_iload_n hx hb dX4_mergesCells_21 rfl (lv_at hl 3 rfl) ?_
        refine r_mulN hx hb dX4_mergesCells_22 ?_
        refine lv_iload hx hb dX4_mergesCells_23 (lv_at hl 1 rfl) ?_
        refine r_addN hx hb dX4_mergesCells_25 ?_
        refine lv_istore (lv' := [(6, .int (nI ((96 * f) + k))), (5, .int (nI ((96 * t) + k))), (4, .int (nI k)), (0, .ref (m9 0)), (1, .int (nI f)), (2, .int (nI t)), (3, .int (nI 1))]) hx hb dX4_mergesCells_26 hl (by decide) rfl (fun ls hl => ?_)
        refine lv_aload_n hx hb dX4_mergesCells_28 rfl (lv_at hl 3 rfl) ?_
        refine lv_iload_n hx hb dX4_mergesCells_29 rfl (lv_at hl 4 rfl) ?_
        refine lv_iload_n hx hb dX4_mergesCells_30 rfl (lv_at hl 5 rfl) ?_
        refine lv_iload hx hb dX4_mergesCells_31 (lv_at hl 2 rfl) ?_
        refine lv_iconst (v := nI 4) hx hb dX4_mergesCells_33 kc_iconst_4 ?_
        refine r_remN hx hb (by omega) (by omega) (by omega) dX4_mergesCells_34 ?_
        refine lv_aload_n hx hb dX4_mergesCells_35 rfl (lv_at hl 3 rfl) ?_
        refine r_get hx hb hts hown hw.q 0 1 hin4 rfl rfl (by decide) k7 rfl dX4_mergesCells_36 ?_
        refine lv_bipush (v := nI 24) hx hb dX4_mergesCells_39 kc_bipush_24 ?_
        refine lv_iload hx hb dX4_mergesCells_41 (lv_at hl 0 rfl) ?_
        refine r_addN hx hb dX4_mergesCells_43 ?_
        refine r_ald hx hb hw.q 1 0 rfl rfl (i := 24 + ((96 * f) + k)) (by omega) (by decide) dX4_mergesCells_44 ?_
        refine lv_aload_n hx hb dX4_mergesCells_45 rfl (lv_at hl 3 rfl) ?_
        refine r_get hx hb hts hown hw.q 0 1 hin4 rfl rfl (by decide) k7 rfl dX4_mergesCells_46 ?_
        refine lv_bipush (v := nI 24) hx hb dX4_mergesCells_49 kc_bipush_24 ?_
        refine lv_iload hx hb dX4_mergesCells_51 (lv_at hl 1 rfl) ?_
        refine r_addN hx hb dX4_mergesCells_53 ?_
        refine r_ald hx hb hw.q 1 0 rfl rfl (i := 24 + ((96 * t) + k)) (by omega) (by decide) dX4_mergesCells_54 ?_
        refine cu_Vi (As := [.int (nI f), .int (nI t), .int (nI (k % 4)), .int (((mcM true f t (sa, ad, rv) k).1) (24 + ((96 * f) + k))), .int (((mcM true f t (sa, ad, rv) k).1) (24 + ((96 * t) + k)))]) (rest := []) (wc := wM cI m9 ((mcM true f t (sa, ad, rv) k).1) tx th sv ln po lt fi sc nu ((mcM true f t (sa, ad, rv) k).2.1) ((mcM true f t (sa, ad, rv) k).2.2)) (wr := []) S (c_X4_way l D (sz := H.size) (cI := cI) (m9 := m9) (sa := (mcM true f t (sa, ad, rv) k).1) (tx := tx) (th := th) (sv := sv) (ln := ln) (po := po) (lt := lt) (fi := fi) (sc := sc) (nu := nu) (ad := (mcM true f t (sa, ad, rv) k).2.1) (rv := (mcM true f t (sa, ad, rv) k).2.2) (f := f) (t := t) (k9 := k % 4) (a9 := ((mcM true f t (sa, ad, rv) k).1) (24 + ((96 * f) + k))) (b9 := ((mcM true f t (sa, ad, rv) k).1) (24 + ((96 * t) + k))) (hf4 := by omega) (ht4 := by omega) (hk9 := by omega)) (cwV 5 hts gX4_mergesCells_X4_way rfl rfl rfl (by decide +kernel) ⟨Nat.le_of_ble_eq_true rfl, Nat.le_of_ble_eq_true rfl⟩) hw hA [0, 1, 2] [] [0] rfl rfl rfl (by decide) (by decide) (by decide) 0 rfl rfl rfl hl.1 (Nat.le_of_ble_eq_true rfl) ⟨Nat.le_of_ble_eq_true rfl, Nat.le_of_ble_eq_true rfl⟩ rfl dX4_mergesCells_55 (fun r_55 u_55 H locs e_55 hw => ?_)
        have hw : Wd D A [(cI, .int)] (wM cI m9 ((mcM true f t (sa, ad, rv) k).1) tx th sv ln po lt fi sc nu (((mcM true f t (sa, ad, rv) k).2.1) + waM ((mcM true f t (sa, ad, rv) k).1) t (k % 4) (((mcM true f t (sa, ad, rv) k).1) (24 + ((96 * f) + k))) (((mcM true f t (sa, ad, rv) k).1) (24 + ((96 * t) + k)))) (((mcM true f t (sa, ad, rv) k).2.2) + wrM ((mcM true f t (sa, ad, rv) k).1) f (k % 4) (((mcM true f t (sa, ad, rv) k).1) (24 + ((96 * f) + k))) (((mcM true f t (sa, ad, rv) k).1) (24 + ((96 * t) + k))))) s s.heap H locs := hw
        have e_55 : r_55 = wyM ((mcM true f t (sa, ad, rv) k).1) f t (k % 4) (((mcM true f t (sa, ad, rv) k).1) (24 + ((96 * f) + k))) (((mcM true f t (sa, ad, rv) k).1) (24 + ((96 * t) + k))) := e_55
        subst e_55
        refine lv_istore (lv' := [(7, .int (wyM ((mcM true f t (sa, ad, rv) k).1) f t (k % 4) (((mcM true f t (sa, ad, rv) k).1) (24 + ((96 * f) + k))) (((mcM true f t (sa, ad, rv) k).1) (24 + ((96 * t) + k))))), (6, .int (nI ((96 * f) + k))), (5, .int (nI ((96 * t) + k))), (4, .int (nI k)), (0, .ref (m9 0)), (1, .int (nI f)), (2, .int (nI t)), (3, .int (nI 1))]) hx hb dX4_mergesCells_58 hl (by decide) rfl (fun ls hl => ?_)
        refine lv_iload_n hx hb dX4_mergesCells_60 rfl (lv_at hl 7 rfl) ?_
        refine lv_if_eq (tgt := 166) hx hb dX4_mergesCells_61 (by decide) (fun h => absurd h (by decide)) (fun _ => ?_)
        refine lv_iload hx hb dX4_mergesCells_64 (lv_at hl 0 rfl) ?_
        refine lv_if_eq (tgt := 166) hx hb dX4_mergesCells_66 (by decide) (fun c_66 => ?_) (fun c_66 => ?_)
        ·
          refine lv_iinc (v := nI (k + 1)) (lv' := [(4, .int (nI (k + 1))), (7, .int (wyM ((mcM true f t (sa, ad, rv) k).1) f t (k % 4) (((mcM true f t (sa, ad, rv) k).1) (24 + ((96 * f) + k))) (((mcM true f t (sa, ad, rv) k).1) (24 + ((96 * t) + k))))), (6, .int (nI ((96 * f) + k))), (5, .int (nI ((96 * t) + k))), (0, .ref (m9 0)), (1, .int (nI f)), (2, .int (nI t)), (3, .int (nI 1))]) hx hb dX4_mergesCells_166 hl (k := 3) rfl (nI_add k 1) (by decide) rfl (fun ls hl => ?_)
          refine lv_goto (tgt := 3) hx hb dX4_mergesCells_169 (by decide) ?_
          have hl : lv_has ls 9 [(4, .int (nI (k + 1))), (0, .ref (m9 0)), (1, .int (nI f)), (2, .int (nI t)), (3, .int (nI 1))] := lv_sub hl [0, 4, 5, 6, 7] rfl
          have hw : Wd D A [(cI, .int)] (wM cI m9 ((mcM true f t (sa, ad, rv) (k + 1)).1) tx th sv ln po lt fi sc nu (((mcM true f t (sa, ad, rv) k).2.1) + waM ((mcM true f t (sa, ad, rv) k).1) t (k % 4) (((mcM true f t (sa, ad, rv) k).1) (24 + ((96 * f) + k))) (((mcM true f t (sa, ad, rv) k).1) (24 + ((96 * t) + k)))) (((mcM true f t (sa, ad, rv) k).2.2) + wrM ((mcM true f t (sa, ad, rv) k).1) f (k % 4) (((mcM true f t (sa, ad, rv) k).1) (24 + ((96 * f) + k))) (((mcM true f t (sa, ad, rv) k).1) (24 + ((96 * t) + k))))) s s.heap H locs := Eq.mp (congrArg (fun z9 => Wd D A [(cI, .int)] (wM cI m9 z9 tx th sv ln po lt fi sc nu (((mcM true f t (sa, ad, rv) k).2.1) + waM ((mcM true f t (sa, ad, rv) k).1) t (k % 4) (((mcM true f t (sa, ad, rv) k).1) (24 + ((96 * f) + k))) (((mcM true f t (sa, ad, rv) k).1) (24 + ((96 * t) + k)))) (((mcM true f t (sa, ad, rv) k).2.2) + wrM ((mcM true f t (sa, ad, rv) k).1) f (k % 4) (((mcM true f t (sa, ad, rv) k).1) (24 + ((96 * f) + k))) (((mcM true f t (sa, ad, rv) k).1) (24 + ((96 * t) + k))))) s s.heap H locs) (show ((mcM true f t (sa, ad, rv) k).1) = (mcM true f t (sa, ad, rv) (k + 1)).1 from by first | rfl | exact mcM_z c_66 | exact mcM_a c_66 c_133 | exact mcM_b c_66 c_133)) hw
          have hw : Wd D A [(cI, .int)] (wM cI m9 ((mcM true f t (sa, ad, rv) (k + 1)).1) tx th sv ln po lt fi sc nu ((mcM true f t (sa, ad, rv) (k + 1)).2.1) (((mcM true f t (sa, ad, rv) k).2.2) + wrM ((mcM true f t (sa, ad, rv) k).1) f (k % 4) (((mcM true f t (sa, ad, rv) k).1) (24 + ((96 * f) + k))) (((mcM true f t (sa, ad, rv) k).1) (24 + ((96 * t) + k))))) s s.heap H locs := Eq.mp (congrArg (fun z9 => Wd D A [(cI, .int)] (wM cI m9 ((mcM true f t (sa, ad, rv) (k + 1)).1) tx th sv ln po lt fi sc nu z9 (((mcM true f t (sa, ad, rv) k).2.2) + wrM ((mcM true f t (sa, ad, rv) k).1) f (k % 4) (((mcM true f t (sa, ad, rv) k).1) (24 + ((96 * f) + k))) (((mcM true f t (sa, ad, rv) k).1) (24 + ((96 * t) + k))))) s s.heap H locs) (show ((mcM true f t (sa, ad, rv) k).2.1) + waM ((mcM true f t (sa, ad, rv) k).1) t (k % 4) (((mcM true f t (sa, ad, rv) k).1) (24 + ((96 * f) + k))) (((mcM true f t (sa, ad, rv) k).1) (24 + ((96 * t) + k))) = (mcM true f t (sa, ad, rv) (k + 1)).2.1 from rfl)) hw
          have hw : Wd D A [(cI, .int)] (wM cI m9 ((mcM true f t (sa, ad, rv) (k + 1)).1) tx th sv ln po lt fi sc nu ((mcM true f t (sa, ad, rv) (k + 1)).2.1) ((mcM true f t (sa, ad, rv) (k + 1)).2.2)) s s.heap H locs := Eq.mp (congrArg (fun z9 => Wd D A [(cI, .int)] (wM cI m9 ((mcM true f t (sa, ad, rv) (k + 1)).1) tx th sv ln po lt fi sc nu ((mcM true f t (sa, ad, rv) (k + 1)).2.1) z9) s s.heap H locs) (show ((mcM true f t (sa, ad, rv) k).2.2) + wrM ((mcM true f t (sa, ad, rv) k).1) f (k % 4) (((mcM true f t (sa, ad, rv) k).1) (24 + ((96 * f) + k))) (((mcM true f t (sa, ad, rv) k).1) (24 + ((96 * t) + k))) = (mcM true f t (sa, ad, rv) (k + 1)).2.2 from rfl)) hw
          exact ih_3 (k + 1) (by omega) (by omega) _ _ hw ls hl
        ·
          refine lv_aload_n hx hb dX4_mergesCells_69 rfl (lv_at hl 4 rfl) ?_
          refine r_get hx hb hts hown hw.q 0 1 hin4 rfl rfl (by decide) k7 rfl dX4_mergesCells_70 ?_
          refine lv_bipush (v := nI 24) hx hb dX4_mergesCells_73 kc_bipush_24 ?_
          refine lv_iload hx hb dX4_mergesCells_75 (lv_at hl 2 rfl) ?_
          refine r_addN hx hb dX4_mergesCells_77 ?_
          refine lv_iload hx hb dX4_mergesCells_78 (lv_at hl 0 rfl) ?_
          have J97_3 : ∀ ls : Array Slot, lv_has ls 9 [(7, .int (wyM ((mcM true f t (sa, ad, rv) k).1) f t (k % 4) (((mcM true f t (sa, ad, rv) k).1) (24 + ((96 * f) + k))) (((mcM true f t (sa, ad, rv) k).1) (24 + ((96 * t) + k))))), (6, .int (nI ((96 * f) + k))), (5, .int (nI ((96 * t) + k))), (4, .int (nI k)), (0, .ref (m9 0)), (1, .int (nI f)), (2, .int (nI t)), (3, .int (nI 1))] → W p l e rmX4_mergesCells_1 s m args below meth c H locs 0 0 Q (F0 m 97 ls [.int (if wyM (mcM true f t (sa, ad, rv) k).1 f t (k % 4) ((mcM true f t (sa, ad, rv) k).1 (24 + (96 * f + k))) ((mcM true f t (sa, ad, rv) k).1 (24 + (96 * t + k))) ≤ 0 then nI 0 else (mcM true f t (sa, ad, rv) k).1 (24 + (96 * f + k))), .int (nI (24 + (96 * t + k))), .ref (m9 1)]) := by
            intro ls hl
            refine r_ast hx hb hw 1 0 rfl rfl (i := 24 + (96 * t + k)) (by omega) (by decide) dX4_mergesCells_97 (fun H locs hw => ?_)
            have hw : Wd D A [(cI, .int)] (wM cI m9 (upd ((mcM true f t (sa, ad, rv) k).1) (24 + (96 * t + k)) (if wyM (mcM true f t (sa, ad, rv) k).1 f t (k % 4) ((mcM true f t (sa, ad, rv) k).1 (24 + (96 * f + k))) ((mcM true f t (sa, ad, rv) k).1 (24 + (96 * t + k))) ≤ 0 then nI 0 else (mcM true f t (sa, ad, rv) k).1 (24 + (96 * f + k)))) tx th sv ln po lt fi sc nu (((mcM true f t (sa, ad, rv) k).2.1) + waM ((mcM true f t (sa, ad, rv) k).1) t (k % 4) (((mcM true f t (sa, ad, rv) k).1) (24 + ((96 * f) + k))) (((mcM true f t (sa, ad, rv) k).1) (24 + ((96 * t) + k)))) (((mcM true f t (sa, ad, rv) k).2.2) + wrM ((mcM true f t (sa, ad, rv) k).1) f (k % 4) (((mcM true f t (sa, ad, rv) k).1) (24 + ((96 * f) + k))) (((mcM true f t (sa, ad, rv) k).1) (24 + ((96 * t) + k))))) s s.heap H locs := hw
            refine lv_aload_n hx hb dX4_mergesCells_98 rfl (lv_at hl 4 rfl) ?_
            refine r_get hx hb hts hown hw.q 0 1 hin4 rfl rfl (by decide) k7 rfl dX4_mergesCells_99 ?_
            refine lv_sipush (v := nI 408) hx hb dX4_mergesCells_102 kc_sipush_408 ?_
            refine lv_iload hx hb dX4_mergesCells_105 (lv_at hl 2 rfl) ?_
            refine r_addN hx hb dX4_mergesCells_107 ?_
            refine lv_aload_n hx hb dX4_mergesCells_108 rfl (lv_at hl 4 rfl) ?_
            refine r_get hx hb hts hown hw.q 0 1 hin4 rfl rfl (by decide) k7 rfl dX4_mergesCells_109 ?_
            refine lv_sipush (v := nI 408) hx hb dX4_mergesCells_112 kc_sipush_408 ?_
            refine lv_iload hx hb dX4_mergesCells_115 (lv_at hl 1 rfl) ?_
            refine r_addN hx hb dX4_mergesCells_117 ?_
            refine r_ald hx hb hw.q 1 0 rfl rfl (i := 408 + ((96 * f) + k)) (by omega) (by decide) dX4_mergesCells_118 ?_
            refine r_ast hx hb hw 1 0 rfl rfl (i := 408 + ((96 * t) + k)) (by omega) (by decide) dX4_mergesCells_119 (fun H locs hw => ?_)
            have hw : Wd D A [(cI, .int)] (wM cI m9 (upd (upd ((mcM true f t (sa, ad, rv) k).1) (24 + (96 * t + k)) (if wyM (mcM true f t (sa, ad, rv) k).1 f t (k % 4) ((mcM true f t (sa, ad, rv) k).1 (24 + (96 * f + k))) ((mcM true f t (sa, ad, rv) k).1 (24 + (96 * t + k))) ≤ 0 then nI 0 else (mcM true f t (sa, ad, rv) k).1 (24 + (96 * f + k)))) (408 + ((96 * t) + k)) ((upd ((mcM true f t (sa, ad, rv) k).1) (24 + (96 * t + k)) (if wyM (mcM true f t (sa, ad, rv) k).1 f t (k % 4) ((mcM true f t (sa, ad, rv) k).1 (24 + (96 * f + k))) ((mcM true f t (sa, ad, rv) k).1 (24 + (96 * t + k))) ≤ 0 then nI 0 else (mcM true f t (sa, ad, rv) k).1 (24 + (96 * f + k)))) (408 + ((96 * f) + k)))) tx th sv ln po lt fi sc nu (((mcM true f t (sa, ad, rv) k).2.1) + waM ((mcM true f t (sa, ad, rv) k).1) t (k % 4) (((mcM true f t (sa, ad, rv) k).1) (24 + ((96 * f) + k))) (((mcM true f t (sa, ad, rv) k).1) (24 + ((96 * t) + k)))) (((mcM true f t (sa, ad, rv) k).2.2) + wrM ((mcM true f t (sa, ad, rv) k).1) f (k % 4) (((mcM true f t (sa, ad, rv) k).1) (24 + ((96 * f) + k))) (((mcM true f t (sa, ad, rv) k).1) (24 + ((96 * t) + k))))) s s.heap H locs := hw
            refine lv_iload hx hb dX4_mergesCells_120 (lv_at hl 3 rfl) ?_
            refine lv_bipush (v := nI 16) hx hb dX4_mergesCells_122 kc_bipush_16 ?_
            refine r_divN hx hb (by omega) (by omega) (by omega) dX4_mergesCells_124 ?_
            refine lv_istore (lv' := [(8, .int (nI (k / 16))), (7, .int (wyM ((mcM true f t (sa, ad, rv) k).1) f t (k % 4) (((mcM true f t (sa, ad, rv) k).1) (24 + ((96 * f) + k))) (((mcM true f t (sa, ad, rv) k).1) (24 + ((96 * t) + k))))), (6, .int (nI ((96 * f) + k))), (5, .int (nI ((96 * t) + k))), (4, .int (nI k)), (0, .ref (m9 0)), (1, .int (nI f)), (2, .int (nI t)), (3, .int (nI 1))]) hx hb dX4_mergesCells_125 hl (by decide) rfl (fun ls hl => ?_)
            refine lv_iload hx hb dX4_mergesCells_127 (lv_at hl 4 rfl) ?_
            refine lv_iconst (v := nI 4) hx hb dX4_mergesCells_129 kc_iconst_4 ?_
            refine r_divN hx hb (by omega) (by omega) (by omega) dX4_mergesCells_130 ?_
            refine lv_iconst (v := nI 4) hx hb dX4_mergesCells_131 kc_iconst_4 ?_
            refine r_remN hx hb (by omega) (by omega) (by omega) dX4_mergesCells_132 ?_
            refine r_if_neN (tgt := 166) hx hb (by omega) dX4_mergesCells_133 (by decide) (fun c_133 => ?_) (fun c_133 => ?_)
            ·
              refine lv_iinc (v := nI (k + 1)) (lv' := [(4, .int (nI (k + 1))), (8, .int (nI (k / 16))), (7, .int (wyM ((mcM true f t (sa, ad, rv) k).1) f t (k % 4) (((mcM true f t (sa, ad, rv) k).1) (24 + ((96 * f) + k))) (((mcM true f t (sa, ad, rv) k).1) (24 + ((96 * t) + k))))), (6, .int (nI ((96 * f) + k))), (5, .int (nI ((96 * t) + k))), (0, .ref (m9 0)), (1, .int (nI f)), (2, .int (nI t)), (3, .int (nI 1))]) hx hb dX4_mergesCells_166 hl (k := 4) rfl (nI_add k 1) (by decide) rfl (fun ls hl => ?_)
              refine lv_goto (tgt := 3) hx hb dX4_mergesCells_169 (by decide) ?_
              have hl : lv_has ls 9 [(4, .int (nI (k + 1))), (0, .ref (m9 0)), (1, .int (nI f)), (2, .int (nI t)), (3, .int (nI 1))] := lv_sub hl [0, 5, 6, 7, 8] rfl
              have hw : Wd D A [(cI, .int)] (wM cI m9 ((mcM true f t (sa, ad, rv) (k + 1)).1) tx th sv ln po lt fi sc nu (((mcM true f t (sa, ad, rv) k).2.1) + waM ((mcM true f t (sa, ad, rv) k).1) t (k % 4) (((mcM true f t (sa, ad, rv) k).1) (24 + ((96 * f) + k))) (((mcM true f t (sa, ad, rv) k).1) (24 + ((96 * t) + k)))) (((mcM true f t (sa, ad, rv) k).2.2) + wrM ((mcM true f t (sa, ad, rv) k).1) f (k % 4) (((mcM true f t (sa, ad, rv) k).1) (24 + ((96 * f) + k))) (((mcM true f t (sa, ad, rv) k).1) (24 + ((96 * t) + k))))) s s.heap H locs := Eq.mp (congrArg (fun z9 => Wd D A [(cI, .int)] (wM cI m9 z9 tx th sv ln po lt fi sc nu (((mcM true f t (sa, ad, rv) k).2.1) + waM ((mcM true f t (sa, ad, rv) k).1) t (k % 4) (((mcM true f t (sa, ad, rv) k).1) (24 + ((96 * f) + k))) (((mcM true f t (sa, ad, rv) k).1) (24 + ((96 * t) + k)))) (((mcM true f t (sa, ad, rv) k).2.2) + wrM ((mcM true f t (sa, ad, rv) k).1) f (k % 4) (((mcM true f t (sa, ad, rv) k).1) (24 + ((96 * f) + k))) (((mcM true f t (sa, ad, rv) k).1) (24 + ((96 * t) + k))))) s s.heap H locs) (show upd (upd ((mcM true f t (sa, ad, rv) k).1) (24 + (96 * t + k)) (if wyM (mcM true f t (sa, ad, rv) k).1 f t (k % 4) ((mcM true f t (sa, ad, rv) k).1 (24 + (96 * f + k))) ((mcM true f t (sa, ad, rv) k).1 (24 + (96 * t + k))) ≤ 0 then nI 0 else (mcM true f t (sa, ad, rv) k).1 (24 + (96 * f + k)))) (408 + ((96 * t) + k)) ((upd ((mcM true f t (sa, ad, rv) k).1) (24 + (96 * t + k)) (if wyM (mcM true f t (sa, ad, rv) k).1 f t (k % 4) ((mcM true f t (sa, ad, rv) k).1 (24 + (96 * f + k))) ((mcM true f t (sa, ad, rv) k).1 (24 + (96 * t + k))) ≤ 0 then nI 0 else (mcM true f t (sa, ad, rv) k).1 (24 + (96 * f + k)))) (408 + ((96 * f) + k))) = (mcM true f t (sa, ad, rv) (k + 1)).1 from by first | rfl | exact mcM_z c_66 | exact mcM_a c_66 c_133 | exact mcM_b c_66 c_133)) hw
              have hw : Wd D A [(cI, .int)] (wM cI m9 ((mcM true f t (sa, ad, rv) (k + 1)).1) tx th sv ln po lt fi sc nu ((mcM true f t (sa, ad, rv) (k + 1)).2.1) (((mcM true f t (sa, ad, rv) k).2.2) + wrM ((mcM true f t (sa, ad, rv) k).1) f (k % 4) (((mcM true f t (sa, ad, rv) k).1) (24 + ((96 * f) + k))) (((mcM true f t (sa, ad, rv) k).1) (24 + ((96 * t) + k))))) s s.heap H locs := Eq.mp (congrArg (fun z9 => Wd D A [(cI, .int)] (wM cI m9 ((mcM true f t (sa, ad, rv) (k + 1)).1) tx th sv ln po lt fi sc nu z9 (((mcM true f t (sa, ad, rv) k).2.2) + wrM ((mcM true f t (sa, ad, rv) k).1) f (k % 4) (((mcM true f t (sa, ad, rv) k).1) (24 + ((96 * f) + k))) (((mcM true f t (sa, ad, rv) k).1) (24 + ((96 * t) + k))))) s s.heap H locs) (show ((mcM true f t (sa, ad, rv) k).2.1) + waM ((mcM true f t (sa, ad, rv) k).1) t (k % 4) (((mcM true f t (sa, ad, rv) k).1) (24 + ((96 * f) + k))) (((mcM true f t (sa, ad, rv) k).1) (24 + ((96 * t) + k))) = (mcM true f t (sa, ad, rv) (k + 1)).2.1 from rfl)) hw
              have hw : Wd D A [(cI, .int)] (wM cI m9 ((mcM true f t (sa, ad, rv) (k + 1)).1) tx th sv ln po lt fi sc nu ((mcM true f t (sa, ad, rv) (k + 1)).2.1) ((mcM true f t (sa, ad, rv) (k + 1)).2.2)) s s.heap H locs := Eq.mp (congrArg (fun z9 => Wd D A [(cI, .int)] (wM cI m9 ((mcM true f t (sa, ad, rv) (k + 1)).1) tx th sv ln po lt fi sc nu ((mcM true f t (sa, ad, rv) (k + 1)).2.1) z9) s s.heap H locs) (show ((mcM true f t (sa, ad, rv) k).2.2) + wrM ((mcM true f t (sa, ad, rv) k).1) f (k % 4) (((mcM true f t (sa, ad, rv) k).1) (24 + ((96 * f) + k))) (((mcM true f t (sa, ad, rv) k).1) (24 + ((96 * t) + k))) = (mcM true f t (sa, ad, rv) (k + 1)).2.2 from rfl)) hw
              exact ih_3 (k + 1) (by omega) (by omega) _ _ hw ls hl
            ·
              refine lv_aload_n hx hb dX4_mergesCells_136 rfl (lv_at hl 5 rfl) ?_
              refine r_get hx hb hts hown hw.q 0 1 hin4 rfl rfl (by decide) k7 rfl dX4_mergesCells_137 ?_
              refine lv_iload_n hx hb dX4_mergesCells_140 rfl (lv_at hl 7 rfl) ?_
              refine lv_iload hx hb dX4_mergesCells_141 (lv_at hl 0 rfl) ?_
              refine lv_iload hx hb dX4_mergesCells_143 (lv_at hl 4 rfl) ?_
              refine lv_iconst (v := nI 4) hx hb dX4_mergesCells_145 kc_iconst_4 ?_
              refine r_remN hx hb (by omega) (by omega) (by omega) dX4_mergesCells_146 ?_
              refine cq_S (As := [.int (nI t), .int (nI (k / 16)), .int (nI (k % 4))]) (rest := [.ref (m9 1)]) S (c_X4_stampPlace l D (r := t) (w := k / 16) (k9 := k % 4)) (va_cwS 3 hts gX4_mergesCells_X4_stampPlace rfl rfl rfl (by decide +kernel) ⟨Nat.le_of_ble_eq_true rfl, Nat.le_of_ble_eq_true rfl⟩) (hw.q.sub [] [] rfl rfl) rfl hl.1 (Nat.le_of_ble_eq_true rfl) ⟨Nat.le_of_ble_eq_true rfl, Nat.le_of_ble_eq_true rfl⟩ rfl dX4_mergesCells_147 (fun r_147 e_147 => ?_)
              have e_147 : r_147 = nI (792 + 4 * (6 * t + (k / 16)) + (k % 4)) := e_147
              subst e_147
              refine lv_aload_n hx hb dX4_mergesCells_150 rfl (lv_at hl 5 rfl) ?_
              refine r_get hx hb hts hown hw.q 0 1 hin4 rfl rfl (by decide) k7 rfl dX4_mergesCells_151 ?_
              refine lv_iload_n hx hb dX4_mergesCells_154 rfl (lv_at hl 6 rfl) ?_
              refine lv_iload hx hb dX4_mergesCells_155 (lv_at hl 0 rfl) ?_
              refine lv_iload hx hb dX4_mergesCells_157 (lv_at hl 4 rfl) ?_
              refine lv_iconst (v := nI 4) hx hb dX4_mergesCells_159 kc_iconst_4 ?_
              refine r_remN hx hb (by omega) (by omega) (by omega) dX4_mergesCells_160 ?_
              refine cq_S (As := [.int (nI f), .int (nI (k / 16)), .int (nI (k % 4))]) (rest := [.ref (m9 1), .int (nI (792 + 4 * (6 * t + (k / 16)) + (k % 4))), .ref (m9 1)]) S (c_X4_stampPlace l D (r := f) (w := k / 16) (k9 := k % 4)) (va_cwS 3 hts gX4_mergesCells_X4_stampPlace rfl rfl rfl (by decide +kernel) ⟨Nat.le_of_ble_eq_true rfl, Nat.le_of_ble_eq_true rfl⟩) (hw.q.sub [] [] rfl rfl) rfl hl.1 (Nat.le_of_ble_eq_true rfl) ⟨Nat.le_of_ble_eq_true rfl, Nat.le_of_ble_eq_true rfl⟩ rfl dX4_mergesCells_161 (fun r_161 e_161 => ?_)
              have e_161 : r_161 = nI (792 + 4 * (6 * f + (k / 16)) + (k % 4)) := e_161
              subst e_161
              refine r_ald hx hb hw.q 1 0 rfl rfl (i := 792 + 4 * (6 * f + (k / 16)) + (k % 4)) (by omega) (by decide) dX4_mergesCells_164 ?_
              refine r_ast hx hb hw 1 0 rfl rfl (i := 792 + 4 * (6 * t + (k / 16)) + (k % 4)) (by omega) (by decide) dX4_mergesCells_165 (fun H locs hw => ?_)
              have hw : Wd D A [(cI, .int)] (wM cI m9 (upd (upd (upd ((mcM true f t (sa, ad, rv) k).1) (24 + (96 * t + k)) (if wyM (mcM true f t (sa, ad, rv) k).1 f t (k % 4) ((mcM true f t (sa, ad, rv) k).1 (24 + (96 * f + k))) ((mcM true f t (sa, ad, rv) k).1 (24 + (96 * t + k))) ≤ 0 then nI 0 else (mcM true f t (sa, ad, rv) k).1 (24 + (96 * f + k)))) (408 + ((96 * t) + k)) ((upd ((mcM true f t (sa, ad, rv) k).1) (24 + (96 * t + k)) (if wyM (mcM true f t (sa, ad, rv) k).1 f t (k % 4) ((mcM true f t (sa, ad, rv) k).1 (24 + (96 * f + k))) ((mcM true f t (sa, ad, rv) k).1 (24 + (96 * t + k))) ≤ 0 then nI 0 else (mcM true f t (sa, ad, rv) k).1 (24 + (96 * f + k)))) (408 + ((96 * f) + k)))) (792 + 4 * (6 * t + (k / 16)) + (k % 4)) ((upd (upd ((mcM true f t (sa, ad, rv) k).1) (24 + (96 * t + k)) (if wyM (mcM true f t (sa, ad, rv) k).1 f t (k % 4) ((mcM true f t (sa, ad, rv) k).1 (24 + (96 * f + k))) ((mcM true f t (sa, ad, rv) k).1 (24 + (96 * t + k))) ≤ 0 then nI 0 else (mcM true f t (sa, ad, rv) k).1 (24 + (96 * f + k)))) (408 + ((96 * t) + k)) ((upd ((mcM true f t (sa, ad, rv) k).1) (24 + (96 * t + k)) (if wyM (mcM true f t (sa, ad, rv) k).1 f t (k % 4) ((mcM true f t (sa, ad, rv) k).1 (24 + (96 * f + k))) ((mcM true f t (sa, ad, rv) k).1 (24 + (96 * t + k))) ≤ 0 then nI 0 else (mcM true f t (sa, ad, rv) k).1 (24 + (96 * f + k)))) (408 + ((96 * f) + k)))) (792 + 4 * (6 * f + (k / 16)) + (k % 4)))) tx th sv ln po lt fi sc nu (((mcM true f t (sa, ad, rv) k).2.1) + waM ((mcM true f t (sa, ad, rv) k).1) t (k % 4) (((mcM true f t (sa, ad, rv) k).1) (24 + ((96 * f) + k))) (((mcM true f t (sa, ad, rv) k).1) (24 + ((96 * t) + k)))) (((mcM true f t (sa, ad, rv) k).2.2) + wrM ((mcM true f t (sa, ad, rv) k).1) f (k % 4) (((mcM true f t (sa, ad, rv) k).1) (24 + ((96 * f) + k))) (((mcM true f t (sa, ad, rv) k).1) (24 + ((96 * t) + k))))) s s.heap H locs := hw
              refine lv_iinc (v := nI (k + 1)) (lv' := [(4, .int (nI (k + 1))), (8, .int (nI (k / 16))), (7, .int (wyM ((mcM true f t (sa, ad, rv) k).1) f t (k % 4) (((mcM true f t (sa, ad, rv) k).1) (24 + ((96 * f) + k))) (((mcM true f t (sa, ad, rv) k).1) (24 + ((96 * t) + k))))), (6, .int (nI ((96 * f) + k))), (5, .int (nI ((96 * t) + k))), (0, .ref (m9 0)), (1, .int (nI f)), (2, .int (nI t)), (3, .int (nI 1))]) hx hb dX4_mergesCells_166 hl (k := 4) rfl (nI_add k 1) (by decide) rfl (fun ls hl => ?_)
              refine lv_goto (tgt := 3) hx hb dX4_mergesCells_169 (by decide) ?_
              have hl : lv_has ls 9 [(4, .int (nI (k + 1))), (0, .ref (m9 0)), (1, .int (nI f)), (2, .int (nI t)), (3, .int (nI 1))] := lv_sub hl [0, 5, 6, 7, 8] rfl
              have hw : Wd D A [(cI, .int)] (wM cI m9 ((mcM true f t (sa, ad, rv) (k + 1)).1) tx th sv ln po lt fi sc nu (((mcM true f t (sa, ad, rv) k).2.1) + waM ((mcM true f t (sa, ad, rv) k).1) t (k % 4) (((mcM true f t (sa, ad, rv) k).1) (24 + ((96 * f) + k))) (((mcM true f t (sa, ad, rv) k).1) (24 + ((96 * t) + k)))) (((mcM true f t (sa, ad, rv) k).2.2) + wrM ((mcM true f t (sa, ad, rv) k).1) f (k % 4) (((mcM true f t (sa, ad, rv) k).1) (24 + ((96 * f) + k))) (((mcM true f t (sa, ad, rv) k).1) (24 + ((96 * t) + k))))) s s.heap H locs := Eq.mp (congrArg (fun z9 => Wd D A [(cI, .int)] (wM cI m9 z9 tx th sv ln po lt fi sc nu (((mcM true f t (sa, ad, rv) k).2.1) + waM ((mcM true f t (sa, ad, rv) k).1) t (k % 4) (((mcM true f t (sa, ad, rv) k).1) (24 + ((96 * f) + k))) (((mcM true f t (sa, ad, rv) k).1) (24 + ((96 * t) + k)))) (((mcM true f t (sa, ad, rv) k).2.2) + wrM ((mcM true f t (sa, ad, rv) k).1) f (k % 4) (((mcM true f t (sa, ad, rv) k).1) (24 + ((96 * f) + k))) (((mcM true f t (sa, ad, rv) k).1) (24 + ((96 * t) + k))))) s s.heap H locs) (show upd (upd (upd ((mcM true f t (sa, ad, rv) k).1) (24 + (96 * t + k)) (if wyM (mcM true f t (sa, ad, rv) k).1 f t (k % 4) ((mcM true f t (sa, ad, rv) k).1 (24 + (96 * f + k))) ((mcM true f t (sa, ad, rv) k).1 (24 + (96 * t + k))) ≤ 0 then nI 0 else (mcM true f t (sa, ad, rv) k).1 (24 + (96 * f + k)))) (408 + ((96 * t) + k)) ((upd ((mcM true f t (sa, ad, rv) k).1) (24 + (96 * t + k)) (if wyM (mcM true f t (sa, ad, rv) k).1 f t (k % 4) ((mcM true f t (sa, ad, rv) k).1 (24 + (96 * f + k))) ((mcM true f t (sa, ad, rv) k).1 (24 + (96 * t + k))) ≤ 0 then nI 0 else (mcM true f t (sa, ad, rv) k).1 (24 + (96 * f + k)))) (408 + ((96 * f) + k)))) (792 + 4 * (6 * t + (k / 16)) + (k % 4)) ((upd (upd ((mcM true f t (sa, ad, rv) k).1) (24 + (96 * t + k)) (if wyM (mcM true f t (sa, ad, rv) k).1 f t (k % 4) ((mcM true f t (sa, ad, rv) k).1 (24 + (96 * f + k))) ((mcM true f t (sa, ad, rv) k).1 (24 + (96 * t + k))) ≤ 0 then nI 0 else (mcM true f t (sa, ad, rv) k).1 (24 + (96 * f + k)))) (408 + ((96 * t) + k)) ((upd ((mcM true f t (sa, ad, rv) k).1) (24 + (96 * t + k)) (if wyM (mcM true f t (sa, ad, rv) k).1 f t (k % 4) ((mcM true f t (sa, ad, rv) k).1 (24 + (96 * f + k))) ((mcM true f t (sa, ad, rv) k).1 (24 + (96 * t + k))) ≤ 0 then nI 0 else (mcM true f t (sa, ad, rv) k).1 (24 + (96 * f + k)))) (408 + ((96 * f) + k)))) (792 + 4 * (6 * f + (k / 16)) + (k % 4))) = (mcM true f t (sa, ad, rv) (k + 1)).1 from by first | rfl | exact mcM_z c_66 | exact mcM_a c_66 c_133 | exact mcM_b c_66 c_133)) hw
              have hw : Wd D A [(cI, .int)] (wM cI m9 ((mcM true f t (sa, ad, rv) (k + 1)).1) tx th sv ln po lt fi sc nu ((mcM true f t (sa, ad, rv) (k + 1)).2.1) (((mcM true f t (sa, ad, rv) k).2.2) + wrM ((mcM true f t (sa, ad, rv) k).1) f (k % 4) (((mcM true f t (sa, ad, rv) k).1) (24 + ((96 * f) + k))) (((mcM true f t (sa, ad, rv) k).1) (24 + ((96 * t) + k))))) s s.heap H locs := Eq.mp (congrArg (fun z9 => Wd D A [(cI, .int)] (wM cI m9 ((mcM true f t (sa, ad, rv) (k + 1)).1) tx th sv ln po lt fi sc nu z9 (((mcM true f t (sa, ad, rv) k).2.2) + wrM ((mcM true f t (sa, ad, rv) k).1) f (k % 4) (((mcM true f t (sa, ad, rv) k).1) (24 + ((96 * f) + k))) (((mcM true f t (sa, ad, rv) k).1) (24 + ((96 * t) + k))))) s s.heap H locs) (show ((mcM true f t (sa, ad, rv) k).2.1) + waM ((mcM true f t (sa, ad, rv) k).1) t (k % 4) (((mcM true f t (sa, ad, rv) k).1) (24 + ((96 * f) + k))) (((mcM true f t (sa, ad, rv) k).1) (24 + ((96 * t) + k))) = (mcM true f t (sa, ad, rv) (k + 1)).2.1 from rfl)) hw
              have hw : Wd D A [(cI, .int)] (wM cI m9 ((mcM true f t (sa, ad, rv) (k + 1)).1) tx th sv ln po lt fi sc nu ((mcM true f t (sa, ad, rv) (k + 1)).2.1) ((mcM true f t (sa, ad, rv) (k + 1)).2.2)) s s.heap H locs := Eq.mp (congrArg (fun z9 => Wd D A [(cI, .int)] (wM cI m9 ((mcM true f t (sa, ad, rv) (k + 1)).1) tx th sv ln po lt fi sc nu ((mcM true f t (sa, ad, rv) (k + 1)).2.1) z9) s s.heap H locs) (show ((mcM true f t (sa, ad, rv) k).2.2) + wrM ((mcM true f t (sa, ad, rv) k).1) f (k % 4) (((mcM true f t (sa, ad, rv) k).1) (24 + ((96 * f) + k))) (((mcM true f t (sa, ad, rv) k).1) (24 + ((96 * t) + k))) = (mcM true f t (sa, ad, rv) (k + 1)).2.2 from rfl)) hw
              exact ih_3 (k + 1) (by omega) (by omega) _ _ hw ls hl
          refine lv_if_le (tgt := 96) hx hb dX4_mergesCells_80 (by decide) (fun c_80 => ?_) (fun c_80 => ?_)
          ·
            refine lv_iconst (v := nI 0) hx hb dX4_mergesCells_96 kc_iconst_0 ?_
            have hl : lv_has ls 9 [(7, .int (wyM ((mcM true f t (sa, ad, rv) k).1) f t (k % 4) (((mcM true f t (sa, ad, rv) k).1) (24 + ((96 * f) + k))) (((mcM true f t (sa, ad, rv) k).1) (24 + ((96 * t) + k))))), (6, .int (nI ((96 * f) + k))), (5, .int (nI ((96 * t) + k))), (4, .int (nI k)), (0, .ref (m9 0)), (1, .int (nI f)), (2, .int (nI t)), (3, .int (nI 1))] := lv_sub hl [0, 1, 2, 3, 4, 5, 6, 7] rfl
            refine W.eq (g2 := F0 m 97 ls [.int (nI 0), .int (nI (24 + (96 * t + k))), .ref (m9 1)]) rfl ?_
            refine r_top hx (show nI 0 = if wyM (mcM true f t (sa, ad, rv) k).1 f t (k % 4) ((mcM true f t (sa, ad, rv) k).1 (24 + (96 * f + k))) ((mcM true f t (sa, ad, rv) k).1 (24 + (96 * t + k))) ≤ 0 then nI 0 else (mcM true f t (sa, ad, rv) k).1 (24 + (96 * f + k)) from by first | rw [if_neg c_80] | rw [if_pos c_80]) ?_
            exact J97_3 ls hl
          ·
            refine lv_aload_n hx hb dX4_mergesCells_83 rfl (lv_at hl 4 rfl) ?_
            refine r_get hx hb hts hown hw.q 0 1 hin4 rfl rfl (by decide) k7 rfl dX4_mergesCells_84 ?_
            refine lv_bipush (v := nI 24) hx hb dX4_mergesCells_87 kc_bipush_24 ?_
            refine lv_iload hx hb dX4_mergesCells_89 (lv_at hl 1 rfl) ?_
            refine r_addN hx hb dX4_mergesCells_91 ?_
            refine r_ald hx hb hw.q 1 0 rfl rfl (i := 24 + ((96 * f) + k)) (by omega) (by decide) dX4_mergesCells_92 ?_
            refine lv_goto (tgt := 97) hx hb dX4_mergesCells_93 (by decide) ?_
            have hl : lv_has ls 9 [(7, .int (wyM ((mcM true f t (sa, ad, rv) k).1) f t (k % 4) (((mcM true f t (sa, ad, rv) k).1) (24 + ((96 * f) + k))) (((mcM true f t (sa, ad, rv) k).1) (24 + ((96 * t) + k))))), (6, .int (nI ((96 * f) + k))), (5, .int (nI ((96 * t) + k))), (4, .int (nI k)), (0, .ref (m9 0)), (1, .int (nI f)), (2, .int (nI t)), (3, .int (nI 1))] := lv_sub hl [0, 1, 2, 3, 4, 5, 6, 7] rfl
            refine W.eq (g2 := F0 m 97 ls [.int (((mcM true f t (sa, ad, rv) k).1) (24 + ((96 * f) + k))), .int (nI (24 + (96 * t + k))), .ref (m9 1)]) rfl ?_
            refine r_top hx (show ((mcM true f t (sa, ad, rv) k).1) (24 + ((96 * f) + k)) = if wyM (mcM true f t (sa, ad, rv) k).1 f t (k % 4) ((mcM true f t (sa, ad, rv) k).1 (24 + (96 * f + k))) ((mcM true f t (sa, ad, rv) k).1 (24 + (96 * t + k))) ≤ 0 then nI 0 else (mcM true f t (sa, ad, rv) k).1 (24 + (96 * f + k)) from by first | rw [if_neg c_80] | rw [if_pos c_80]) ?_
            exact J97_3 ls hl
  have hl : lv_has ls 9 [(4, .int (nI 0)), (0, .ref (m9 0)), (1, .int (nI f)), (2, .int (nI t)), (3, .int (nI 1))] := lv_sub hl [0, 1, 2, 3, 4] rfl
  have hw : Wd D A [(cI, .int)] (wM cI m9 ((mcM true f t (sa, ad, rv) 0).1) tx th sv ln po lt fi sc nu ad rv) s s.heap s.heap [] := Eq.mp (congrArg (fun z9 => Wd D A [(cI, .int)] (wM cI m9 z9 tx th sv ln po lt fi sc nu ad rv) s s.heap s.heap []) (show sa = (mcM true f t (sa, ad, rv) 0).1 from rfl)) hw
  have hw : Wd D A [(cI, .int)] (wM cI m9 ((mcM true f t (sa, ad, rv) 0).1) tx th sv ln po lt fi sc nu ((mcM true f t (sa, ad, rv) 0).2.1) rv) s s.heap s.heap [] := Eq.mp (congrArg (fun z9 => Wd D A [(cI, .int)] (wM cI m9 ((mcM true f t (sa, ad, rv) 0).1) tx th sv ln po lt fi sc nu z9 rv) s s.heap s.heap []) (show ad = (mcM true f t (sa, ad, rv) 0).2.1 from rfl)) hw
  have hw : Wd D A [(cI, .int)] (wM cI m9 ((mcM true f t (sa, ad, rv) 0).1) tx th sv ln po lt fi sc nu ((mcM true f t (sa, ad, rv) 0).2.1) ((mcM true f t (sa, ad, rv) 0).2.2)) s s.heap s.heap [] := Eq.mp (congrArg (fun z9 => Wd D A [(cI, .int)] (wM cI m9 ((mcM true f t (sa, ad, rv) 0).1) tx th sv ln po lt fi sc nu ((mcM true f t (sa, ad, rv) 0).2.1) z9) s s.heap s.heap []) (show rv = (mcM true f t (sa, ad, rv) 0).2.2 from rfl)) hw
  exact L3_1 (96 + 1) (0) (by omega) (by omega) _ _ hw ls hl
abbrev rmX4_looks_1 : Room := { frames := 3, cells := 0, slots := 0, locals := 77 }
set_option maxHeartbeats 4000000 in
set_option maxRecDepth 100000 in
theorem c_X4_looks_1 (l : Launch) (D : va_G) (sz : Nat) (cI : ClassId) (m9 : Nat → Nat) (sa : Nat → Int32) (tx : Nat → Nat) (th : Int32) (sv ln po : Nat) (lt fi sc nu : Int32) (ad rv : Nat) (f t : Nat) (hf4 : f < 4) (ht4 : t < 4) : MUv l yX4_looks wsX4_looks rmX4_looks_1 [.ref (m9 0), .int (nI f), .int (nI t), .int (nI 1)] D [(cI, .int)] (wM cI m9 sa tx th sv ln po lt fi sc nu ad rv) sz (fun (_ : Unit) => True) (fun _ => []) (fun _ => wM cI m9 ((lkM true sa f t).1) tx th sv ln po lt fi sc nu ((lkM true sa f t).2.1) ((lkM true sa f t).2.2)) 0 0 := by
  refine met_v (own := RX4) (cc := cX4_looks) (maxL := 4) (by decide) rfl rfl (Nat.le_of_ble_eq_true rfl) ?_
  intro p e s m args below meth c Q A hsz S hmn hw hA hE ls hl
  obtain ⟨hx, hb, hml, hown, hts⟩ := id S
  have k72 := hts (.fieldLink RX4 72 "CausalTableModel" "added" "I") (by decide +kernel)
  have hin4 := (show ∀ w ∈ wsX40, w ∈ wsX4_looks by decide +kernel)
  have k69 := hts (.fieldLink RX4 69 "CausalTableModel" "removed" "I") (by decide +kernel)
  have hl : lv_has ls 4 [(0, .ref (m9 0)), (1, .int (nI f)), (2, .int (nI t)), (3, .int (nI 1))] := hl
  refine lv_aload_n hx hb dX4_looks_0 rfl (lv_at hl 0 rfl) ?_
  refine lv_iconst (v := nI 0) hx hb dX4_looks_1 kc_iconst_0 ?_
  refine r_put hx hb hts hown hw 0 10 (ty := .int) tyX4 tyX4_ok nmX4 hin4 rfl rfl (by decide) k72 rfl (by decide +kernel) rfl rfl (Nat.le_of_ble_eq_true rfl) dX4_looks_2 (fun H locs hw => ?_)
  have hw : Wd D A [(cI, .int)] (wM cI m9 sa tx th sv ln po lt fi sc nu 0 rv) s s.heap H locs := hw
  refine lv_aload_n hx hb dX4_looks_5 rfl (lv_at hl 0 rfl) ?_
  refine lv_iconst (v := nI 0) hx hb dX4_looks_6 kc_iconst_0 ?_
  refine r_put hx hb hts hown hw 0 11 (ty := .int) tyX4 tyX4_ok nmX4 hin4 rfl rfl (by decide) k69 rfl (by decide +kernel) rfl rfl (Nat.le_of_ble_eq_true rfl) dX4_looks_7 (fun H locs hw => ?_)
  have hw : Wd D A [(cI, .int)] (wM cI m9 sa tx th sv ln po lt fi sc nu 0 0) s s.heap H locs := hw
  refine lv_aload_n hx hb dX4_looks_10 rfl (lv_at hl 0 rfl) ?_
  refine lv_iload_n hx hb dX4_looks_11 rfl (lv_at hl 1 rfl) ?_
  refine lv_iload_n hx hb dX4_looks_12 rfl (lv_at hl 2 rfl) ?_
  refine lv_iload_n hx hb dX4_looks_13 rfl (lv_at hl 3 rfl) ?_
  refine cu_Vv (As := [.int (nI f), .int (nI t), .int (nI 1)]) (rest := []) (wc := wM cI m9 sa tx th sv ln po lt fi sc nu 0 0) (wr := []) S (c_X4_mergesCells_1 l D (sz := H.size) (cI := cI) (m9 := m9) (sa := sa) (tx := tx) (th := th) (sv := sv) (ln := ln) (po := po) (lt := lt) (fi := fi) (sc := sc) (nu := nu) (ad := 0) (rv := 0) (f := f) (t := t) (hf4 := by omega) (ht4 := by omega)) (cwV 3 hts gX4_looks_X4_mergesCells rfl rfl rfl (by decide +kernel) ⟨Nat.le_of_ble_eq_true rfl, Nat.le_of_ble_eq_true rfl⟩) hw hA [0, 1, 2] [] [0] rfl rfl rfl (by decide) (by decide) (by decide) 0 rfl rfl rfl hl.1 (Nat.le_of_ble_eq_true rfl) ⟨Nat.le_of_ble_eq_true rfl, Nat.le_of_ble_eq_true rfl⟩ rfl dX4_looks_14 (fun u_14 H locs e_14 hw => ?_)
  have hw : Wd D A [(cI, .int)] (wM cI m9 ((mcM true f t (sa, 0, 0) 96).1) tx th sv ln po lt fi sc nu ((mcM true f t (sa, 0, 0) 96).2.1) ((mcM true f t (sa, 0, 0) 96).2.2)) s s.heap H locs := hw
  refine lv_aload_n hx hb dX4_looks_17 rfl (lv_at hl 0 rfl) ?_
  refine lv_iload_n hx hb dX4_looks_18 rfl (lv_at hl 1 rfl) ?_
  refine lv_iload_n hx hb dX4_looks_19 rfl (lv_at hl 2 rfl) ?_
  refine lv_iload_n hx hb dX4_looks_20 rfl (lv_at hl 3 rfl) ?_
  refine cu_Vv (As := [.int (nI f), .int (nI t), .int (nI 1)]) (rest := []) (wc := wM cI m9 ((mcM true f t (sa, 0, 0) 96).1) tx th sv ln po lt fi sc nu ((mcM true f t (sa, 0, 0) 96).2.1) ((mcM true f t (sa, 0, 0) 96).2.2)) (wr := []) S (c_X4_mergesElements_1 l D (sz := H.size) (cI := cI) (m9 := m9) (sa := (mcM true f t (sa, 0, 0) 96).1) (tx := tx) (th := th) (sv := sv) (ln := ln) (po := po) (lt := lt) (fi := fi) (sc := sc) (nu := nu) (ad := (mcM true f t (sa, 0, 0) 96).2.1) (rv := (mcM true f t (sa, 0, 0) 96).2.2) (f := f) (t := t) (hf4 := by omega) (ht4 := by omega)) (cwV 3 hts gX4_looks_X4_mergesElements rfl rfl rfl (by decide +kernel) ⟨Nat.le_of_ble_eq_true rfl, Nat.le_of_ble_eq_true rfl⟩) hw hA [0, 1, 2] [] [0] rfl rfl rfl (by decide) (by decide) (by decide) 0 rfl rfl rfl hl.1 (Nat.le_of_ble_eq_true rfl) ⟨Nat.le_of_ble_eq_true rfl, Nat.le_of_ble_eq_true rfl⟩ rfl dX4_looks_21 (fun u_21 H locs e_21 hw => ?_)
  have hw : Wd D A [(cI, .int)] (wM cI m9 ((meM true f t (((mcM true f t (sa, 0, 0) 96).1), ((mcM true f t (sa, 0, 0) 96).2.1), ((mcM true f t (sa, 0, 0) 96).2.2)) 384).1) tx th sv ln po lt fi sc nu ((meM true f t (((mcM true f t (sa, 0, 0) 96).1), ((mcM true f t (sa, 0, 0) 96).2.1), ((mcM true f t (sa, 0, 0) 96).2.2)) 384).2.1) ((meM true f t (((mcM true f t (sa, 0, 0) 96).1), ((mcM true f t (sa, 0, 0) 96).2.1), ((mcM true f t (sa, 0, 0) 96).2.2)) 384).2.2)) s s.heap H locs := hw
  have ew : (wM cI m9 ((meM true f t (((mcM true f t (sa, 0, 0) 96).1), ((mcM true f t (sa, 0, 0) 96).2.1), ((mcM true f t (sa, 0, 0) 96).2.2)) 384).1) tx th sv ln po lt fi sc nu ((meM true f t (((mcM true f t (sa, 0, 0) 96).1), ((mcM true f t (sa, 0, 0) 96).2.1), ((mcM true f t (sa, 0, 0) 96).2.2)) 384).2.1) ((meM true f t (((mcM true f t (sa, 0, 0) 96).1), ((mcM true f t (sa, 0, 0) 96).2.1), ((mcM true f t (sa, 0, 0) 96).2.2)) 384).2.2)) = (wM cI m9 ((lkM true sa f t).1) tx th sv ln po lt fi sc nu ((lkM true sa f t).2.1) ((lkM true sa f t).2.2)) := by rw [lkM]
  rw [ew] at hw
  exact hE () dX4_looks_24 (Nat.le_of_ble_eq_true rfl) (Nat.le_of_ble_eq_true rfl) (hw.sub [0, 1, 2] [] (by decide) rfl rfl) trivial
abbrev rmX4_merges : Room := { frames := 4, cells := 0, slots := 0, locals := 100 }
set_option maxHeartbeats 4000000 in
set_option maxRecDepth 100000 in
theorem c_X4_merges (l : Launch) (D : va_G) (sz : Nat) (cI : ClassId) (m9 : Nat → Nat) (sa : Nat → Int32) (tx : Nat → Nat) (th : Int32) (sv ln po : Nat) (lt fi sc nu : Int32) (ad rv : Nat) (f t : Nat) (hf4 : f < 4) (ht4 : t < 4) : MUi l yX4_merges wsX4_merges rmX4_merges [.ref (m9 0), .int (nI f), .int (nI t)] D [(cI, .int)] (wM cI m9 sa tx th sv ln po lt fi sc nu ad rv) sz (fun rz (_ : Unit) => rz = nI ((lkM true sa f t).2.1 + (lkM true sa f t).2.2)) (fun _ => []) (fun _ => wM cI m9 (mgM sa f t) tx th sv ln po lt fi sc nu ((lkM true sa f t).2.1) ((lkM true sa f t).2.2)) 0 0 := by
  refine met_u (own := RX4) (cc := cX4_merges) (maxL := 5) (ty := .int) (by decide) rfl rfl (Nat.le_of_ble_eq_true rfl) ?_
  intro p e s m args below meth c Q A hsz S hw hA hE ls hl
  obtain ⟨hx, hb, hml, hown, hts⟩ := id S
  have k7 := hts (.fieldLink RX4 7 "CausalTableModel" "s" "[I") (by decide +kernel)
  have hin4 := (show ∀ w ∈ wsX40, w ∈ wsX4_merges by decide +kernel)
  have k72 := hts (.fieldLink RX4 72 "CausalTableModel" "added" "I") (by decide +kernel)
  have k69 := hts (.fieldLink RX4 69 "CausalTableModel" "removed" "I") (by decide +kernel)
  have hl : lv_has ls 5 [(0, .ref (m9 0)), (1, .int (nI f)), (2, .int (nI t))] := hl
  refine lv_aload_n hx hb dX4_merges_0 rfl (lv_at hl 0 rfl) ?_
  refine lv_iload_n hx hb dX4_merges_1 rfl (lv_at hl 1 rfl) ?_
  refine lv_iload_n hx hb dX4_merges_2 rfl (lv_at hl 2 rfl) ?_
  refine lv_iconst (v := nI 1) hx hb dX4_merges_3 kc_iconst_1 ?_
  refine cu_Vv (As := [.int (nI f), .int (nI t), .int (nI 1)]) (rest := []) (wc := wM cI m9 sa tx th sv ln po lt fi sc nu ad rv) (wr := []) S (c_X4_looks_1 l D (sz := s.heap.size) (cI := cI) (m9 := m9) (sa := sa) (tx := tx) (th := th) (sv := sv) (ln := ln) (po := po) (lt := lt) (fi := fi) (sc := sc) (nu := nu) (ad := ad) (rv := rv) (f := f) (t := t) (hf4 := by omega) (ht4 := by omega)) (cwV 3 hts gX4_merges_X4_looks rfl rfl rfl (by decide +kernel) ⟨Nat.le_of_ble_eq_true rfl, Nat.le_of_ble_eq_true rfl⟩) hw hA [0, 1, 2] [] [0] rfl rfl rfl (by decide) (by decide) (by decide) 0 rfl rfl rfl hl.1 (Nat.le_of_ble_eq_true rfl) ⟨Nat.le_of_ble_eq_true rfl, Nat.le_of_ble_eq_true rfl⟩ rfl dX4_merges_4 (fun u_4 H locs e_4 hw => ?_)
  have hw : Wd D A [(cI, .int)] (wM cI m9 ((lkM true sa f t).1) tx th sv ln po lt fi sc nu ((lkM true sa f t).2.1) ((lkM true sa f t).2.2)) s s.heap H locs := hw
  refine lv_iconst (v := nI 0) hx hb dX4_merges_7 kc_iconst_0 ?_
  refine lv_istore_n (lv' := [(3, .int (nI 0)), (0, .ref (m9 0)), (1, .int (nI f)), (2, .int (nI t))]) hx hb dX4_merges_8 rfl hl (by decide) rfl (fun ls hl => ?_)
  have L9_1 : ∀ (fu_2 k : Nat), k ≤ 4 → 4 - k < fu_2 → ∀ (H : Heap) (locs : List Loc), Wd D A [(cI, .int)] (wM cI m9 (skM (lkM true sa f t).1 f t k) tx th sv ln po lt fi sc nu ((lkM true sa f t).2.1) ((lkM true sa f t).2.2)) s s.heap H locs → ∀ ls : Array Slot, lv_has ls 5 [(3, .int (nI k)), (0, .ref (m9 0)), (1, .int (nI f)), (2, .int (nI t))] → W p l e rmX4_merges s m args below meth c H locs 0 0 Q (F0 m 9 ls []) := by
    intro fu_2
    induction fu_2 with
    | zero => intro k _ h9; exact absurd h9 (Nat.not_lt_zero _)
    | succ fu_2 ih_9 =>
      intro k hk_9 hf_9 H locs hw ls hl
      refine lv_iload_n hx hb dX4_merges_9 rfl (lv_at hl 0 rfl) ?_
      refine lv_iconst (v := nI 4) hx hb dX4_merges_10 kc_iconst_4 ?_
      refine r_icmp_geN (tgt := 62) hx hb (by omega) (by omega) dX4_merges_11 (by decide) (fun c_11 => ?_) (fun c_11 => ?_)
      ·
        refine lv_aload_n hx hb dX4_merges_62 rfl (lv_at hl 1 rfl) ?_
        refine r_get hx hb hts hown hw.q 0 1 hin4 rfl rfl (by decide) k7 rfl dX4_merges_63 ?_
        refine lv_bipush (v := nI 16) hx hb dX4_merges_66 kc_bipush_16 ?_
        refine lv_iload_n hx hb dX4_merges_68 rfl (lv_at hl 3 rfl) ?_
        refine r_addN hx hb dX4_merges_69 ?_
        refine lv_aload_n hx hb dX4_merges_70 rfl (lv_at hl 1 rfl) ?_
        refine r_get hx hb hts hown hw.q 0 1 hin4 rfl rfl (by decide) k7 rfl dX4_merges_71 ?_
        refine lv_bipush (v := nI 16) hx hb dX4_merges_74 kc_bipush_16 ?_
        refine lv_iload_n hx hb dX4_merges_76 rfl (lv_at hl 2 rfl) ?_
        refine r_addN hx hb dX4_merges_77 ?_
        refine r_ald hx hb hw.q 1 0 rfl rfl (i := 16 + f) (by omega) (by decide) dX4_merges_78 ?_
        refine lv_aload_n hx hb dX4_merges_79 rfl (lv_at hl 1 rfl) ?_
        refine r_get hx hb hts hown hw.q 0 1 hin4 rfl rfl (by decide) k7 rfl dX4_merges_80 ?_
        refine lv_bipush (v := nI 16) hx hb dX4_merges_83 kc_bipush_16 ?_
        refine lv_iload_n hx hb dX4_merges_85 rfl (lv_at hl 3 rfl) ?_
        refine r_addN hx hb dX4_merges_86 ?_
        refine r_ald hx hb hw.q 1 0 rfl rfl (i := 16 + t) (by omega) (by decide) dX4_merges_87 ?_
        have J112_3 : ∀ ls : Array Slot, lv_has ls 5 [(3, .int (nI k)), (0, .ref (m9 0)), (1, .int (nI f)), (2, .int (nI t))] → W p l e rmX4_merges s m args below meth c H locs 0 0 Q (F0 m 112 ls [.int (if skM (lkM true sa f t).1 f t k (16 + f) ≤ skM (lkM true sa f t).1 f t k (16 + t) then skM (lkM true sa f t).1 f t k (16 + t) else skM (lkM true sa f t).1 f t k (16 + f)), .int (nI (16 + t)), .ref (m9 1)]) := by
          intro ls hl
          refine r_ast hx hb hw 1 0 rfl rfl (i := 16 + t) (by omega) (by decide) dX4_merges_112 (fun H locs hw => ?_)
          have hw : Wd D A [(cI, .int)] (wM cI m9 (upd (skM (lkM true sa f t).1 f t k) (16 + t) (if skM (lkM true sa f t).1 f t k (16 + f) ≤ skM (lkM true sa f t).1 f t k (16 + t) then skM (lkM true sa f t).1 f t k (16 + t) else skM (lkM true sa f t).1 f t k (16 + f))) tx th sv ln po lt fi sc nu ((lkM true sa f t).2.1) ((lkM true sa f t).2.2)) s s.heap H locs := hw
          refine lv_aload_n hx hb dX4_merges_113 rfl (lv_at hl 1 rfl) ?_
          refine r_get hx hb hts hown hw.q 0 1 hin4 rfl rfl (by decide) k7 rfl dX4_merges_114 ?_
          refine lv_bipush (v := nI 20) hx hb dX4_merges_117 kc_bipush_20 ?_
          refine lv_iload_n hx hb dX4_merges_119 rfl (lv_at hl 2 rfl) ?_
          refine r_ast hx hb hw 1 0 rfl rfl (i := 20) (by omega) (by decide) dX4_merges_120 (fun H locs hw => ?_)
          have hw : Wd D A [(cI, .int)] (wM cI m9 (upd (upd (skM (lkM true sa f t).1 f t k) (16 + t) (if skM (lkM true sa f t).1 f t k (16 + f) ≤ skM (lkM true sa f t).1 f t k (16 + t) then skM (lkM true sa f t).1 f t k (16 + t) else skM (lkM true sa f t).1 f t k (16 + f))) 20 (nI f)) tx th sv ln po lt fi sc nu ((lkM true sa f t).2.1) ((lkM true sa f t).2.2)) s s.heap H locs := hw
          refine lv_aload_n hx hb dX4_merges_121 rfl (lv_at hl 1 rfl) ?_
          refine r_get hx hb hts hown hw.q 0 1 hin4 rfl rfl (by decide) k7 rfl dX4_merges_122 ?_
          refine lv_bipush (v := nI 21) hx hb dX4_merges_125 kc_bipush_21 ?_
          refine lv_iload_n hx hb dX4_merges_127 rfl (lv_at hl 3 rfl) ?_
          refine r_ast hx hb hw 1 0 rfl rfl (i := 21) (by omega) (by decide) dX4_merges_128 (fun H locs hw => ?_)
          have hw : Wd D A [(cI, .int)] (wM cI m9 (upd (upd (upd (skM (lkM true sa f t).1 f t k) (16 + t) (if skM (lkM true sa f t).1 f t k (16 + f) ≤ skM (lkM true sa f t).1 f t k (16 + t) then skM (lkM true sa f t).1 f t k (16 + t) else skM (lkM true sa f t).1 f t k (16 + f))) 20 (nI f)) 21 (nI t)) tx th sv ln po lt fi sc nu ((lkM true sa f t).2.1) ((lkM true sa f t).2.2)) s s.heap H locs := hw
          refine lv_aload_n hx hb dX4_merges_129 rfl (lv_at hl 1 rfl) ?_
          refine r_get hx hb hts hown hw.q 0 1 hin4 rfl rfl (by decide) k7 rfl dX4_merges_130 ?_
          refine lv_bipush (v := nI 22) hx hb dX4_merges_133 kc_bipush_22 ?_
          refine lv_aload_n hx hb dX4_merges_135 rfl (lv_at hl 1 rfl) ?_
          refine r_get hx hb hts hown hw.q 0 10 hin4 rfl rfl (by decide) k72 rfl dX4_merges_136 ?_
          refine r_ast hx hb hw 1 0 rfl rfl (i := 22) (by omega) (by decide) dX4_merges_139 (fun H locs hw => ?_)
          have hw : Wd D A [(cI, .int)] (wM cI m9 (upd (upd (upd (upd (skM (lkM true sa f t).1 f t k) (16 + t) (if skM (lkM true sa f t).1 f t k (16 + f) ≤ skM (lkM true sa f t).1 f t k (16 + t) then skM (lkM true sa f t).1 f t k (16 + t) else skM (lkM true sa f t).1 f t k (16 + f))) 20 (nI f)) 21 (nI t)) 22 (nI ((lkM true sa f t).2.1))) tx th sv ln po lt fi sc nu ((lkM true sa f t).2.1) ((lkM true sa f t).2.2)) s s.heap H locs := hw
          refine lv_aload_n hx hb dX4_merges_140 rfl (lv_at hl 1 rfl) ?_
          refine r_get hx hb hts hown hw.q 0 1 hin4 rfl rfl (by decide) k7 rfl dX4_merges_141 ?_
          refine lv_bipush (v := nI 23) hx hb dX4_merges_144 kc_bipush_23 ?_
          refine lv_aload_n hx hb dX4_merges_146 rfl (lv_at hl 1 rfl) ?_
          refine r_get hx hb hts hown hw.q 0 11 hin4 rfl rfl (by decide) k69 rfl dX4_merges_147 ?_
          refine r_ast hx hb hw 1 0 rfl rfl (i := 23) (by omega) (by decide) dX4_merges_150 (fun H locs hw => ?_)
          have hw : Wd D A [(cI, .int)] (wM cI m9 (upd (upd (upd (upd (upd (skM (lkM true sa f t).1 f t k) (16 + t) (if skM (lkM true sa f t).1 f t k (16 + f) ≤ skM (lkM true sa f t).1 f t k (16 + t) then skM (lkM true sa f t).1 f t k (16 + t) else skM (lkM true sa f t).1 f t k (16 + f))) 20 (nI f)) 21 (nI t)) 22 (nI ((lkM true sa f t).2.1))) 23 (nI ((lkM true sa f t).2.2))) tx th sv ln po lt fi sc nu ((lkM true sa f t).2.1) ((lkM true sa f t).2.2)) s s.heap H locs := hw
          refine lv_aload_n hx hb dX4_merges_151 rfl (lv_at hl 1 rfl) ?_
          refine r_get hx hb hts hown hw.q 0 10 hin4 rfl rfl (by decide) k72 rfl dX4_merges_152 ?_
          refine lv_aload_n hx hb dX4_merges_155 rfl (lv_at hl 1 rfl) ?_
          refine r_get hx hb hts hown hw.q 0 11 hin4 rfl rfl (by decide) k69 rfl dX4_merges_156 ?_
          refine r_addN hx hb dX4_merges_159 ?_
          have ew : (wM cI m9 (upd (upd (upd (upd (upd (skM (lkM true sa f t).1 f t k) (16 + t) (if skM (lkM true sa f t).1 f t k (16 + f) ≤ skM (lkM true sa f t).1 f t k (16 + t) then skM (lkM true sa f t).1 f t k (16 + t) else skM (lkM true sa f t).1 f t k (16 + f))) 20 (nI f)) 21 (nI t)) 22 (nI ((lkM true sa f t).2.1))) 23 (nI ((lkM true sa f t).2.2))) tx th sv ln po lt fi sc nu ((lkM true sa f t).2.1) ((lkM true sa f t).2.2)) = (wM cI m9 (mgM sa f t) tx th sv ln po lt fi sc nu ((lkM true sa f t).2.1) ((lkM true sa f t).2.2)) := by rw [show k = 4 by omega]; rfl
          rw [ew] at hw
          exact hE () dX4_merges_160 (rfl) (Nat.le_of_ble_eq_true rfl) (Nat.le_of_ble_eq_true rfl) (hw.sub [0, 1, 2] [] (by decide) rfl rfl) (show nI (((lkM true sa f t).2.1) + ((lkM true sa f t).2.2)) = nI ((lkM true sa f t).2.1 + (lkM true sa f t).2.2) from rfl)
        refine lv_icmp_le (tgt := 103) hx hb dX4_merges_88 (by decide) (fun c_88 => ?_) (fun c_88 => ?_)
        ·
          refine lv_aload_n hx hb dX4_merges_103 rfl (lv_at hl 1 rfl) ?_
          refine r_get hx hb hts hown hw.q 0 1 hin4 rfl rfl (by decide) k7 rfl dX4_merges_104 ?_
          refine lv_bipush (v := nI 16) hx hb dX4_merges_107 kc_bipush_16 ?_
          refine lv_iload_n hx hb dX4_merges_109 rfl (lv_at hl 3 rfl) ?_
          refine r_addN hx hb dX4_merges_110 ?_
          refine r_ald hx hb hw.q 1 0 rfl rfl (i := 16 + t) (by omega) (by decide) dX4_merges_111 ?_
          have hl : lv_has ls 5 [(3, .int (nI k)), (0, .ref (m9 0)), (1, .int (nI f)), (2, .int (nI t))] := lv_sub hl [0, 1, 2, 3] rfl
          refine r_top hx (show (skM (lkM true sa f t).1 f t k) (16 + t) = if skM (lkM true sa f t).1 f t k (16 + f) ≤ skM (lkM true sa f t).1 f t k (16 + t) then skM (lkM true sa f t).1 f t k (16 + t) else skM (lkM true sa f t).1 f t k (16 + f) from by first | rw [if_neg c_88] | rw [if_pos c_88]) ?_
          exact J112_3 ls hl
        ·
          refine lv_aload_n hx hb dX4_merges_91 rfl (lv_at hl 1 rfl) ?_
          refine r_get hx hb hts hown hw.q 0 1 hin4 rfl rfl (by decide) k7 rfl dX4_merges_92 ?_
          refine lv_bipush (v := nI 16) hx hb dX4_merges_95 kc_bipush_16 ?_
          refine lv_iload_n hx hb dX4_merges_97 rfl (lv_at hl 2 rfl) ?_
          refine r_addN hx hb dX4_merges_98 ?_
          refine r_ald hx hb hw.q 1 0 rfl rfl (i := 16 + f) (by omega) (by decide) dX4_merges_99 ?_
          refine lv_goto (tgt := 112) hx hb dX4_merges_100 (by decide) ?_
          have hl : lv_has ls 5 [(3, .int (nI k)), (0, .ref (m9 0)), (1, .int (nI f)), (2, .int (nI t))] := lv_sub hl [0, 1, 2, 3] rfl
          refine r_top hx (show (skM (lkM true sa f t).1 f t k) (16 + f) = if skM (lkM true sa f t).1 f t k (16 + f) ≤ skM (lkM true sa f t).1 f t k (16 + t) then skM (lkM true sa f t).1 f t k (16 + t) else skM (lkM true sa f t).1 f t k (16 + f) from by first | rw [if_neg c_88] | rw [if_pos c_88]) ?_
          exact J112_3 ls hl
      ·
        refine lv_aload_n hx hb dX4_merges_14 rfl (lv_at hl 1 rfl) ?_
        refine lv_iload_n hx hb dX4_merges_15 rfl (lv_at hl 2 rfl) ?_
        refine lv_iload_n hx hb dX4_merges_16 rfl (lv_at hl 0 rfl) ?_
        refine cq_V (As := [.int (nI f), .int (nI k)]) (rest := []) S (c_X4_seenBy l D (cI := cI) (m9 := m9) (sa := skM (lkM true sa f t).1 f t k) (tx := tx) (th := th) (sv := sv) (ln := ln) (po := po) (lt := lt) (fi := fi) (sc := sc) (nu := nu) (ad := (lkM true sa f t).2.1) (rv := (lkM true sa f t).2.2) (a9 := f) (b9 := k) (ha9 := by omega) (hb9 := by omega)) (cwV 2 hts gX4_merges_X4_seenBy rfl rfl rfl (by decide +kernel) ⟨Nat.le_of_ble_eq_true rfl, Nat.le_of_ble_eq_true rfl⟩) (hw.q.sub [0, 1, 2] [0] rfl rfl) 0 rfl rfl rfl hl.1 (Nat.le_of_ble_eq_true rfl) ⟨Nat.le_of_ble_eq_true rfl, Nat.le_of_ble_eq_true rfl⟩ rfl dX4_merges_17 (fun r_17 e_17 => ?_)
        have e_17 : r_17 = (skM (lkM true sa f t).1 f t k) (0 + 4 * f + k) := e_17
        subst e_17
        refine lv_istore (lv' := [(4, .int ((skM (lkM true sa f t).1 f t k) (0 + 4 * f + k))), (3, .int (nI k)), (0, .ref (m9 0)), (1, .int (nI f)), (2, .int (nI t))]) hx hb dX4_merges_20 hl (by decide) rfl (fun ls hl => ?_)
        refine lv_aload_n hx hb dX4_merges_22 rfl (lv_at hl 2 rfl) ?_
        refine r_get hx hb hts hown hw.q 0 1 hin4 rfl rfl (by decide) k7 rfl dX4_merges_23 ?_
        refine lv_iconst (v := nI 0) hx hb dX4_merges_26 kc_iconst_0 ?_
        refine lv_iconst (v := nI 4) hx hb dX4_merges_27 kc_iconst_4 ?_
        refine lv_iload_n hx hb dX4_merges_28 rfl (lv_at hl 4 rfl) ?_
        refine r_mulN hx hb dX4_merges_29 ?_
        refine r_addN hx hb dX4_merges_30 ?_
        refine lv_iload_n hx hb dX4_merges_31 rfl (lv_at hl 1 rfl) ?_
        refine r_addN hx hb dX4_merges_32 ?_
        refine lv_iload hx hb dX4_merges_33 (lv_at hl 0 rfl) ?_
        refine lv_aload_n hx hb dX4_merges_35 rfl (lv_at hl 2 rfl) ?_
        refine lv_iload_n hx hb dX4_merges_36 rfl (lv_at hl 4 rfl) ?_
        refine lv_iload_n hx hb dX4_merges_37 rfl (lv_at hl 1 rfl) ?_
        refine cq_V (As := [.int (nI t), .int (nI k)]) (rest := [.int ((skM (lkM true sa f t).1 f t k) (0 + 4 * f + k)), .int (nI ((0 + (4 * t)) + k)), .ref (m9 1)]) S (c_X4_seenBy l D (cI := cI) (m9 := m9) (sa := skM (lkM true sa f t).1 f t k) (tx := tx) (th := th) (sv := sv) (ln := ln) (po := po) (lt := lt) (fi := fi) (sc := sc) (nu := nu) (ad := (lkM true sa f t).2.1) (rv := (lkM true sa f t).2.2) (a9 := t) (b9 := k) (ha9 := by omega) (hb9 := by omega)) (cwV 2 hts gX4_merges_X4_seenBy rfl rfl rfl (by decide +kernel) ⟨Nat.le_of_ble_eq_true rfl, Nat.le_of_ble_eq_true rfl⟩) (hw.q.sub [0, 1, 2] [0] rfl rfl) 0 rfl rfl rfl hl.1 (Nat.le_of_ble_eq_true rfl) ⟨Nat.le_of_ble_eq_true rfl, Nat.le_of_ble_eq_true rfl⟩ rfl dX4_merges_38 (fun r_38 e_38 => ?_)
        have e_38 : r_38 = (skM (lkM true sa f t).1 f t k) (0 + 4 * t + k) := e_38
        subst e_38
        have J55_4 : ∀ ls : Array Slot, lv_has ls 5 [(4, .int ((skM (lkM true sa f t).1 f t k) (0 + 4 * f + k))), (3, .int (nI k)), (0, .ref (m9 0)), (1, .int (nI f)), (2, .int (nI t))] → W p l e rmX4_merges s m args below meth c H locs 0 0 Q (F0 m 55 ls [.int (if skM (lkM true sa f t).1 f t k (0 + 4 * f + k) ≤ skM (lkM true sa f t).1 f t k (0 + 4 * t + k) then skM (lkM true sa f t).1 f t k (0 + 4 * t + k) else skM (lkM true sa f t).1 f t k (0 + 4 * f + k)), .int (nI (0 + 4 * t + k)), .ref (m9 1)]) := by
          intro ls hl
          refine r_ast hx hb hw 1 0 rfl rfl (i := 0 + 4 * t + k) (by omega) (by decide) dX4_merges_55 (fun H locs hw => ?_)
          have hw : Wd D A [(cI, .int)] (wM cI m9 (upd (skM (lkM true sa f t).1 f t k) (0 + 4 * t + k) (if skM (lkM true sa f t).1 f t k (0 + 4 * f + k) ≤ skM (lkM true sa f t).1 f t k (0 + 4 * t + k) then skM (lkM true sa f t).1 f t k (0 + 4 * t + k) else skM (lkM true sa f t).1 f t k (0 + 4 * f + k))) tx th sv ln po lt fi sc nu ((lkM true sa f t).2.1) ((lkM true sa f t).2.2)) s s.heap H locs := hw
          refine lv_iinc (v := nI (k + 1)) (lv' := [(3, .int (nI (k + 1))), (4, .int ((skM (lkM true sa f t).1 f t k) (0 + 4 * f + k))), (0, .ref (m9 0)), (1, .int (nI f)), (2, .int (nI t))]) hx hb dX4_merges_56 hl (k := 1) rfl (nI_add k 1) (by decide) rfl (fun ls hl => ?_)
          refine lv_goto (tgt := 9) hx hb dX4_merges_59 (by decide) ?_
          have hl : lv_has ls 5 [(3, .int (nI (k + 1))), (0, .ref (m9 0)), (1, .int (nI f)), (2, .int (nI t))] := lv_sub hl [0, 2, 3, 4] rfl
          have hw : Wd D A [(cI, .int)] (wM cI m9 (skM (lkM true sa f t).1 f t (k + 1)) tx th sv ln po lt fi sc nu ((lkM true sa f t).2.1) ((lkM true sa f t).2.2)) s s.heap H locs := Eq.mp (congrArg (fun z9 => Wd D A [(cI, .int)] (wM cI m9 z9 tx th sv ln po lt fi sc nu ((lkM true sa f t).2.1) ((lkM true sa f t).2.2)) s s.heap H locs) (show upd (skM (lkM true sa f t).1 f t k) (0 + 4 * t + k) (if skM (lkM true sa f t).1 f t k (0 + 4 * f + k) ≤ skM (lkM true sa f t).1 f t k (0 + 4 * t + k) then skM (lkM true sa f t).1 f t k (0 + 4 * t + k) else skM (lkM true sa f t).1 f t k (0 + 4 * f + k)) = skM (lkM true sa f t).1 f t (k + 1) from rfl)) hw
          exact ih_9 (k + 1) (by omega) (by omega) _ _ hw ls hl
        refine lv_icmp_le (tgt := 49) hx hb dX4_merges_41 (by decide) (fun c_41 => ?_) (fun c_41 => ?_)
        ·
          refine lv_aload_n hx hb dX4_merges_49 rfl (lv_at hl 2 rfl) ?_
          refine lv_iload_n hx hb dX4_merges_50 rfl (lv_at hl 4 rfl) ?_
          refine lv_iload_n hx hb dX4_merges_51 rfl (lv_at hl 1 rfl) ?_
          refine cq_V (As := [.int (nI t), .int (nI k)]) (rest := [.int (nI ((0 + (4 * t)) + k)), .ref (m9 1)]) S (c_X4_seenBy l D (cI := cI) (m9 := m9) (sa := skM (lkM true sa f t).1 f t k) (tx := tx) (th := th) (sv := sv) (ln := ln) (po := po) (lt := lt) (fi := fi) (sc := sc) (nu := nu) (ad := (lkM true sa f t).2.1) (rv := (lkM true sa f t).2.2) (a9 := t) (b9 := k) (ha9 := by omega) (hb9 := by omega)) (cwV 2 hts gX4_merges_X4_seenBy rfl rfl rfl (by decide +kernel) ⟨Nat.le_of_ble_eq_true rfl, Nat.le_of_ble_eq_true rfl⟩) (hw.q.sub [0, 1, 2] [0] rfl rfl) 0 rfl rfl rfl hl.1 (Nat.le_of_ble_eq_true rfl) ⟨Nat.le_of_ble_eq_true rfl, Nat.le_of_ble_eq_true rfl⟩ rfl dX4_merges_52 (fun r_52 e_52 => ?_)
          have e_52 : r_52 = (skM (lkM true sa f t).1 f t k) (0 + 4 * t + k) := e_52
          subst e_52
          have hl : lv_has ls 5 [(4, .int ((skM (lkM true sa f t).1 f t k) (0 + 4 * f + k))), (3, .int (nI k)), (0, .ref (m9 0)), (1, .int (nI f)), (2, .int (nI t))] := lv_sub hl [0, 1, 2, 3, 4] rfl
          refine W.eq (g2 := F0 m 55 ls [.int ((skM (lkM true sa f t).1 f t k) (0 + 4 * t + k)), .int (nI (0 + 4 * t + k)), .ref (m9 1)]) rfl ?_
          refine r_top hx (show (skM (lkM true sa f t).1 f t k) (0 + 4 * t + k) = if skM (lkM true sa f t).1 f t k (0 + 4 * f + k) ≤ skM (lkM true sa f t).1 f t k (0 + 4 * t + k) then skM (lkM true sa f t).1 f t k (0 + 4 * t + k) else skM (lkM true sa f t).1 f t k (0 + 4 * f + k) from by first | rw [if_neg c_41] | rw [if_pos c_41]) ?_
          exact J55_4 ls hl
        ·
          refine lv_iload hx hb dX4_merges_44 (lv_at hl 0 rfl) ?_
          refine lv_goto (tgt := 55) hx hb dX4_merges_46 (by decide) ?_
          have hl : lv_has ls 5 [(4, .int ((skM (lkM true sa f t).1 f t k) (0 + 4 * f + k))), (3, .int (nI k)), (0, .ref (m9 0)), (1, .int (nI f)), (2, .int (nI t))] := lv_sub hl [0, 1, 2, 3, 4] rfl
          refine W.eq (g2 := F0 m 55 ls [.int ((skM (lkM true sa f t).1 f t k) (0 + 4 * f + k)), .int (nI (0 + 4 * t + k)), .ref (m9 1)]) rfl ?_
          refine r_top hx (show (skM (lkM true sa f t).1 f t k) (0 + 4 * f + k) = if skM (lkM true sa f t).1 f t k (0 + 4 * f + k) ≤ skM (lkM true sa f t).1 f t k (0 + 4 * t + k) then skM (lkM true sa f t).1 f t k (0 + 4 * t + k) else skM (lkM true sa f t).1 f t k (0 + 4 * f + k) from by first | rw [if_neg c_41] | rw [if_pos c_41]) ?_
          exact J55_4 ls hl
  have hl : lv_has ls 5 [(3, .int (nI 0)), (0, .ref (m9 0)), (1, .int (nI f)), (2, .int (nI t))] := lv_sub hl [0, 1, 2, 3] rfl
  have hw : Wd D A [(cI, .int)] (wM cI m9 (skM (lkM true sa f t).1 f t 0) tx th sv ln po lt fi sc nu ((lkM true sa f t).2.1) ((lkM true sa f t).2.2)) s s.heap H locs := Eq.mp (congrArg (fun z9 => Wd D A [(cI, .int)] (wM cI m9 z9 tx th sv ln po lt fi sc nu ((lkM true sa f t).2.1) ((lkM true sa f t).2.2)) s s.heap H locs) (show (lkM true sa f t).1 = skM (lkM true sa f t).1 f t 0 from rfl)) hw
  exact L9_1 (4 + 1) (0) (by omega) (by omega) _ _ hw ls hl
abbrev rmX4_copies : Room := { frames := 0, cells := 0, slots := 0, locals := 0 }
set_option maxHeartbeats 4000000 in
set_option maxRecDepth 100000 in
theorem c_X4_copies (l : Launch) (D : va_G) (sz : Nat) (cI : ClassId) (m9 : Nat → Nat) (sa : Nat → Int32) (tx : Nat → Nat) (th : Int32) (sv ln po : Nat) (lt fi sc nu : Int32) (ad rv : Nat) (f t : Nat) (hf7 : f ≤ 6) (ht7 : t ≤ 6) : MUv l yX4_copies wsX4_copies rmX4_copies [.ref (m9 0), .int (nI f), .int (nI t)] D [(cI, .int)] (wM cI m9 sa tx th sv ln po lt fi sc nu ad rv) sz (fun (_ : Unit) => True) (fun _ => []) (fun _ => wM cI m9 (cpM sa f t 2424) tx th sv ln po lt fi sc nu ad rv) 0 0 := by
  refine met_v (own := RX4) (cc := cX4_copies) (maxL := 4) (by decide) rfl rfl (Nat.le_of_ble_eq_true rfl) ?_
  intro p e s m args below meth c Q A hsz S hmn hw hA hE ls hl
  obtain ⟨hx, hb, hml, hown, hts⟩ := id S
  have k7 := hts (.fieldLink RX4 7 "CausalTableModel" "s" "[I") (by decide +kernel)
  have hin4 := (show ∀ w ∈ wsX40, w ∈ wsX4_copies by decide +kernel)
  have hl : lv_has ls 4 [(0, .ref (m9 0)), (1, .int (nI f)), (2, .int (nI t))] := hl
  refine lv_iconst (v := nI 0) hx hb dX4_copies_0 kc_iconst_0 ?_
  refine lv_istore_n (lv' := [(3, .int (nI 0)), (0, .ref (m9 0)), (1, .int (nI f)), (2, .int (nI t))]) hx hb dX4_copies_1 rfl hl (by decide) rfl (fun ls hl => ?_)
  have L2_1 : ∀ (fu_2 k : Nat), k ≤ 2424 → 2424 - k < fu_2 → ∀ (H : Heap) (locs : List Loc), Wd D A [(cI, .int)] (wM cI m9 (cpM sa f t k) tx th sv ln po lt fi sc nu ad rv) s s.heap H locs → ∀ ls : Array Slot, lv_has ls 4 [(3, .int (nI k)), (0, .ref (m9 0)), (1, .int (nI f)), (2, .int (nI t))] → W p l e rmX4_copies s m args below meth c H locs 0 0 Q (F0 m 2 ls []) := by
    intro fu_2
    induction fu_2 with
    | zero => intro k _ h9; exact absurd h9 (Nat.not_lt_zero _)
    | succ fu_2 ih_2 =>
      intro k hk_2 hf_2 H locs hw ls hl
      refine lv_iload_n hx hb dX4_copies_2 rfl (lv_at hl 0 rfl) ?_
      refine lv_sipush (v := nI 2424) hx hb dX4_copies_3 kc_sipush_2424 ?_
      refine r_icmp_geN (tgt := 39) hx hb (by omega) (by omega) dX4_copies_6 (by decide) (fun c_6 => ?_) (fun c_6 => ?_)
      ·
        have ew : (wM cI m9 (cpM sa f t k) tx th sv ln po lt fi sc nu ad rv) = (wM cI m9 (cpM sa f t 2424) tx th sv ln po lt fi sc nu ad rv) := by rw [show k = 2424 by omega]
        rw [ew] at hw
        exact hE () dX4_copies_39 (Nat.le_of_ble_eq_true rfl) (Nat.le_of_ble_eq_true rfl) (hw.sub [0, 1, 2] [] (by decide) rfl rfl) trivial
      ·
        refine lv_aload_n hx hb dX4_copies_9 rfl (lv_at hl 1 rfl) ?_
        refine r_get hx hb hts hown hw.q 0 1 hin4 rfl rfl (by decide) k7 rfl dX4_copies_10 ?_
        refine lv_sipush (v := nI 2424) hx hb dX4_copies_13 kc_sipush_2424 ?_
        refine lv_iload_n hx hb dX4_copies_16 rfl (lv_at hl 3 rfl) ?_
        refine r_mulN hx hb dX4_copies_17 ?_
        refine lv_iload_n hx hb dX4_copies_18 rfl (lv_at hl 0 rfl) ?_
        refine r_addN hx hb dX4_copies_19 ?_
        refine lv_aload_n hx hb dX4_copies_20 rfl (lv_at hl 1 rfl) ?_
        refine r_get hx hb hts hown hw.q 0 1 hin4 rfl rfl (by decide) k7 rfl dX4_copies_21 ?_
        refine lv_sipush (v := nI 2424) hx hb dX4_copies_24 kc_sipush_2424 ?_
        refine lv_iload_n hx hb dX4_copies_27 rfl (lv_at hl 2 rfl) ?_
        refine r_mulN hx hb dX4_copies_28 ?_
        refine lv_iload_n hx hb dX4_copies_29 rfl (lv_at hl 0 rfl) ?_
        refine r_addN hx hb dX4_copies_30 ?_
        refine r_ald hx hb hw.q 1 0 rfl rfl (i := (2424 * f) + k) (by omega) (by decide) dX4_copies_31 ?_
        refine r_ast hx hb hw 1 0 rfl rfl (i := (2424 * t) + k) (by omega) (by decide) dX4_copies_32 (fun H locs hw => ?_)
        have hw : Wd D A [(cI, .int)] (wM cI m9 (upd (cpM sa f t k) ((2424 * t) + k) ((cpM sa f t k) ((2424 * f) + k))) tx th sv ln po lt fi sc nu ad rv) s s.heap H locs := hw
        refine lv_iinc (v := nI (k + 1)) (lv' := [(3, .int (nI (k + 1))), (0, .ref (m9 0)), (1, .int (nI f)), (2, .int (nI t))]) hx hb dX4_copies_33 hl (k := 0) rfl (nI_add k 1) (by decide) rfl (fun ls hl => ?_)
        refine lv_goto (tgt := 2) hx hb dX4_copies_36 (by decide) ?_
        have hl : lv_has ls 4 [(3, .int (nI (k + 1))), (0, .ref (m9 0)), (1, .int (nI f)), (2, .int (nI t))] := lv_sub hl [0, 1, 2, 3] rfl
        have hw : Wd D A [(cI, .int)] (wM cI m9 (cpM sa f t (k + 1)) tx th sv ln po lt fi sc nu ad rv) s s.heap H locs := Eq.mp (congrArg (fun z9 => Wd D A [(cI, .int)] (wM cI m9 z9 tx th sv ln po lt fi sc nu ad rv) s s.heap H locs) (show upd (cpM sa f t k) ((2424 * t) + k) ((cpM sa f t k) ((2424 * f) + k)) = cpM sa f t (k + 1) from rfl)) hw
        exact ih_2 (k + 1) (by omega) (by omega) _ _ hw ls hl
  have hl : lv_has ls 4 [(3, .int (nI 0)), (0, .ref (m9 0)), (1, .int (nI f)), (2, .int (nI t))] := lv_sub hl [0, 1, 2, 3] rfl
  have hw : Wd D A [(cI, .int)] (wM cI m9 (cpM sa f t 0) tx th sv ln po lt fi sc nu ad rv) s s.heap s.heap [] := Eq.mp (congrArg (fun z9 => Wd D A [(cI, .int)] (wM cI m9 z9 tx th sv ln po lt fi sc nu ad rv) s s.heap s.heap []) (show sa = cpM sa f t 0 from rfl)) hw
  exact L2_1 (2424 + 1) (0) (by omega) (by omega) _ _ hw ls hl
abbrev rmX4_keeps : Room := { frames := 1, cells := 0, slots := 0, locals := 23 }
set_option maxHeartbeats 4000000 in
set_option maxRecDepth 100000 in
theorem c_X4_keeps (l : Launch) (D : va_G) (sz : Nat) (cI : ClassId) (m9 : Nat → Nat) (sa : Nat → Int32) (tx : Nat → Nat) (th : Int32) (sv ln po : Nat) (lt fi sc nu : Int32) (ad rv : Nat)  (hsv : sv ≤ 6) : MUv l yX4_keeps wsX4_keeps rmX4_keeps [.ref (m9 0)] D [(cI, .int)] (wM cI m9 sa tx th sv ln po lt fi sc nu ad rv) sz (fun (_ : Unit) => True) (fun _ => []) (fun _ => wM cI m9 (kpM sa sv) tx th (sv + (if sv < 6 then 1 else 0)) ln po lt fi sc nu ad rv) 0 0 := by
  refine met_v (own := RX4) (cc := cX4_keeps) (maxL := 2) (by decide) rfl rfl (Nat.le_of_ble_eq_true rfl) ?_
  intro p e s m args below meth c Q A hsz S hmn hw hA hE ls hl
  obtain ⟨hx, hb, hml, hown, hts⟩ := id S
  have k89 := hts (.fieldLink RX4 89 "CausalTableModel" "saved" "I") (by decide +kernel)
  have hin4 := (show ∀ w ∈ wsX40, w ∈ wsX4_keeps by decide +kernel)
  have hl : lv_has ls 2 [(0, .ref (m9 0))] := hl
  have hkb : sv + (if sv < 6 then 1 else 0) ≤ 6 := by split <;> omega
  refine lv_iconst (v := nI 1) hx hb dX4_keeps_0 kc_iconst_1 ?_
  refine lv_istore_n (lv' := [(1, .int (nI 1)), (0, .ref (m9 0))]) hx hb dX4_keeps_1 rfl hl (by decide) rfl (fun ls hl => ?_)
  have L2_1 : ∀ (fu_2 k : Nat), k ≤ 5 → 5 - k < fu_2 → (sv = 6 ∨ k = 0) → ∀ (H : Heap) (locs : List Loc), Wd D A [(cI, .int)] (wM cI m9 (shM sa k) tx th sv ln po lt fi sc nu ad rv) s s.heap H locs → ∀ ls : Array Slot, lv_has ls 2 [(1, .int (nI (k + 1))), (0, .ref (m9 0))] → W p l e rmX4_keeps s m args below meth c H locs 0 0 Q (F0 m 2 ls []) := by
    intro fu_2
    induction fu_2 with
    | zero => intro k _ h9; exact absurd h9 (Nat.not_lt_zero _)
    | succ fu_2 ih_2 =>
      intro k hk_2 hf_2 hs H locs hw ls hl
      refine lv_iload_n hx hb dX4_keeps_2 rfl (lv_at hl 0 rfl) ?_
      refine lv_bipush (v := nI 6) hx hb dX4_keeps_3 kc_bipush_6 ?_
      refine r_icmp_geN (tgt := 31) hx hb (by omega) (by omega) dX4_keeps_5 (by decide) (fun c_5 => ?_) (fun c_5 => ?_)
      ·
        refine lv_aload_n hx hb dX4_keeps_31 rfl (lv_at hl 1 rfl) ?_
        refine lv_dup hx hb dX4_keeps_32 rfl ?_
        refine r_get hx hb hts hown hw.q 0 2 hin4 rfl rfl (by decide) k89 rfl dX4_keeps_33 ?_
        refine lv_aload_n hx hb dX4_keeps_36 rfl (lv_at hl 1 rfl) ?_
        refine r_get hx hb hts hown hw.q 0 2 hin4 rfl rfl (by decide) k89 rfl dX4_keeps_37 ?_
        refine lv_bipush (v := nI 6) hx hb dX4_keeps_40 kc_bipush_6 ?_
        have J50_3 : ∀ ls : Array Slot, lv_has ls 2 [(1, .int (nI (k + 1))), (0, .ref (m9 0))] → W p l e rmX4_keeps s m args below meth c H locs 0 0 Q (F0 m 50 ls [.int (nI (if sv < 6 then 1 else 0)), .int (nI sv), .ref (m9 0)]) := by
          intro ls hl
          refine r_addN hx hb dX4_keeps_50 ?_
          refine r_put hx hb hts hown hw 0 2 (ty := .int) tyX4 tyX4_ok nmX4 hin4 rfl rfl (by decide) k89 rfl (by decide +kernel) rfl rfl (Nat.le_of_ble_eq_true rfl) dX4_keeps_51 (fun H locs hw => ?_)
          have hw : Wd D A [(cI, .int)] (wM cI m9 (shM sa k) tx th (sv + (if sv < 6 then 1 else 0)) ln po lt fi sc nu ad rv) s s.heap H locs := hw
          refine lv_aload_n hx hb dX4_keeps_54 rfl (lv_at hl 1 rfl) ?_
          refine lv_iconst (v := nI 0) hx hb dX4_keeps_55 kc_iconst_0 ?_
          refine lv_aload_n hx hb dX4_keeps_56 rfl (lv_at hl 1 rfl) ?_
          refine r_get hx hb hts hown hw.q 0 2 hin4 rfl rfl (by decide) k89 rfl dX4_keeps_57 ?_
          refine cu_Vv (As := [.int (nI 0), .int (nI (sv + (if sv < 6 then 1 else 0)))]) (rest := []) (wc := wM cI m9 (shM sa k) tx th (sv + (if sv < 6 then 1 else 0)) ln po lt fi sc nu ad rv) (wr := []) S (c_X4_copies l D (sz := H.size) (cI := cI) (m9 := m9) (sa := shM sa k) (tx := tx) (th := th) (sv := sv + (if sv < 6 then 1 else 0)) (ln := ln) (po := po) (lt := lt) (fi := fi) (sc := sc) (nu := nu) (ad := ad) (rv := rv) (f := 0) (t := sv + (if sv < 6 then 1 else 0)) (hf7 := by omega) (ht7 := by omega)) (cwV 2 hts gX4_keeps_X4_copies rfl rfl rfl (by decide +kernel) ⟨Nat.le_of_ble_eq_true rfl, Nat.le_of_ble_eq_true rfl⟩) hw hA [0, 1, 2] [] [0] rfl rfl rfl (by decide) (by decide) (by decide) 0 rfl rfl rfl hl.1 (Nat.le_of_ble_eq_true rfl) ⟨Nat.le_of_ble_eq_true rfl, Nat.le_of_ble_eq_true rfl⟩ rfl dX4_keeps_60 (fun u_60 H locs e_60 hw => ?_)
          have hw : Wd D A [(cI, .int)] (wM cI m9 (cpM (shM sa k) 0 (sv + (if sv < 6 then 1 else 0)) 2424) tx th (sv + (if sv < 6 then 1 else 0)) ln po lt fi sc nu ad rv) s s.heap H locs := hw
          have ew : (wM cI m9 (cpM (shM sa k) 0 (sv + (if sv < 6 then 1 else 0)) 2424) tx th (sv + (if sv < 6 then 1 else 0)) ln po lt fi sc nu ad rv) = (wM cI m9 (kpM sa sv) tx th (sv + (if sv < 6 then 1 else 0)) ln po lt fi sc nu ad rv) := by rw [kpM]; first | rw [if_pos (show sv = 6 by omega), show k = 5 by omega] | (rw [if_neg (show ¬ sv = 6 by omega), show k = 0 by omega]; rfl)
          rw [ew] at hw
          exact hE () dX4_keeps_63 (Nat.le_of_ble_eq_true rfl) (Nat.le_of_ble_eq_true rfl) (hw.sub [0, 1, 2] [] (by decide) rfl rfl) trivial
        refine r_icmp_geN (tgt := 49) hx hb (by omega) (by omega) dX4_keeps_42 (by decide) (fun c_42 => ?_) (fun c_42 => ?_)
        ·
          refine lv_iconst (v := nI 0) hx hb dX4_keeps_49 kc_iconst_0 ?_
          have hl : lv_has ls 2 [(1, .int (nI (k + 1))), (0, .ref (m9 0))] := lv_sub hl [0, 1] rfl
          refine r_top hx (show nI 0 = nI (if sv < 6 then 1 else 0) from by first | rw [if_pos c_42] | rw [if_neg (Nat.not_lt.mpr c_42)]) ?_
          exact J50_3 ls hl
        ·
          refine lv_iconst (v := nI 1) hx hb dX4_keeps_45 kc_iconst_1 ?_
          refine lv_goto (tgt := 50) hx hb dX4_keeps_46 (by decide) ?_
          have hl : lv_has ls 2 [(1, .int (nI (k + 1))), (0, .ref (m9 0))] := lv_sub hl [0, 1] rfl
          refine r_top hx (show nI 1 = nI (if sv < 6 then 1 else 0) from by first | rw [if_pos c_42] | rw [if_neg (Nat.not_lt.mpr c_42)]) ?_
          exact J50_3 ls hl
      ·
        refine lv_aload_n hx hb dX4_keeps_8 rfl (lv_at hl 1 rfl) ?_
        refine r_get hx hb hts hown hw.q 0 2 hin4 rfl rfl (by decide) k89 rfl dX4_keeps_9 ?_
        refine lv_bipush (v := nI 6) hx hb dX4_keeps_12 kc_bipush_6 ?_
        refine r_icmp_neN (tgt := 31) hx hb (by omega) (by omega) dX4_keeps_14 (by decide) (fun c_14 => ?_) (fun c_14 => ?_)
        ·
          refine lv_aload_n hx hb dX4_keeps_31 rfl (lv_at hl 1 rfl) ?_
          refine lv_dup hx hb dX4_keeps_32 rfl ?_
          refine r_get hx hb hts hown hw.q 0 2 hin4 rfl rfl (by decide) k89 rfl dX4_keeps_33 ?_
          refine lv_aload_n hx hb dX4_keeps_36 rfl (lv_at hl 1 rfl) ?_
          refine r_get hx hb hts hown hw.q 0 2 hin4 rfl rfl (by decide) k89 rfl dX4_keeps_37 ?_
          refine lv_bipush (v := nI 6) hx hb dX4_keeps_40 kc_bipush_6 ?_
          have J50_4 : ∀ ls : Array Slot, lv_has ls 2 [(1, .int (nI (k + 1))), (0, .ref (m9 0))] → W p l e rmX4_keeps s m args below meth c H locs 0 0 Q (F0 m 50 ls [.int (nI (if sv < 6 then 1 else 0)), .int (nI sv), .ref (m9 0)]) := by
            intro ls hl
            refine r_addN hx hb dX4_keeps_50 ?_
            refine r_put hx hb hts hown hw 0 2 (ty := .int) tyX4 tyX4_ok nmX4 hin4 rfl rfl (by decide) k89 rfl (by decide +kernel) rfl rfl (Nat.le_of_ble_eq_true rfl) dX4_keeps_51 (fun H locs hw => ?_)
            have hw : Wd D A [(cI, .int)] (wM cI m9 (shM sa k) tx th (sv + (if sv < 6 then 1 else 0)) ln po lt fi sc nu ad rv) s s.heap H locs := hw
            refine lv_aload_n hx hb dX4_keeps_54 rfl (lv_at hl 1 rfl) ?_
            refine lv_iconst (v := nI 0) hx hb dX4_keeps_55 kc_iconst_0 ?_
            refine lv_aload_n hx hb dX4_keeps_56 rfl (lv_at hl 1 rfl) ?_
            refine r_get hx hb hts hown hw.q 0 2 hin4 rfl rfl (by decide) k89 rfl dX4_keeps_57 ?_
            refine cu_Vv (As := [.int (nI 0), .int (nI (sv + (if sv < 6 then 1 else 0)))]) (rest := []) (wc := wM cI m9 (shM sa k) tx th (sv + (if sv < 6 then 1 else 0)) ln po lt fi sc nu ad rv) (wr := []) S (c_X4_copies l D (sz := H.size) (cI := cI) (m9 := m9) (sa := shM sa k) (tx := tx) (th := th) (sv := sv + (if sv < 6 then 1 else 0)) (ln := ln) (po := po) (lt := lt) (fi := fi) (sc := sc) (nu := nu) (ad := ad) (rv := rv) (f := 0) (t := sv + (if sv < 6 then 1 else 0)) (hf7 := by omega) (ht7 := by omega)) (cwV 2 hts gX4_keeps_X4_copies rfl rfl rfl (by decide +kernel) ⟨Nat.le_of_ble_eq_true rfl, Nat.le_of_ble_eq_true rfl⟩) hw hA [0, 1, 2] [] [0] rfl rfl rfl (by decide) (by decide) (by decide) 0 rfl rfl rfl hl.1 (Nat.le_of_ble_eq_true rfl) ⟨Nat.le_of_ble_eq_true rfl, Nat.le_of_ble_eq_true rfl⟩ rfl dX4_keeps_60 (fun u_60 H locs e_60 hw => ?_)
            have hw : Wd D A [(cI, .int)] (wM cI m9 (cpM (shM sa k) 0 (sv + (if sv < 6 then 1 else 0)) 2424) tx th (sv + (if sv < 6 then 1 else 0)) ln po lt fi sc nu ad rv) s s.heap H locs := hw
            have ew : (wM cI m9 (cpM (shM sa k) 0 (sv + (if sv < 6 then 1 else 0)) 2424) tx th (sv + (if sv < 6 then 1 else 0)) ln po lt fi sc nu ad rv) = (wM cI m9 (kpM sa sv) tx th (sv + (if sv < 6 then 1 else 0)) ln po lt fi sc nu ad rv) := by rw [kpM]; first | rw [if_pos (show sv = 6 by omega), show k = 5 by omega] | (rw [if_neg (show ¬ sv = 6 by omega), show k = 0 by omega]; rfl)
            rw [ew] at hw
            exact hE () dX4_keeps_63 (Nat.le_of_ble_eq_true rfl) (Nat.le_of_ble_eq_true rfl) (hw.sub [0, 1, 2] [] (by decide) rfl rfl) trivial
          refine r_icmp_geN (tgt := 49) hx hb (by omega) (by omega) dX4_keeps_42 (by decide) (fun c_42 => ?_) (fun c_42 => ?_)
          ·
            refine lv_iconst (v := nI 0) hx hb dX4_keeps_49 kc_iconst_0 ?_
            have hl : lv_has ls 2 [(1, .int (nI (k + 1))), (0, .ref (m9 0))] := lv_sub hl [0, 1] rfl
            refine r_top hx (show nI 0 = nI (if sv < 6 then 1 else 0) from by first | rw [if_pos c_42] | rw [if_neg (Nat.not_lt.mpr c_42)]) ?_
            exact J50_4 ls hl
          ·
            refine lv_iconst (v := nI 1) hx hb dX4_keeps_45 kc_iconst_1 ?_
            refine lv_goto (tgt := 50) hx hb dX4_keeps_46 (by decide) ?_
            have hl : lv_has ls 2 [(1, .int (nI (k + 1))), (0, .ref (m9 0))] := lv_sub hl [0, 1] rfl
            refine r_top hx (show nI 1 = nI (if sv < 6 then 1 else 0) from by first | rw [if_pos c_42] | rw [if_neg (Nat.not_lt.mpr c_42)]) ?_
            exact J50_4 ls hl
        ·
          refine lv_aload_n hx hb dX4_keeps_17 rfl (lv_at hl 1 rfl) ?_
          refine lv_iload_n hx hb dX4_keeps_18 rfl (lv_at hl 0 rfl) ?_
          refine lv_iconst (v := nI 1) hx hb dX4_keeps_19 kc_iconst_1 ?_
          refine r_addN hx hb dX4_keeps_20 ?_
          refine lv_iload_n hx hb dX4_keeps_21 rfl (lv_at hl 0 rfl) ?_
          refine cu_Vv (As := [.int (nI ((k + 1) + 1)), .int (nI (k + 1))]) (rest := []) (wc := wM cI m9 (shM sa k) tx th sv ln po lt fi sc nu ad rv) (wr := []) S (c_X4_copies l D (sz := H.size) (cI := cI) (m9 := m9) (sa := shM sa k) (tx := tx) (th := th) (sv := sv) (ln := ln) (po := po) (lt := lt) (fi := fi) (sc := sc) (nu := nu) (ad := ad) (rv := rv) (f := (k + 1) + 1) (t := k + 1) (hf7 := by omega) (ht7 := by omega)) (cwV 2 hts gX4_keeps_X4_copies rfl rfl rfl (by decide +kernel) ⟨Nat.le_of_ble_eq_true rfl, Nat.le_of_ble_eq_true rfl⟩) hw hA [0, 1, 2] [] [0] rfl rfl rfl (by decide) (by decide) (by decide) 0 rfl rfl rfl hl.1 (Nat.le_of_ble_eq_true rfl) ⟨Nat.le_of_ble_eq_true rfl, Nat.le_of_ble_eq_true rfl⟩ rfl dX4_keeps_22 (fun u_22 H locs e_22 hw => ?_)
          have hw : Wd D A [(cI, .int)] (wM cI m9 (cpM (shM sa k) ((k + 1) + 1) (k + 1) 2424) tx th sv ln po lt fi sc nu ad rv) s s.heap H locs := hw
          refine lv_iinc (v := nI ((k + 1) + 1)) (lv' := [(1, .int (nI ((k + 1) + 1))), (0, .ref (m9 0))]) hx hb dX4_keeps_25 hl (k := 0) rfl (nI_add (k + 1) 1) (by decide) rfl (fun ls hl => ?_)
          refine lv_goto (tgt := 2) hx hb dX4_keeps_28 (by decide) ?_
          have hl : lv_has ls 2 [(1, .int (nI ((k + 1) + 1))), (0, .ref (m9 0))] := lv_sub hl [0, 1] rfl
          have hw : Wd D A [(cI, .int)] (wM cI m9 (shM sa (k + 1)) tx th sv ln po lt fi sc nu ad rv) s s.heap H locs := Eq.mp (congrArg (fun z9 => Wd D A [(cI, .int)] (wM cI m9 z9 tx th sv ln po lt fi sc nu ad rv) s s.heap H locs) (show cpM (shM sa k) ((k + 1) + 1) (k + 1) 2424 = shM sa (k + 1) from rfl)) hw
          exact ih_2 (k + 1) (by omega) (by omega) (Or.inl c_14) _ _ hw ls hl
  have hl : lv_has ls 2 [(1, .int (nI 1)), (0, .ref (m9 0))] := lv_sub hl [0, 1] rfl
  have hl : lv_has ls 2 [(1, .int (nI (0 + 1))), (0, .ref (m9 0))] := lv_rep hl 0 rfl (congrArg (fun z => Value.int (nI z)) (show 1 = 0 + 1 from rfl))
  have hw : Wd D A [(cI, .int)] (wM cI m9 (shM sa 0) tx th sv ln po lt fi sc nu ad rv) s s.heap s.heap [] := Eq.mp (congrArg (fun z9 => Wd D A [(cI, .int)] (wM cI m9 z9 tx th sv ln po lt fi sc nu ad rv) s s.heap s.heap []) (show sa = shM sa 0 from rfl)) hw
  exact L2_1 (5 + 1) (0) (by omega) (by omega) (Or.inr rfl) _ _ hw ls hl
abbrev rmX4_entriesOf : Room := { frames := 2, cells := 0, slots := 0, locals := 47 }
set_option maxHeartbeats 4000000 in
set_option maxRecDepth 100000 in
theorem c_X4_entriesOf (l : Launch) (D : va_G) (cI : ClassId) (m9 : Nat → Nat) (sa : Nat → Int32) (tx : Nat → Nat) (th : Int32) (sv ln po : Nat) (lt fi sc nu : Int32) (ad rv : Nat) (r w c9 : Nat) (hr : r < 4) (hw5 : w < 6) (hc : c9 < 5) : MQi l yX4_entriesOf wsX4_entriesOf rmX4_entriesOf [.ref (m9 0), .int (nI r), .int (nI w), .int (nI c9)] D [(cI, .int)] (wM cI m9 sa tx th sv ln po lt fi sc nu ad rv) (fun rz => rz = nI (enM sa r w c9 4)) := by
  refine met_q (own := RX4) (cc := cX4_entriesOf) (maxL := 7) (ty := .int) (by decide) rfl rfl (Nat.le_of_ble_eq_true rfl) ?_
  intro p e s m args below meth c Q S hq hE ls hl
  obtain ⟨hx, hb, hml, hown, hts⟩ := id S
  have k7 := hts (.fieldLink RX4 7 "CausalTableModel" "s" "[I") (by decide +kernel)
  have hin4 := (show ∀ w ∈ wsX40, w ∈ wsX4_entriesOf by decide +kernel)
  have hl : lv_has ls 7 [(0, .ref (m9 0)), (1, .int (nI r)), (2, .int (nI w)), (3, .int (nI c9))] := hl
  refine lv_iconst (v := nI 0) hx hb dX4_entriesOf_0 kc_iconst_0 ?_
  refine lv_istore (lv' := [(4, .int (nI 0)), (0, .ref (m9 0)), (1, .int (nI r)), (2, .int (nI w)), (3, .int (nI c9))]) hx hb dX4_entriesOf_1 hl (by decide) rfl (fun ls hl => ?_)
  refine lv_iconst (v := nI 0) hx hb dX4_entriesOf_3 kc_iconst_0 ?_
  refine lv_istore (lv' := [(5, .int (nI 0)), (4, .int (nI 0)), (0, .ref (m9 0)), (1, .int (nI r)), (2, .int (nI w)), (3, .int (nI c9))]) hx hb dX4_entriesOf_4 hl (by decide) rfl (fun ls hl => ?_)
  have L6_1 : ∀ (fu_2 k : Nat), k ≤ 4 → 4 - k < fu_2 → ∀ ls : Array Slot, lv_has ls 7 [(5, .int (nI k)), (4, .int (nI (enM sa r w c9 k))), (0, .ref (m9 0)), (1, .int (nI r)), (2, .int (nI w)), (3, .int (nI c9))] → W p l e rmX4_entriesOf s m args below meth c s.heap [] 0 0 Q (F0 m 6 ls []) := by
    intro fu_2
    induction fu_2 with
    | zero => intro k _ h9; exact absurd h9 (Nat.not_lt_zero _)
    | succ fu_2 ih_6 =>
      intro k hk_6 hf_6 ls hl
      have hen := enM_le sa r w c9 k
      refine lv_iload hx hb dX4_entriesOf_6 (lv_at hl 0 rfl) ?_
      refine lv_iconst (v := nI 4) hx hb dX4_entriesOf_8 kc_iconst_4 ?_
      refine r_icmp_geN (tgt := 93) hx hb (by omega) (by omega) dX4_entriesOf_9 (by decide) (fun c_9 => ?_) (fun c_9 => ?_)
      ·
        refine lv_iload hx hb dX4_entriesOf_93 (lv_at hl 1 rfl) ?_
        exact hE dX4_entriesOf_95 (rfl) (show nI (enM sa r w c9 k) = nI (enM sa r w c9 4) from by rw [show k = 4 by omega])
      ·
        refine lv_iconst (v := nI 0) hx hb dX4_entriesOf_12 kc_iconst_0 ?_
        refine lv_istore (lv' := [(6, .int (nI 0)), (5, .int (nI k)), (4, .int (nI (enM sa r w c9 k))), (0, .ref (m9 0)), (1, .int (nI r)), (2, .int (nI w)), (3, .int (nI c9))]) hx hb dX4_entriesOf_13 hl (by decide) rfl (fun ls hl => ?_)
        have L15_3 : ∀ (fu_4 j : Nat), j ≤ 16 → 16 - j < fu_4 → ∀ ls : Array Slot, lv_has ls 7 [(6, .int (nI j)), (5, .int (nI k)), (4, .int (nI (enM sa r w c9 k + (if c9 = 4 then enI sa r w k j else 0)))), (0, .ref (m9 0)), (1, .int (nI r)), (2, .int (nI w)), (3, .int (nI c9))] → W p l e rmX4_entriesOf s m args below meth c s.heap [] 0 0 Q (F0 m 15 ls []) := by
          intro fu_4
          induction fu_4 with
          | zero => intro j _ h9; exact absurd h9 (Nat.not_lt_zero _)
          | succ fu_4 ih_15 =>
            intro j hk_15 hf_15 ls hl
            refine lv_iload_n hx hb dX4_entriesOf_15 rfl (lv_at hl 6 rfl) ?_
            refine lv_iconst (v := nI 4) hx hb dX4_entriesOf_16 kc_iconst_4 ?_
            refine r_icmp_neN (tgt := 60) hx hb (by omega) (by omega) dX4_entriesOf_17 (by decide) (fun c_17 => ?_) (fun c_17 => ?_)
            ·
              have J84_5 : ∀ ls : Array Slot, lv_has ls 7 [(6, .int (nI j)), (5, .int (nI k)), (4, .int (nI (enM sa r w c9 k + (if c9 = 4 then enI sa r w k j else 0)))), (0, .ref (m9 0)), (1, .int (nI r)), (2, .int (nI w)), (3, .int (nI c9))] → W p l e rmX4_entriesOf s m args below meth c s.heap [] 0 0 Q (F0 m 84 ls [.int (nI (if c9 < 4 then (if sa (24 + (4 * (4 * (6 * r + w) + c9) + k)) ≤ 0 then 0 else 1) else 0)), .int (nI (enM sa r w c9 k + (if c9 = 4 then enI sa r w k j else 0)))]) := by
                intro ls hl
                refine r_addN hx hb dX4_entriesOf_84 ?_
                refine lv_istore (lv' := [(4, .int (nI ((enM sa r w c9 k + (if c9 = 4 then enI sa r w k j else 0)) + (if c9 < 4 then (if sa (24 + (4 * (4 * (6 * r + w) + c9) + k)) ≤ 0 then 0 else 1) else 0)))), (6, .int (nI j)), (5, .int (nI k)), (0, .ref (m9 0)), (1, .int (nI r)), (2, .int (nI w)), (3, .int (nI c9))]) hx hb dX4_entriesOf_85 hl (by decide) rfl (fun ls hl => ?_)
                refine lv_iinc (v := nI (k + 1)) (lv' := [(5, .int (nI (k + 1))), (4, .int (nI ((enM sa r w c9 k + (if c9 = 4 then enI sa r w k j else 0)) + (if c9 < 4 then (if sa (24 + (4 * (4 * (6 * r + w) + c9) + k)) ≤ 0 then 0 else 1) else 0)))), (6, .int (nI j)), (0, .ref (m9 0)), (1, .int (nI r)), (2, .int (nI w)), (3, .int (nI c9))]) hx hb dX4_entriesOf_87 hl (k := 2) rfl (nI_add k 1) (by decide) rfl (fun ls hl => ?_)
                refine lv_goto (tgt := 6) hx hb dX4_entriesOf_90 (by decide) ?_
                have hl : lv_has ls 7 [(5, .int (nI (k + 1))), (4, .int (nI ((enM sa r w c9 k + (if c9 = 4 then enI sa r w k j else 0)) + (if c9 < 4 then (if sa (24 + (4 * (4 * (6 * r + w) + c9) + k)) ≤ 0 then 0 else 1) else 0)))), (0, .ref (m9 0)), (1, .int (nI r)), (2, .int (nI w)), (3, .int (nI c9))] := lv_sub hl [0, 1, 3, 4, 5, 6] rfl
                have hl : lv_has ls 7 [(5, .int (nI (k + 1))), (4, .int (nI (enM sa r w c9 (k + 1)))), (0, .ref (m9 0)), (1, .int (nI r)), (2, .int (nI w)), (3, .int (nI c9))] := lv_rep hl 1 rfl (congrArg (fun z => Value.int (nI z)) (show (enM sa r w c9 k + (if c9 = 4 then enI sa r w k j else 0)) + (if c9 < 4 then (if sa (24 + (4 * (4 * (6 * r + w) + c9) + k)) ≤ 0 then 0 else 1) else 0) = enM sa r w c9 (k + 1) from by first | (subst c_17; simp [enM, show j = 16 by omega]; done) | (simp [enM, c_17, show c9 < 4 by omega]; done)))
                exact ih_6 (k + 1) (by omega) (by omega) ls hl
              refine lv_iload hx hb dX4_entriesOf_60 (lv_at hl 2 rfl) ?_
              refine lv_iload_n hx hb dX4_entriesOf_62 rfl (lv_at hl 6 rfl) ?_
              refine lv_iconst (v := nI 4) hx hb dX4_entriesOf_63 kc_iconst_4 ?_
              refine r_icmp_geN (tgt := 83) hx hb (by omega) (by omega) dX4_entriesOf_64 (by decide) (fun c_64 => ?_) (fun c_64 => ?_)
              ·
                refine lv_iconst (v := nI 0) hx hb dX4_entriesOf_83 kc_iconst_0 ?_
                have hl : lv_has ls 7 [(6, .int (nI j)), (5, .int (nI k)), (4, .int (nI (enM sa r w c9 k + (if c9 = 4 then enI sa r w k j else 0)))), (0, .ref (m9 0)), (1, .int (nI r)), (2, .int (nI w)), (3, .int (nI c9))] := lv_sub hl [0, 1, 2, 3, 4, 5, 6] rfl
                refine r_top hx (show nI 0 = nI (if c9 < 4 then (if sa (24 + (4 * (4 * (6 * r + w) + c9) + k)) ≤ 0 then 0 else 1) else 0) from by first | (exfalso; omega) | rw [if_neg (show ¬ c9 < 4 from by omega)] | (rw [if_pos (show c9 < 4 from by omega)]; first | rw [if_pos c_76] | rw [if_neg c_76])) ?_
                exact J84_5 ls hl
              ·
                refine lv_aload_n hx hb dX4_entriesOf_67 rfl (lv_at hl 3 rfl) ?_
                refine lv_iload_n hx hb dX4_entriesOf_68 rfl (lv_at hl 4 rfl) ?_
                refine lv_iload_n hx hb dX4_entriesOf_69 rfl (lv_at hl 5 rfl) ?_
                refine lv_iload_n hx hb dX4_entriesOf_70 rfl (lv_at hl 6 rfl) ?_
                refine lv_iload hx hb dX4_entriesOf_71 (lv_at hl 1 rfl) ?_
                refine cq_V (As := [.int (nI r), .int (nI w), .int (nI c9), .int (nI k)]) (rest := [.int (nI (enM sa r w c9 k + (if c9 = 4 then enI sa r w k j else 0)))]) S (c_X4_mark l D (cI := cI) (m9 := m9) (sa := sa) (tx := tx) (th := th) (sv := sv) (ln := ln) (po := po) (lt := lt) (fi := fi) (sc := sc) (nu := nu) (ad := ad) (rv := rv) (r := r) (w := w) (c9 := c9) (k9 := k) (hr := by omega) (hw5 := by omega) (hc := by omega) (hk9 := by omega)) (cwV 4 hts gX4_entriesOf_X4_mark rfl rfl rfl (by decide +kernel) ⟨Nat.le_of_ble_eq_true rfl, Nat.le_of_ble_eq_true rfl⟩) (hq.sub [0, 1, 2] [0] rfl rfl) 0 rfl rfl rfl hl.1 (Nat.le_of_ble_eq_true rfl) ⟨Nat.le_of_ble_eq_true rfl, Nat.le_of_ble_eq_true rfl⟩ rfl dX4_entriesOf_73 (fun r_73 e_73 => ?_)
                have e_73 : r_73 = sa (24 + (4 * (4 * (6 * r + w) + c9) + k)) := e_73
                subst e_73
                refine lv_if_le (tgt := 83) hx hb dX4_entriesOf_76 (by decide) (fun c_76 => ?_) (fun c_76 => ?_)
                ·
                  refine lv_iconst (v := nI 0) hx hb dX4_entriesOf_83 kc_iconst_0 ?_
                  have hl : lv_has ls 7 [(6, .int (nI j)), (5, .int (nI k)), (4, .int (nI (enM sa r w c9 k + (if c9 = 4 then enI sa r w k j else 0)))), (0, .ref (m9 0)), (1, .int (nI r)), (2, .int (nI w)), (3, .int (nI c9))] := lv_sub hl [0, 1, 2, 3, 4, 5, 6] rfl
                  refine r_top hx (show nI 0 = nI (if c9 < 4 then (if sa (24 + (4 * (4 * (6 * r + w) + c9) + k)) ≤ 0 then 0 else 1) else 0) from by first | (exfalso; omega) | rw [if_neg (show ¬ c9 < 4 from by omega)] | (rw [if_pos (show c9 < 4 from by omega)]; first | rw [if_pos c_76] | rw [if_neg c_76])) ?_
                  exact J84_5 ls hl
                ·
                  refine lv_iconst (v := nI 1) hx hb dX4_entriesOf_79 kc_iconst_1 ?_
                  refine lv_goto (tgt := 84) hx hb dX4_entriesOf_80 (by decide) ?_
                  have hl : lv_has ls 7 [(6, .int (nI j)), (5, .int (nI k)), (4, .int (nI (enM sa r w c9 k + (if c9 = 4 then enI sa r w k j else 0)))), (0, .ref (m9 0)), (1, .int (nI r)), (2, .int (nI w)), (3, .int (nI c9))] := lv_sub hl [0, 1, 2, 3, 4, 5, 6] rfl
                  refine r_top hx (show nI 1 = nI (if c9 < 4 then (if sa (24 + (4 * (4 * (6 * r + w) + c9) + k)) ≤ 0 then 0 else 1) else 0) from by first | (exfalso; omega) | rw [if_neg (show ¬ c9 < 4 from by omega)] | (rw [if_pos (show c9 < 4 from by omega)]; first | rw [if_pos c_76] | rw [if_neg c_76])) ?_
                  exact J84_5 ls hl
            ·
              refine lv_iload hx hb dX4_entriesOf_20 (lv_at hl 0 rfl) ?_
              refine lv_bipush (v := nI 16) hx hb dX4_entriesOf_22 kc_bipush_16 ?_
              refine r_icmp_geN (tgt := 60) hx hb (by omega) (by omega) dX4_entriesOf_24 (by decide) (fun c_24 => ?_) (fun c_24 => ?_)
              ·
                have J84_6 : ∀ ls : Array Slot, lv_has ls 7 [(6, .int (nI j)), (5, .int (nI k)), (4, .int (nI (enM sa r w c9 k + (if c9 = 4 then enI sa r w k j else 0)))), (0, .ref (m9 0)), (1, .int (nI r)), (2, .int (nI w)), (3, .int (nI c9))] → W p l e rmX4_entriesOf s m args below meth c s.heap [] 0 0 Q (F0 m 84 ls [.int (nI (if c9 < 4 then (if sa (24 + (4 * (4 * (6 * r + w) + c9) + k)) ≤ 0 then 0 else 1) else 0)), .int (nI (enM sa r w c9 k + (if c9 = 4 then enI sa r w k j else 0)))]) := by
                  intro ls hl
                  refine r_addN hx hb dX4_entriesOf_84 ?_
                  refine lv_istore (lv' := [(4, .int (nI ((enM sa r w c9 k + (if c9 = 4 then enI sa r w k j else 0)) + (if c9 < 4 then (if sa (24 + (4 * (4 * (6 * r + w) + c9) + k)) ≤ 0 then 0 else 1) else 0)))), (6, .int (nI j)), (5, .int (nI k)), (0, .ref (m9 0)), (1, .int (nI r)), (2, .int (nI w)), (3, .int (nI c9))]) hx hb dX4_entriesOf_85 hl (by decide) rfl (fun ls hl => ?_)
                  refine lv_iinc (v := nI (k + 1)) (lv' := [(5, .int (nI (k + 1))), (4, .int (nI ((enM sa r w c9 k + (if c9 = 4 then enI sa r w k j else 0)) + (if c9 < 4 then (if sa (24 + (4 * (4 * (6 * r + w) + c9) + k)) ≤ 0 then 0 else 1) else 0)))), (6, .int (nI j)), (0, .ref (m9 0)), (1, .int (nI r)), (2, .int (nI w)), (3, .int (nI c9))]) hx hb dX4_entriesOf_87 hl (k := 2) rfl (nI_add k 1) (by decide) rfl (fun ls hl => ?_)
                  refine lv_goto (tgt := 6) hx hb dX4_entriesOf_90 (by decide) ?_
                  have hl : lv_has ls 7 [(5, .int (nI (k + 1))), (4, .int (nI ((enM sa r w c9 k + (if c9 = 4 then enI sa r w k j else 0)) + (if c9 < 4 then (if sa (24 + (4 * (4 * (6 * r + w) + c9) + k)) ≤ 0 then 0 else 1) else 0)))), (0, .ref (m9 0)), (1, .int (nI r)), (2, .int (nI w)), (3, .int (nI c9))] := lv_sub hl [0, 1, 3, 4, 5, 6] rfl
                  have hl : lv_has ls 7 [(5, .int (nI (k + 1))), (4, .int (nI (enM sa r w c9 (k + 1)))), (0, .ref (m9 0)), (1, .int (nI r)), (2, .int (nI w)), (3, .int (nI c9))] := lv_rep hl 1 rfl (congrArg (fun z => Value.int (nI z)) (show (enM sa r w c9 k + (if c9 = 4 then enI sa r w k j else 0)) + (if c9 < 4 then (if sa (24 + (4 * (4 * (6 * r + w) + c9) + k)) ≤ 0 then 0 else 1) else 0) = enM sa r w c9 (k + 1) from by first | (subst c_17; simp [enM, show j = 16 by omega]; done) | (simp [enM, c_17, show c9 < 4 by omega]; done)))
                  exact ih_6 (k + 1) (by omega) (by omega) ls hl
                refine lv_iload hx hb dX4_entriesOf_60 (lv_at hl 2 rfl) ?_
                refine lv_iload_n hx hb dX4_entriesOf_62 rfl (lv_at hl 6 rfl) ?_
                refine lv_iconst (v := nI 4) hx hb dX4_entriesOf_63 kc_iconst_4 ?_
                refine r_icmp_geN (tgt := 83) hx hb (by omega) (by omega) dX4_entriesOf_64 (by decide) (fun c_64 => ?_) (fun c_64 => ?_)
                ·
                  refine lv_iconst (v := nI 0) hx hb dX4_entriesOf_83 kc_iconst_0 ?_
                  have hl : lv_has ls 7 [(6, .int (nI j)), (5, .int (nI k)), (4, .int (nI (enM sa r w c9 k + (if c9 = 4 then enI sa r w k j else 0)))), (0, .ref (m9 0)), (1, .int (nI r)), (2, .int (nI w)), (3, .int (nI c9))] := lv_sub hl [0, 1, 2, 3, 4, 5, 6] rfl
                  refine r_top hx (show nI 0 = nI (if c9 < 4 then (if sa (24 + (4 * (4 * (6 * r + w) + c9) + k)) ≤ 0 then 0 else 1) else 0) from by first | (exfalso; omega) | rw [if_neg (show ¬ c9 < 4 from by omega)] | (rw [if_pos (show c9 < 4 from by omega)]; first | rw [if_pos c_76] | rw [if_neg c_76])) ?_
                  exact J84_6 ls hl
                ·
                  refine lv_aload_n hx hb dX4_entriesOf_67 rfl (lv_at hl 3 rfl) ?_
                  refine lv_iload_n hx hb dX4_entriesOf_68 rfl (lv_at hl 4 rfl) ?_
                  refine lv_iload_n hx hb dX4_entriesOf_69 rfl (lv_at hl 5 rfl) ?_
                  refine lv_iload_n hx hb dX4_entriesOf_70 rfl (lv_at hl 6 rfl) ?_
                  refine lv_iload hx hb dX4_entriesOf_71 (lv_at hl 1 rfl) ?_
                  refine cq_V (As := [.int (nI r), .int (nI w), .int (nI c9), .int (nI k)]) (rest := [.int (nI (enM sa r w c9 k + (if c9 = 4 then enI sa r w k j else 0)))]) S (c_X4_mark l D (cI := cI) (m9 := m9) (sa := sa) (tx := tx) (th := th) (sv := sv) (ln := ln) (po := po) (lt := lt) (fi := fi) (sc := sc) (nu := nu) (ad := ad) (rv := rv) (r := r) (w := w) (c9 := c9) (k9 := k) (hr := by omega) (hw5 := by omega) (hc := by omega) (hk9 := by omega)) (cwV 4 hts gX4_entriesOf_X4_mark rfl rfl rfl (by decide +kernel) ⟨Nat.le_of_ble_eq_true rfl, Nat.le_of_ble_eq_true rfl⟩) (hq.sub [0, 1, 2] [0] rfl rfl) 0 rfl rfl rfl hl.1 (Nat.le_of_ble_eq_true rfl) ⟨Nat.le_of_ble_eq_true rfl, Nat.le_of_ble_eq_true rfl⟩ rfl dX4_entriesOf_73 (fun r_73 e_73 => ?_)
                  have e_73 : r_73 = sa (24 + (4 * (4 * (6 * r + w) + c9) + k)) := e_73
                  subst e_73
                  refine lv_if_le (tgt := 83) hx hb dX4_entriesOf_76 (by decide) (fun c_76 => ?_) (fun c_76 => ?_)
                  ·
                    refine lv_iconst (v := nI 0) hx hb dX4_entriesOf_83 kc_iconst_0 ?_
                    have hl : lv_has ls 7 [(6, .int (nI j)), (5, .int (nI k)), (4, .int (nI (enM sa r w c9 k + (if c9 = 4 then enI sa r w k j else 0)))), (0, .ref (m9 0)), (1, .int (nI r)), (2, .int (nI w)), (3, .int (nI c9))] := lv_sub hl [0, 1, 2, 3, 4, 5, 6] rfl
                    refine r_top hx (show nI 0 = nI (if c9 < 4 then (if sa (24 + (4 * (4 * (6 * r + w) + c9) + k)) ≤ 0 then 0 else 1) else 0) from by first | (exfalso; omega) | rw [if_neg (show ¬ c9 < 4 from by omega)] | (rw [if_pos (show c9 < 4 from by omega)]; first | rw [if_pos c_76] | rw [if_neg c_76])) ?_
                    exact J84_6 ls hl
                  ·
                    refine lv_iconst (v := nI 1) hx hb dX4_entriesOf_79 kc_iconst_1 ?_
                    refine lv_goto (tgt := 84) hx hb dX4_entriesOf_80 (by decide) ?_
                    have hl : lv_has ls 7 [(6, .int (nI j)), (5, .int (nI k)), (4, .int (nI (enM sa r w c9 k + (if c9 = 4 then enI sa r w k j else 0)))), (0, .ref (m9 0)), (1, .int (nI r)), (2, .int (nI w)), (3, .int (nI c9))] := lv_sub hl [0, 1, 2, 3, 4, 5, 6] rfl
                    refine r_top hx (show nI 1 = nI (if c9 < 4 then (if sa (24 + (4 * (4 * (6 * r + w) + c9) + k)) ≤ 0 then 0 else 1) else 0) from by first | (exfalso; omega) | rw [if_neg (show ¬ c9 < 4 from by omega)] | (rw [if_pos (show c9 < 4 from by omega)]; first | rw [if_pos c_76] | rw [if_neg c_76])) ?_
                    exact J84_6 ls hl
              ·
                refine lv_iload hx hb dX4_entriesOf_27 (lv_at hl 2 rfl) ?_
                refine lv_aload_n hx hb dX4_entriesOf_29 rfl (lv_at hl 3 rfl) ?_
                refine r_get hx hb hts hown hq 0 1 hin4 rfl rfl (by decide) k7 rfl dX4_entriesOf_30 ?_
                refine lv_iload_n hx hb dX4_entriesOf_33 rfl (lv_at hl 4 rfl) ?_
                refine lv_iload_n hx hb dX4_entriesOf_34 rfl (lv_at hl 5 rfl) ?_
                refine lv_iload hx hb dX4_entriesOf_35 (lv_at hl 0 rfl) ?_
                refine lv_iload hx hb dX4_entriesOf_37 (lv_at hl 1 rfl) ?_
                refine cq_S (As := [.int (nI r), .int (nI w), .int (nI j), .int (nI k)]) (rest := [.ref (m9 1), .int (nI (enM sa r w c9 k + (if c9 = 4 then enI sa r w k j else 0)))]) S (c_X4_elementPlace l D (r := r) (w := w) (c9 := j) (k9 := k)) (va_cwS 4 hts gX4_entriesOf_X4_elementPlace rfl rfl rfl (by decide +kernel) ⟨Nat.le_of_ble_eq_true rfl, Nat.le_of_ble_eq_true rfl⟩) (hq.sub [] [] rfl rfl) rfl hl.1 (Nat.le_of_ble_eq_true rfl) ⟨Nat.le_of_ble_eq_true rfl, Nat.le_of_ble_eq_true rfl⟩ rfl dX4_entriesOf_39 (fun r_39 e_39 => ?_)
                have e_39 : r_39 = nI (888 + 4 * (16 * (6 * r + w) + j) + k) := e_39
                subst e_39
                refine r_ald hx hb hq 1 0 rfl rfl (i := 888 + 4 * (16 * (6 * r + w) + j) + k) (by omega) (by decide) dX4_entriesOf_42 ?_
                have J51_7 : ∀ ls : Array Slot, lv_has ls 7 [(6, .int (nI j)), (5, .int (nI k)), (4, .int (nI (enM sa r w c9 k + (if c9 = 4 then enI sa r w k j else 0)))), (0, .ref (m9 0)), (1, .int (nI r)), (2, .int (nI w)), (3, .int (nI c9))] → W p l e rmX4_entriesOf s m args below meth c s.heap [] 0 0 Q (F0 m 51 ls [.int (nI (if sa (888 + 4 * (16 * (6 * r + w) + j) + k) ≤ 0 then 0 else 1)), .int (nI (enM sa r w c9 k + (if c9 = 4 then enI sa r w k j else 0)))]) := by
                  intro ls hl
                  refine r_addN hx hb dX4_entriesOf_51 ?_
                  refine lv_istore (lv' := [(4, .int (nI ((enM sa r w c9 k + (if c9 = 4 then enI sa r w k j else 0)) + (if sa (888 + 4 * (16 * (6 * r + w) + j) + k) ≤ 0 then 0 else 1)))), (6, .int (nI j)), (5, .int (nI k)), (0, .ref (m9 0)), (1, .int (nI r)), (2, .int (nI w)), (3, .int (nI c9))]) hx hb dX4_entriesOf_52 hl (by decide) rfl (fun ls hl => ?_)
                  refine lv_iinc (v := nI (j + 1)) (lv' := [(6, .int (nI (j + 1))), (4, .int (nI ((enM sa r w c9 k + (if c9 = 4 then enI sa r w k j else 0)) + (if sa (888 + 4 * (16 * (6 * r + w) + j) + k) ≤ 0 then 0 else 1)))), (5, .int (nI k)), (0, .ref (m9 0)), (1, .int (nI r)), (2, .int (nI w)), (3, .int (nI c9))]) hx hb dX4_entriesOf_54 hl (k := 1) rfl (nI_add j 1) (by decide) rfl (fun ls hl => ?_)
                  refine lv_goto (tgt := 15) hx hb dX4_entriesOf_57 (by decide) ?_
                  have hl : lv_has ls 7 [(6, .int (nI (j + 1))), (5, .int (nI k)), (4, .int (nI ((enM sa r w c9 k + (if c9 = 4 then enI sa r w k j else 0)) + (if sa (888 + 4 * (16 * (6 * r + w) + j) + k) ≤ 0 then 0 else 1)))), (0, .ref (m9 0)), (1, .int (nI r)), (2, .int (nI w)), (3, .int (nI c9))] := lv_sub hl [0, 2, 1, 3, 4, 5, 6] rfl
                  have hl : lv_has ls 7 [(6, .int (nI (j + 1))), (5, .int (nI k)), (4, .int (nI (enM sa r w c9 k + (if c9 = 4 then enI sa r w k (j + 1) else 0)))), (0, .ref (m9 0)), (1, .int (nI r)), (2, .int (nI w)), (3, .int (nI c9))] := lv_rep hl 2 rfl (congrArg (fun z => Value.int (nI z)) (show (enM sa r w c9 k + (if c9 = 4 then enI sa r w k j else 0)) + (if sa (888 + 4 * (16 * (6 * r + w) + j) + k) ≤ 0 then 0 else 1) = enM sa r w c9 k + (if c9 = 4 then enI sa r w k (j + 1) else 0) from by rw [if_pos c_17, if_pos c_17]; simp only [enI]; omega))
                  exact ih_15 (j + 1) (by omega) (by omega) ls hl
                refine lv_if_le (tgt := 50) hx hb dX4_entriesOf_43 (by decide) (fun c_43 => ?_) (fun c_43 => ?_)
                ·
                  refine lv_iconst (v := nI 0) hx hb dX4_entriesOf_50 kc_iconst_0 ?_
                  have hl : lv_has ls 7 [(6, .int (nI j)), (5, .int (nI k)), (4, .int (nI (enM sa r w c9 k + (if c9 = 4 then enI sa r w k j else 0)))), (0, .ref (m9 0)), (1, .int (nI r)), (2, .int (nI w)), (3, .int (nI c9))] := lv_sub hl [0, 1, 2, 3, 4, 5, 6] rfl
                  refine r_top hx (show nI 0 = nI (if sa (888 + 4 * (16 * (6 * r + w) + j) + k) ≤ 0 then 0 else 1) from by first | rw [if_pos c_43] | rw [if_neg c_43]) ?_
                  exact J51_7 ls hl
                ·
                  refine lv_iconst (v := nI 1) hx hb dX4_entriesOf_46 kc_iconst_1 ?_
                  refine lv_goto (tgt := 51) hx hb dX4_entriesOf_47 (by decide) ?_
                  have hl : lv_has ls 7 [(6, .int (nI j)), (5, .int (nI k)), (4, .int (nI (enM sa r w c9 k + (if c9 = 4 then enI sa r w k j else 0)))), (0, .ref (m9 0)), (1, .int (nI r)), (2, .int (nI w)), (3, .int (nI c9))] := lv_sub hl [0, 1, 2, 3, 4, 5, 6] rfl
                  refine r_top hx (show nI 1 = nI (if sa (888 + 4 * (16 * (6 * r + w) + j) + k) ≤ 0 then 0 else 1) from by first | rw [if_pos c_43] | rw [if_neg c_43]) ?_
                  exact J51_7 ls hl
        have hl : lv_has ls 7 [(6, .int (nI 0)), (5, .int (nI k)), (4, .int (nI (enM sa r w c9 k))), (0, .ref (m9 0)), (1, .int (nI r)), (2, .int (nI w)), (3, .int (nI c9))] := lv_sub hl [0, 1, 2, 3, 4, 5, 6] rfl
        have hl : lv_has ls 7 [(6, .int (nI 0)), (5, .int (nI k)), (4, .int (nI (enM sa r w c9 k + (if c9 = 4 then enI sa r w k 0 else 0)))), (0, .ref (m9 0)), (1, .int (nI r)), (2, .int (nI w)), (3, .int (nI c9))] := lv_rep hl 2 rfl (congrArg (fun z => Value.int (nI z)) (show enM sa r w c9 k = enM sa r w c9 k + (if c9 = 4 then enI sa r w k 0 else 0) from by split <;> rfl))
        exact L15_3 (16 + 1) (0) (by omega) (by omega) ls hl
  have hl : lv_has ls 7 [(5, .int (nI 0)), (4, .int (nI 0)), (0, .ref (m9 0)), (1, .int (nI r)), (2, .int (nI w)), (3, .int (nI c9))] := lv_sub hl [0, 1, 2, 3, 4, 5] rfl
  have hl : lv_has ls 7 [(5, .int (nI 0)), (4, .int (nI (enM sa r w c9 0))), (0, .ref (m9 0)), (1, .int (nI r)), (2, .int (nI w)), (3, .int (nI c9))] := lv_rep hl 1 rfl (congrArg (fun z => Value.int (nI z)) (show 0 = enM sa r w c9 0 from rfl))
  exact L6_1 (4 + 1) (0) (by omega) (by omega) ls hl
abbrev rmX4_knows : Room := { frames := 1, cells := 0, slots := 0, locals := 22 }
set_option maxHeartbeats 4000000 in
set_option maxRecDepth 100000 in
theorem c_X4_knows (l : Launch) (D : va_G) (cI : ClassId) (m9 : Nat → Nat) (sa : Nat → Int32) (tx : Nat → Nat) (th : Int32) (sv ln po : Nat) (lt fi sc nu : Int32) (ad rv : Nat) (a9 b9 : Nat) (ha9 : a9 < 4) (hb9 : b9 < 4) : MQi l yX4_knows wsX4_knows rmX4_knows [.ref (m9 0), .int (nI a9), .int (nI b9)] D [(cI, .int)] (wM cI m9 sa tx th sv ln po lt fi sc nu ad rv) (fun rz => rz = b2 (kwM sa a9 b9 4)) := by
  refine met_q (own := RX4) (cc := cX4_knows) (maxL := 5) (ty := .boolean) (by decide) rfl rfl (Nat.le_of_ble_eq_true rfl) ?_
  intro p e s m args below meth c Q S hq hE ls hl
  obtain ⟨hx, hb, hml, hown, hts⟩ := id S
  have hl : lv_has ls 5 [(0, .ref (m9 0)), (1, .int (nI a9)), (2, .int (nI b9))] := hl
  refine lv_iconst (v := nI 1) hx hb dX4_knows_0 kc_iconst_1 ?_
  refine lv_istore_n (lv' := [(3, .int (nI 1)), (0, .ref (m9 0)), (1, .int (nI a9)), (2, .int (nI b9))]) hx hb dX4_knows_1 rfl hl (by decide) rfl (fun ls hl => ?_)
  refine lv_iconst (v := nI 0) hx hb dX4_knows_2 kc_iconst_0 ?_
  refine lv_istore (lv' := [(4, .int (nI 0)), (3, .int (nI 1)), (0, .ref (m9 0)), (1, .int (nI a9)), (2, .int (nI b9))]) hx hb dX4_knows_3 hl (by decide) rfl (fun ls hl => ?_)
  have L5_1 : ∀ (fu_2 k : Nat), k ≤ 4 → 4 - k < fu_2 → ∀ ls : Array Slot, lv_has ls 5 [(4, .int (nI k)), (3, .int (b2 (kwM sa a9 b9 k))), (0, .ref (m9 0)), (1, .int (nI a9)), (2, .int (nI b9))] → W p l e rmX4_knows s m args below meth c s.heap [] 0 0 Q (F0 m 5 ls []) := by
    intro fu_2
    induction fu_2 with
    | zero => intro k _ h9; exact absurd h9 (Nat.not_lt_zero _)
    | succ fu_2 ih_5 =>
      intro k hk_5 hf_5 ls hl
      refine lv_iload hx hb dX4_knows_5 (lv_at hl 0 rfl) ?_
      refine lv_iconst (v := nI 4) hx hb dX4_knows_7 kc_iconst_4 ?_
      refine r_icmp_geN (tgt := 44) hx hb (by omega) (by omega) dX4_knows_8 (by decide) (fun c_8 => ?_) (fun c_8 => ?_)
      ·
        refine lv_iload_n hx hb dX4_knows_44 rfl (lv_at hl 1 rfl) ?_
        exact hE dX4_knows_45 (by first | rfl | exact b2_nz) (show b2 (kwM sa a9 b9 k) = b2 (kwM sa a9 b9 4) from by rw [show k = 4 by omega])
      ·
        refine lv_iload_n hx hb dX4_knows_11 rfl (lv_at hl 1 rfl) ?_
        have J37_3 : ∀ ls : Array Slot, lv_has ls 5 [(4, .int (nI k)), (3, .int (b2 (kwM sa a9 b9 k))), (0, .ref (m9 0)), (1, .int (nI a9)), (2, .int (nI b9))] → W p l e rmX4_knows s m args below meth c s.heap [] 0 0 Q (F0 m 37 ls [.int (b2 (kwM sa a9 b9 (k + 1)))]) := by
          intro ls hl
          refine lv_istore_n (lv' := [(3, .int (b2 (kwM sa a9 b9 (k + 1)))), (4, .int (nI k)), (0, .ref (m9 0)), (1, .int (nI a9)), (2, .int (nI b9))]) hx hb dX4_knows_37 rfl hl (by decide) rfl (fun ls hl => ?_)
          refine lv_iinc (v := nI (k + 1)) (lv' := [(4, .int (nI (k + 1))), (3, .int (b2 (kwM sa a9 b9 (k + 1)))), (0, .ref (m9 0)), (1, .int (nI a9)), (2, .int (nI b9))]) hx hb dX4_knows_38 hl (k := 1) rfl (nI_add k 1) (by decide) rfl (fun ls hl => ?_)
          refine lv_goto (tgt := 5) hx hb dX4_knows_41 (by decide) ?_
          have hl : lv_has ls 5 [(4, .int (nI (k + 1))), (3, .int (b2 (kwM sa a9 b9 (k + 1)))), (0, .ref (m9 0)), (1, .int (nI a9)), (2, .int (nI b9))] := lv_sub hl [0, 1, 2, 3, 4] rfl
          exact ih_5 (k + 1) (by omega) (by omega) ls hl
        refine r_if_eqB (tgt := 36) hx hb dX4_knows_12 (by decide) (fun c_12 => ?_) (fun c_12 => ?_)
        ·
          refine lv_iconst (v := nI 0) hx hb dX4_knows_36 kc_iconst_0 ?_
          have hl : lv_has ls 5 [(4, .int (nI k)), (3, .int (b2 (kwM sa a9 b9 k))), (0, .ref (m9 0)), (1, .int (nI a9)), (2, .int (nI b9))] := lv_sub hl [0, 1, 2, 3, 4] rfl
          refine r_top hx (show nI 0 = b2 (kwM sa a9 b9 (k + 1)) from by first | exact ret1 (fun o h => by rcases Nat.lt_succ_iff_lt_or_eq.mp h with h | h; exact c_12 o h; subst h; exact c_29) | exact ret0 (fun h => c_12 (fun o ho => h o (by omega))) | exact ret0 (fun h => h k (by omega) c_29)) ?_
          exact J37_3 ls hl
        ·
          refine lv_aload_n hx hb dX4_knows_15 rfl (lv_at hl 2 rfl) ?_
          refine lv_iload_n hx hb dX4_knows_16 rfl (lv_at hl 3 rfl) ?_
          refine lv_iload hx hb dX4_knows_17 (lv_at hl 0 rfl) ?_
          refine cq_V (As := [.int (nI a9), .int (nI k)]) (rest := []) S (c_X4_seenBy l D (cI := cI) (m9 := m9) (sa := sa) (tx := tx) (th := th) (sv := sv) (ln := ln) (po := po) (lt := lt) (fi := fi) (sc := sc) (nu := nu) (ad := ad) (rv := rv) (a9 := a9) (b9 := k) (ha9 := by omega) (hb9 := by omega)) (cwV 2 hts gX4_knows_X4_seenBy rfl rfl rfl (by decide +kernel) ⟨Nat.le_of_ble_eq_true rfl, Nat.le_of_ble_eq_true rfl⟩) (hq.sub [0, 1, 2] [0] rfl rfl) 0 rfl rfl rfl hl.1 (Nat.le_of_ble_eq_true rfl) ⟨Nat.le_of_ble_eq_true rfl, Nat.le_of_ble_eq_true rfl⟩ rfl dX4_knows_19 (fun r_19 e_19 => ?_)
          have e_19 : r_19 = sa (0 + 4 * a9 + k) := e_19
          subst e_19
          refine lv_aload_n hx hb dX4_knows_22 rfl (lv_at hl 2 rfl) ?_
          refine lv_iload_n hx hb dX4_knows_23 rfl (lv_at hl 4 rfl) ?_
          refine lv_iload hx hb dX4_knows_24 (lv_at hl 0 rfl) ?_
          refine cq_V (As := [.int (nI b9), .int (nI k)]) (rest := [.int (sa (0 + 4 * a9 + k))]) S (c_X4_seenBy l D (cI := cI) (m9 := m9) (sa := sa) (tx := tx) (th := th) (sv := sv) (ln := ln) (po := po) (lt := lt) (fi := fi) (sc := sc) (nu := nu) (ad := ad) (rv := rv) (a9 := b9) (b9 := k) (ha9 := by omega) (hb9 := by omega)) (cwV 2 hts gX4_knows_X4_seenBy rfl rfl rfl (by decide +kernel) ⟨Nat.le_of_ble_eq_true rfl, Nat.le_of_ble_eq_true rfl⟩) (hq.sub [0, 1, 2] [0] rfl rfl) 0 rfl rfl rfl hl.1 (Nat.le_of_ble_eq_true rfl) ⟨Nat.le_of_ble_eq_true rfl, Nat.le_of_ble_eq_true rfl⟩ rfl dX4_knows_26 (fun r_26 e_26 => ?_)
          have e_26 : r_26 = sa (0 + 4 * b9 + k) := e_26
          subst e_26
          refine lv_icmp_lt (tgt := 36) hx hb dX4_knows_29 (by decide) (fun c_29 => ?_) (fun c_29 => ?_)
          ·
            refine lv_iconst (v := nI 0) hx hb dX4_knows_36 kc_iconst_0 ?_
            have hl : lv_has ls 5 [(4, .int (nI k)), (3, .int (b2 (kwM sa a9 b9 k))), (0, .ref (m9 0)), (1, .int (nI a9)), (2, .int (nI b9))] := lv_sub hl [0, 1, 2, 3, 4] rfl
            refine r_top hx (show nI 0 = b2 (kwM sa a9 b9 (k + 1)) from by first | exact ret1 (fun o h => by rcases Nat.lt_succ_iff_lt_or_eq.mp h with h | h; exact c_12 o h; subst h; exact c_29) | exact ret0 (fun h => c_12 (fun o ho => h o (by omega))) | exact ret0 (fun h => h k (by omega) c_29)) ?_
            exact J37_3 ls hl
          ·
            refine lv_iconst (v := nI 1) hx hb dX4_knows_32 kc_iconst_1 ?_
            refine lv_goto (tgt := 37) hx hb dX4_knows_33 (by decide) ?_
            have hl : lv_has ls 5 [(4, .int (nI k)), (3, .int (b2 (kwM sa a9 b9 k))), (0, .ref (m9 0)), (1, .int (nI a9)), (2, .int (nI b9))] := lv_sub hl [0, 1, 2, 3, 4] rfl
            refine r_top hx (show nI 1 = b2 (kwM sa a9 b9 (k + 1)) from by first | exact ret1 (fun o h => by rcases Nat.lt_succ_iff_lt_or_eq.mp h with h | h; exact c_12 o h; subst h; exact c_29) | exact ret0 (fun h => c_12 (fun o ho => h o (by omega))) | exact ret0 (fun h => h k (by omega) c_29)) ?_
            exact J37_3 ls hl
  have hl : lv_has ls 5 [(4, .int (nI 0)), (3, .int (nI 1)), (0, .ref (m9 0)), (1, .int (nI a9)), (2, .int (nI b9))] := lv_sub hl [0, 1, 2, 3, 4] rfl
  have hl : lv_has ls 5 [(4, .int (nI 0)), (3, .int (b2 (kwM sa a9 b9 0))), (0, .ref (m9 0)), (1, .int (nI a9)), (2, .int (nI b9))] := lv_rep hl 1 rfl (congrArg Value.int (show nI 1 = b2 (kwM sa a9 b9 0) from ret1 (fun o h => absurd h (Nat.not_lt_zero _))))
  exact L5_1 (4 + 1) (0) (by omega) (by omega) ls hl
abbrev rmX4_isLike : Room := { frames := 2, cells := 0, slots := 0, locals := 47 }
set_option maxHeartbeats 4000000 in
set_option maxRecDepth 100000 in
theorem c_X4_isLike (l : Launch) (D : va_G) (cI : ClassId) (m9 : Nat → Nat) (sa : Nat → Int32) (tx : Nat → Nat) (th : Int32) (sv ln po : Nat) (lt fi sc nu : Int32) (ad rv : Nat) (r w c9 : Nat) (hr : r < 4) (hw5 : w < 6) (hc : c9 < 5) : MQi l yX4_isLike wsX4_isLike rmX4_isLike [.ref (m9 0), .int (nI r), .int (nI w), .int (nI c9)] D [(cI, .int)] (wM cI m9 sa tx th sv ln po lt fi sc nu ad rv) (fun rz => rz = b2 (liM sa r w c9 64)) := by
  refine met_q (own := RX4) (cc := cX4_isLike) (maxL := 8) (ty := .boolean) (by decide) rfl rfl (Nat.le_of_ble_eq_true rfl) ?_
  intro p e s m args below meth c Q S hq hE ls hl
  obtain ⟨hx, hb, hml, hown, hts⟩ := id S
  have k7 := hts (.fieldLink RX4 7 "CausalTableModel" "s" "[I") (by decide +kernel)
  have hin4 := (show ∀ w ∈ wsX40, w ∈ wsX4_isLike by decide +kernel)
  have hl : lv_has ls 8 [(0, .ref (m9 0)), (1, .int (nI r)), (2, .int (nI w)), (3, .int (nI c9))] := hl
  refine lv_iconst (v := nI 1) hx hb dX4_isLike_0 kc_iconst_1 ?_
  refine lv_istore (lv' := [(4, .int (nI 1)), (0, .ref (m9 0)), (1, .int (nI r)), (2, .int (nI w)), (3, .int (nI c9))]) hx hb dX4_isLike_1 hl (by decide) rfl (fun ls hl => ?_)
  refine lv_iconst (v := nI 0) hx hb dX4_isLike_3 kc_iconst_0 ?_
  refine lv_istore (lv' := [(5, .int (nI 0)), (4, .int (nI 1)), (0, .ref (m9 0)), (1, .int (nI r)), (2, .int (nI w)), (3, .int (nI c9))]) hx hb dX4_isLike_4 hl (by decide) rfl (fun ls hl => ?_)
  have L6_1 : ∀ (fu_2 k : Nat), k ≤ 64 → 64 - k < fu_2 → ∀ ls : Array Slot, lv_has ls 8 [(5, .int (nI k)), (4, .int (b2 (liM sa r w c9 k))), (0, .ref (m9 0)), (1, .int (nI r)), (2, .int (nI w)), (3, .int (nI c9))] → W p l e rmX4_isLike s m args below meth c s.heap [] 0 0 Q (F0 m 6 ls []) := by
    intro fu_2
    induction fu_2 with
    | zero => intro k _ h9; exact absurd h9 (Nat.not_lt_zero _)
    | succ fu_2 ih_6 =>
      intro k hk_6 hf_6 ls hl
      refine lv_iload hx hb dX4_isLike_6 (lv_at hl 0 rfl) ?_
      refine lv_bipush (v := nI 64) hx hb dX4_isLike_8 kc_bipush_64 ?_
      refine r_icmp_geN (tgt := 118) hx hb (by omega) (by omega) dX4_isLike_10 (by decide) (fun c_10 => ?_) (fun c_10 => ?_)
      ·
        refine lv_iload hx hb dX4_isLike_118 (lv_at hl 1 rfl) ?_
        exact hE dX4_isLike_120 (by first | rfl | exact b2_nz) (show b2 (liM sa r w c9 k) = b2 (liM sa r w c9 64) from by rw [show k = 64 by omega])
      ·
        refine lv_iload hx hb dX4_isLike_13 (lv_at hl 0 rfl) ?_
        refine lv_iconst (v := nI 4) hx hb dX4_isLike_15 kc_iconst_4 ?_
        refine r_remN hx hb (by omega) (by omega) (by omega) dX4_isLike_16 ?_
        refine lv_istore (lv' := [(6, .int (nI (k % 4))), (5, .int (nI k)), (4, .int (b2 (liM sa r w c9 k))), (0, .ref (m9 0)), (1, .int (nI r)), (2, .int (nI w)), (3, .int (nI c9))]) hx hb dX4_isLike_17 hl (by decide) rfl (fun ls hl => ?_)
        refine lv_iload_n hx hb dX4_isLike_19 rfl (lv_at hl 6 rfl) ?_
        refine lv_iconst (v := nI 4) hx hb dX4_isLike_20 kc_iconst_4 ?_
        have J93_3 : ∀ ls : Array Slot, lv_has ls 8 [(6, .int (nI (k % 4))), (5, .int (nI k)), (4, .int (b2 (liM sa r w c9 k))), (0, .ref (m9 0)), (1, .int (nI r)), (2, .int (nI w)), (3, .int (nI c9))] → W p l e rmX4_isLike s m args below meth c s.heap [] 0 0 Q (F0 m 93 ls [.int (b2 (lkP sa r w c9 k))]) := by
          intro ls hl
          refine lv_istore (lv' := [(7, .int (b2 (lkP sa r w c9 k))), (6, .int (nI (k % 4))), (5, .int (nI k)), (4, .int (b2 (liM sa r w c9 k))), (0, .ref (m9 0)), (1, .int (nI r)), (2, .int (nI w)), (3, .int (nI c9))]) hx hb dX4_isLike_93 hl (by decide) rfl (fun ls hl => ?_)
          refine lv_iload hx hb dX4_isLike_95 (lv_at hl 3 rfl) ?_
          have J110_4 : ∀ ls : Array Slot, lv_has ls 8 [(7, .int (b2 (lkP sa r w c9 k))), (6, .int (nI (k % 4))), (5, .int (nI k)), (4, .int (b2 (liM sa r w c9 k))), (0, .ref (m9 0)), (1, .int (nI r)), (2, .int (nI w)), (3, .int (nI c9))] → W p l e rmX4_isLike s m args below meth c s.heap [] 0 0 Q (F0 m 110 ls [.int (b2 (liM sa r w c9 (k + 1)))]) := by
            intro ls hl
            refine lv_istore (lv' := [(4, .int (b2 (liM sa r w c9 (k + 1)))), (7, .int (b2 (lkP sa r w c9 k))), (6, .int (nI (k % 4))), (5, .int (nI k)), (0, .ref (m9 0)), (1, .int (nI r)), (2, .int (nI w)), (3, .int (nI c9))]) hx hb dX4_isLike_110 hl (by decide) rfl (fun ls hl => ?_)
            refine lv_iinc (v := nI (k + 1)) (lv' := [(5, .int (nI (k + 1))), (4, .int (b2 (liM sa r w c9 (k + 1)))), (7, .int (b2 (lkP sa r w c9 k))), (6, .int (nI (k % 4))), (0, .ref (m9 0)), (1, .int (nI r)), (2, .int (nI w)), (3, .int (nI c9))]) hx hb dX4_isLike_112 hl (k := 3) rfl (nI_add k 1) (by decide) rfl (fun ls hl => ?_)
            refine lv_goto (tgt := 6) hx hb dX4_isLike_115 (by decide) ?_
            have hl : lv_has ls 8 [(5, .int (nI (k + 1))), (4, .int (b2 (liM sa r w c9 (k + 1)))), (0, .ref (m9 0)), (1, .int (nI r)), (2, .int (nI w)), (3, .int (nI c9))] := lv_sub hl [0, 1, 4, 5, 6, 7] rfl
            exact ih_6 (k + 1) (by omega) (by omega) ls hl
          refine r_if_eqB (tgt := 109) hx hb dX4_isLike_97 (by decide) (fun c_97 => ?_) (fun c_97 => ?_)
          ·
            refine lv_iconst (v := nI 0) hx hb dX4_isLike_109 kc_iconst_0 ?_
            have hl : lv_has ls 8 [(7, .int (b2 (lkP sa r w c9 k))), (6, .int (nI (k % 4))), (5, .int (nI k)), (4, .int (b2 (liM sa r w c9 k))), (0, .ref (m9 0)), (1, .int (nI r)), (2, .int (nI w)), (3, .int (nI c9))] := lv_sub hl [0, 1, 2, 3, 4, 5, 6, 7] rfl
            refine r_top hx (show nI 0 = b2 (liM sa r w c9 (k + 1)) from by first | exact ret1 (fun o h => by rcases Nat.lt_succ_iff_lt_or_eq.mp h with h | h; exact c_97 o h; subst h; exact c_102) | exact ret0 (fun h => c_97 (fun o ho => h o (by omega))) | exact ret0 (fun h => c_102 (h k (by omega)))) ?_
            exact J110_4 ls hl
          ·
            refine lv_iload hx hb dX4_isLike_100 (lv_at hl 0 rfl) ?_
            refine r_if_eqB (tgt := 109) hx hb dX4_isLike_102 (by decide) (fun c_102 => ?_) (fun c_102 => ?_)
            ·
              refine lv_iconst (v := nI 0) hx hb dX4_isLike_109 kc_iconst_0 ?_
              have hl : lv_has ls 8 [(7, .int (b2 (lkP sa r w c9 k))), (6, .int (nI (k % 4))), (5, .int (nI k)), (4, .int (b2 (liM sa r w c9 k))), (0, .ref (m9 0)), (1, .int (nI r)), (2, .int (nI w)), (3, .int (nI c9))] := lv_sub hl [0, 1, 2, 3, 4, 5, 6, 7] rfl
              refine r_top hx (show nI 0 = b2 (liM sa r w c9 (k + 1)) from by first | exact ret1 (fun o h => by rcases Nat.lt_succ_iff_lt_or_eq.mp h with h | h; exact c_97 o h; subst h; exact c_102) | exact ret0 (fun h => c_97 (fun o ho => h o (by omega))) | exact ret0 (fun h => c_102 (h k (by omega)))) ?_
              exact J110_4 ls hl
            ·
              refine lv_iconst (v := nI 1) hx hb dX4_isLike_105 kc_iconst_1 ?_
              refine lv_goto (tgt := 110) hx hb dX4_isLike_106 (by decide) ?_
              have hl : lv_has ls 8 [(7, .int (b2 (lkP sa r w c9 k))), (6, .int (nI (k % 4))), (5, .int (nI k)), (4, .int (b2 (liM sa r w c9 k))), (0, .ref (m9 0)), (1, .int (nI r)), (2, .int (nI w)), (3, .int (nI c9))] := lv_sub hl [0, 1, 2, 3, 4, 5, 6, 7] rfl
              refine r_top hx (show nI 1 = b2 (liM sa r w c9 (k + 1)) from by first | exact ret1 (fun o h => by rcases Nat.lt_succ_iff_lt_or_eq.mp h with h | h; exact c_97 o h; subst h; exact c_102) | exact ret0 (fun h => c_97 (fun o ho => h o (by omega))) | exact ret0 (fun h => c_102 (h k (by omega)))) ?_
              exact J110_4 ls hl
        refine r_icmp_neN (tgt := 67) hx hb (by omega) (by omega) dX4_isLike_21 (by decide) (fun c_21 => ?_) (fun c_21 => ?_)
        ·
          refine lv_aload_n hx hb dX4_isLike_67 rfl (lv_at hl 3 rfl) ?_
          refine lv_iconst (v := nI 0) hx hb dX4_isLike_68 kc_iconst_0 ?_
          refine lv_iload_n hx hb dX4_isLike_69 rfl (lv_at hl 5 rfl) ?_
          refine lv_iload_n hx hb dX4_isLike_70 rfl (lv_at hl 6 rfl) ?_
          refine lv_iload hx hb dX4_isLike_71 (lv_at hl 0 rfl) ?_
          refine cq_V (As := [.int (nI 0), .int (nI w), .int (nI c9), .int (nI (k % 4))]) (rest := []) S (c_X4_mark l D (cI := cI) (m9 := m9) (sa := sa) (tx := tx) (th := th) (sv := sv) (ln := ln) (po := po) (lt := lt) (fi := fi) (sc := sc) (nu := nu) (ad := ad) (rv := rv) (r := 0) (w := w) (c9 := c9) (k9 := k % 4) (hr := by omega) (hw5 := by omega) (hc := by omega) (hk9 := by omega)) (cwV 4 hts gX4_isLike_X4_mark rfl rfl rfl (by decide +kernel) ⟨Nat.le_of_ble_eq_true rfl, Nat.le_of_ble_eq_true rfl⟩) (hq.sub [0, 1, 2] [0] rfl rfl) 0 rfl rfl rfl hl.1 (Nat.le_of_ble_eq_true rfl) ⟨Nat.le_of_ble_eq_true rfl, Nat.le_of_ble_eq_true rfl⟩ rfl dX4_isLike_73 (fun r_73 e_73 => ?_)
          have e_73 : r_73 = sa (24 + (4 * (4 * (6 * 0 + w) + c9) + (k % 4))) := e_73
          subst e_73
          refine lv_aload_n hx hb dX4_isLike_76 rfl (lv_at hl 3 rfl) ?_
          refine lv_iload_n hx hb dX4_isLike_77 rfl (lv_at hl 4 rfl) ?_
          refine lv_iload_n hx hb dX4_isLike_78 rfl (lv_at hl 5 rfl) ?_
          refine lv_iload_n hx hb dX4_isLike_79 rfl (lv_at hl 6 rfl) ?_
          refine lv_iload hx hb dX4_isLike_80 (lv_at hl 0 rfl) ?_
          refine cq_V (As := [.int (nI r), .int (nI w), .int (nI c9), .int (nI (k % 4))]) (rest := [.int (sa (24 + (4 * (4 * (6 * 0 + w) + c9) + (k % 4))))]) S (c_X4_mark l D (cI := cI) (m9 := m9) (sa := sa) (tx := tx) (th := th) (sv := sv) (ln := ln) (po := po) (lt := lt) (fi := fi) (sc := sc) (nu := nu) (ad := ad) (rv := rv) (r := r) (w := w) (c9 := c9) (k9 := k % 4) (hr := by omega) (hw5 := by omega) (hc := by omega) (hk9 := by omega)) (cwV 4 hts gX4_isLike_X4_mark rfl rfl rfl (by decide +kernel) ⟨Nat.le_of_ble_eq_true rfl, Nat.le_of_ble_eq_true rfl⟩) (hq.sub [0, 1, 2] [0] rfl rfl) 0 rfl rfl rfl hl.1 (Nat.le_of_ble_eq_true rfl) ⟨Nat.le_of_ble_eq_true rfl, Nat.le_of_ble_eq_true rfl⟩ rfl dX4_isLike_82 (fun r_82 e_82 => ?_)
          have e_82 : r_82 = sa (24 + (4 * (4 * (6 * r + w) + c9) + (k % 4))) := e_82
          subst e_82
          refine lv_icmp_ne (tgt := 92) hx hb dX4_isLike_85 (by decide) (fun c_85 => ?_) (fun c_85 => ?_)
          ·
            refine lv_iconst (v := nI 0) hx hb dX4_isLike_92 kc_iconst_0 ?_
            have hl : lv_has ls 8 [(6, .int (nI (k % 4))), (5, .int (nI k)), (4, .int (b2 (liM sa r w c9 k))), (0, .ref (m9 0)), (1, .int (nI r)), (2, .int (nI w)), (3, .int (nI c9))] := lv_sub hl [0, 1, 2, 3, 4, 5, 6] rfl
            refine r_top hx (show nI 0 = b2 (lkP sa r w c9 k) from by first | exact ret1 (show lkP sa r w c9 k from by rw [lkP, if_pos c_21]; exact c_56) | exact ret0 (show ¬ lkP sa r w c9 k from by rw [lkP, if_pos c_21]; exact c_56) | exact ret1 (show lkP sa r w c9 k from by rw [lkP, if_neg c_21]; exact c_85) | exact ret0 (show ¬ lkP sa r w c9 k from by rw [lkP, if_neg c_21]; exact c_85)) ?_
            exact J93_3 ls hl
          ·
            refine lv_iconst (v := nI 1) hx hb dX4_isLike_88 kc_iconst_1 ?_
            refine lv_goto (tgt := 93) hx hb dX4_isLike_89 (by decide) ?_
            have hl : lv_has ls 8 [(6, .int (nI (k % 4))), (5, .int (nI k)), (4, .int (b2 (liM sa r w c9 k))), (0, .ref (m9 0)), (1, .int (nI r)), (2, .int (nI w)), (3, .int (nI c9))] := lv_sub hl [0, 1, 2, 3, 4, 5, 6] rfl
            refine r_top hx (show nI 1 = b2 (lkP sa r w c9 k) from by first | exact ret1 (show lkP sa r w c9 k from by rw [lkP, if_pos c_21]; exact c_56) | exact ret0 (show ¬ lkP sa r w c9 k from by rw [lkP, if_pos c_21]; exact c_56) | exact ret1 (show lkP sa r w c9 k from by rw [lkP, if_neg c_21]; exact c_85) | exact ret0 (show ¬ lkP sa r w c9 k from by rw [lkP, if_neg c_21]; exact c_85)) ?_
            exact J93_3 ls hl
        ·
          refine lv_aload_n hx hb dX4_isLike_24 rfl (lv_at hl 3 rfl) ?_
          refine r_get hx hb hts hown hq 0 1 hin4 rfl rfl (by decide) k7 rfl dX4_isLike_25 ?_
          refine lv_iconst (v := nI 0) hx hb dX4_isLike_28 kc_iconst_0 ?_
          refine lv_iload_n hx hb dX4_isLike_29 rfl (lv_at hl 5 rfl) ?_
          refine lv_iload hx hb dX4_isLike_30 (lv_at hl 1 rfl) ?_
          refine lv_iconst (v := nI 4) hx hb dX4_isLike_32 kc_iconst_4 ?_
          refine r_divN hx hb (by omega) (by omega) (by omega) dX4_isLike_33 ?_
          refine lv_iload hx hb dX4_isLike_34 (lv_at hl 0 rfl) ?_
          refine cq_S (As := [.int (nI 0), .int (nI w), .int (nI (k / 4)), .int (nI (k % 4))]) (rest := [.ref (m9 1)]) S (c_X4_elementPlace l D (r := 0) (w := w) (c9 := k / 4) (k9 := k % 4)) (va_cwS 4 hts gX4_isLike_X4_elementPlace rfl rfl rfl (by decide +kernel) ⟨Nat.le_of_ble_eq_true rfl, Nat.le_of_ble_eq_true rfl⟩) (hq.sub [] [] rfl rfl) rfl hl.1 (Nat.le_of_ble_eq_true rfl) ⟨Nat.le_of_ble_eq_true rfl, Nat.le_of_ble_eq_true rfl⟩ rfl dX4_isLike_36 (fun r_36 e_36 => ?_)
          have e_36 : r_36 = nI (888 + 4 * (16 * (6 * 0 + w) + (k / 4)) + (k % 4)) := e_36
          subst e_36
          refine r_ald hx hb hq 1 0 rfl rfl (i := 888 + 4 * (16 * (6 * 0 + w) + (k / 4)) + (k % 4)) (by omega) (by decide) dX4_isLike_39 ?_
          refine lv_aload_n hx hb dX4_isLike_40 rfl (lv_at hl 3 rfl) ?_
          refine r_get hx hb hts hown hq 0 1 hin4 rfl rfl (by decide) k7 rfl dX4_isLike_41 ?_
          refine lv_iload_n hx hb dX4_isLike_44 rfl (lv_at hl 4 rfl) ?_
          refine lv_iload_n hx hb dX4_isLike_45 rfl (lv_at hl 5 rfl) ?_
          refine lv_iload hx hb dX4_isLike_46 (lv_at hl 1 rfl) ?_
          refine lv_iconst (v := nI 4) hx hb dX4_isLike_48 kc_iconst_4 ?_
          refine r_divN hx hb (by omega) (by omega) (by omega) dX4_isLike_49 ?_
          refine lv_iload hx hb dX4_isLike_50 (lv_at hl 0 rfl) ?_
          refine cq_S (As := [.int (nI r), .int (nI w), .int (nI (k / 4)), .int (nI (k % 4))]) (rest := [.ref (m9 1), .int (sa (888 + 4 * (16 * (6 * 0 + w) + (k / 4)) + (k % 4)))]) S (c_X4_elementPlace l D (r := r) (w := w) (c9 := k / 4) (k9 := k % 4)) (va_cwS 4 hts gX4_isLike_X4_elementPlace rfl rfl rfl (by decide +kernel) ⟨Nat.le_of_ble_eq_true rfl, Nat.le_of_ble_eq_true rfl⟩) (hq.sub [] [] rfl rfl) rfl hl.1 (Nat.le_of_ble_eq_true rfl) ⟨Nat.le_of_ble_eq_true rfl, Nat.le_of_ble_eq_true rfl⟩ rfl dX4_isLike_52 (fun r_52 e_52 => ?_)
          have e_52 : r_52 = nI (888 + 4 * (16 * (6 * r + w) + (k / 4)) + (k % 4)) := e_52
          subst e_52
          refine r_ald hx hb hq 1 0 rfl rfl (i := 888 + 4 * (16 * (6 * r + w) + (k / 4)) + (k % 4)) (by omega) (by decide) dX4_isLike_55 ?_
          refine lv_icmp_ne (tgt := 63) hx hb dX4_isLike_56 (by decide) (fun c_56 => ?_) (fun c_56 => ?_)
          ·
            refine lv_iconst (v := nI 0) hx hb dX4_isLike_63 kc_iconst_0 ?_
            refine lv_goto (tgt := 93) hx hb dX4_isLike_64 (by decide) ?_
            have hl : lv_has ls 8 [(6, .int (nI (k % 4))), (5, .int (nI k)), (4, .int (b2 (liM sa r w c9 k))), (0, .ref (m9 0)), (1, .int (nI r)), (2, .int (nI w)), (3, .int (nI c9))] := lv_sub hl [0, 1, 2, 3, 4, 5, 6] rfl
            refine r_top hx (show nI 0 = b2 (lkP sa r w c9 k) from by first | exact ret1 (show lkP sa r w c9 k from by rw [lkP, if_pos c_21]; exact c_56) | exact ret0 (show ¬ lkP sa r w c9 k from by rw [lkP, if_pos c_21]; exact c_56) | exact ret1 (show lkP sa r w c9 k from by rw [lkP, if_neg c_21]; exact c_85) | exact ret0 (show ¬ lkP sa r w c9 k from by rw [lkP, if_neg c_21]; exact c_85)) ?_
            exact J93_3 ls hl
          ·
            refine lv_iconst (v := nI 1) hx hb dX4_isLike_59 kc_iconst_1 ?_
            refine lv_goto (tgt := 93) hx hb dX4_isLike_60 (by decide) ?_
            have hl : lv_has ls 8 [(6, .int (nI (k % 4))), (5, .int (nI k)), (4, .int (b2 (liM sa r w c9 k))), (0, .ref (m9 0)), (1, .int (nI r)), (2, .int (nI w)), (3, .int (nI c9))] := lv_sub hl [0, 1, 2, 3, 4, 5, 6] rfl
            refine r_top hx (show nI 1 = b2 (lkP sa r w c9 k) from by first | exact ret1 (show lkP sa r w c9 k from by rw [lkP, if_pos c_21]; exact c_56) | exact ret0 (show ¬ lkP sa r w c9 k from by rw [lkP, if_pos c_21]; exact c_56) | exact ret1 (show lkP sa r w c9 k from by rw [lkP, if_neg c_21]; exact c_85) | exact ret0 (show ¬ lkP sa r w c9 k from by rw [lkP, if_neg c_21]; exact c_85)) ?_
            exact J93_3 ls hl
  have hl : lv_has ls 8 [(5, .int (nI 0)), (4, .int (nI 1)), (0, .ref (m9 0)), (1, .int (nI r)), (2, .int (nI w)), (3, .int (nI c9))] := lv_sub hl [0, 1, 2, 3, 4, 5] rfl
  have hl : lv_has ls 8 [(5, .int (nI 0)), (4, .int (b2 (liM sa r w c9 0))), (0, .ref (m9 0)), (1, .int (nI r)), (2, .int (nI w)), (3, .int (nI c9))] := lv_rep hl 1 rfl (congrArg Value.int (show nI 1 = b2 (liM sa r w c9 0) from ret1 (fun o h => absurd h (Nat.not_lt_zero _))))
  exact L6_1 (64 + 1) (0) (by omega) (by omega) ls hl
