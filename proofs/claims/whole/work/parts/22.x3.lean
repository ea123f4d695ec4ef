abbrev rmX3_checkReplica : Room := { frames := 0, cells := 0, slots := 0, locals := 0 }
set_option maxHeartbeats 4000000 in
set_option maxRecDepth 100000 in
theorem c_X3_checkReplica (l : Launch) (D : va_G) (sz : Nat) (r : Nat) (hr : r < 4) : MUv l yX3_checkReplica wsX3_checkReplica rmX3_checkReplica [.int (nI r)] D [] ([]) sz (fun (u9 : Unit) => True) (fun u9 => []) (fun u9 => []) 0 0 := by
  refine met_v (own := RX3) (cc := cX3_checkReplica) (maxL := 1) (by decide) rfl rfl (Nat.le_of_ble_eq_true rfl) ?_
  intro p e s m args below meth c Q A hsz S hmn hw hA hE ls hl
  obtain ⟨hx, hb, hml, hown, hts⟩ := id S
  have hl : lv_has ls 1 [(0, .int (nI r))] := hl
  refine lv_iload_n hx hb dX3_checkReplica_0 rfl (lv_at hl 0 rfl) ?_
  refine lv_if_lt (tgt := 9) hx hb dX3_checkReplica_1 (by decide) (fun h => absurd h (nI_pos (by omega))) (fun _ => ?_)
  refine lv_iload_n hx hb dX3_checkReplica_4 rfl (lv_at hl 0 rfl) ?_
  refine lv_iconst (v := nI 4) hx hb dX3_checkReplica_5 kc_iconst_4 ?_
  refine r_icmp_ltN (tgt := 19) hx hb (by omega) (by omega) dX3_checkReplica_6 (by decide) (fun c_6 => ?_) (fun c_6 => ?_)
  ·
    exact hE () dX3_checkReplica_19 (Nat.le_of_ble_eq_true rfl) (Nat.le_of_ble_eq_true rfl) (hw.sub [] [] (by decide) rfl rfl) trivial
  ·
    exact absurd c_6 (by omega)
abbrev rmX3_checkRow : Room := { frames := 0, cells := 0, slots := 0, locals := 0 }
set_option maxHeartbeats 4000000 in
set_option maxRecDepth 100000 in
theorem c_X3_checkRow (l : Launch) (D : va_G) (sz : Nat) (w : Nat) (hw5 : w < 6) : MUv l yX3_checkRow wsX3_checkRow rmX3_checkRow [.int (nI w)] D [] ([]) sz (fun (u9 : Unit) => True) (fun u9 => []) (fun u9 => []) 0 0 := by
  refine met_v (own := RX3) (cc := cX3_checkRow) (maxL := 1) (by decide) rfl rfl (Nat.le_of_ble_eq_true rfl) ?_
  intro p e s m args below meth c Q A hsz S hmn hw hA hE ls hl
  obtain ⟨hx, hb, hml, hown, hts⟩ := id S
  have hl : lv_has ls 1 [(0, .int (nI w))] := hl
  refine lv_iload_n hx hb dX3_checkRow_0 rfl (lv_at hl 0 rfl) ?_
  refine lv_if_lt (tgt := 10) hx hb dX3_checkRow_1 (by decide) (fun h => absurd h (nI_pos (by omega))) (fun _ => ?_)
  refine lv_iload_n hx hb dX3_checkRow_4 rfl (lv_at hl 0 rfl) ?_
  refine lv_bipush (v := nI 6) hx hb dX3_checkRow_5 kc_bipush_6 ?_
  refine r_icmp_ltN (tgt := 20) hx hb (by omega) (by omega) dX3_checkRow_7 (by decide) (fun c_7 => ?_) (fun c_7 => ?_)
  ·
    exact hE () dX3_checkRow_20 (Nat.le_of_ble_eq_true rfl) (Nat.le_of_ble_eq_true rfl) (hw.sub [] [] (by decide) rfl rfl) trivial
  ·
    exact absurd c_7 (by omega)
abbrev rmX3_checkElement : Room := { frames := 0, cells := 0, slots := 0, locals := 0 }
set_option maxHeartbeats 4000000 in
set_option maxRecDepth 100000 in
theorem c_X3_checkElement (l : Launch) (D : va_G) (sz : Nat) (e9 : Nat) (he : e9 < 16) : MUv l yX3_checkElement wsX3_checkElement rmX3_checkElement [.int (nI e9)] D [] ([]) sz (fun (u9 : Unit) => True) (fun u9 => []) (fun u9 => []) 0 0 := by
  refine met_v (own := RX3) (cc := cX3_checkElement) (maxL := 1) (by decide) rfl rfl (Nat.le_of_ble_eq_true rfl) ?_
  intro p e s m args below meth c Q A hsz S hmn hw hA hE ls hl
  obtain ⟨hx, hb, hml, hown, hts⟩ := id S
  have hl : lv_has ls 1 [(0, .int (nI e9))] := hl
  refine lv_iload_n hx hb dX3_checkElement_0 rfl (lv_at hl 0 rfl) ?_
  refine lv_if_lt (tgt := 10) hx hb dX3_checkElement_1 (by decide) (fun h => absurd h (nI_pos (by omega))) (fun _ => ?_)
  refine lv_iload_n hx hb dX3_checkElement_4 rfl (lv_at hl 0 rfl) ?_
  refine lv_bipush (v := nI 16) hx hb dX3_checkElement_5 kc_bipush_16 ?_
  refine r_icmp_ltN (tgt := 20) hx hb (by omega) (by omega) dX3_checkElement_7 (by decide) (fun c_7 => ?_) (fun c_7 => ?_)
  ·
    exact hE () dX3_checkElement_20 (Nat.le_of_ble_eq_true rfl) (Nat.le_of_ble_eq_true rfl) (hw.sub [] [] (by decide) rfl rfl) trivial
  ·
    exact absurd c_7 (by omega)
abbrev rmX3_checkDifferent : Room := { frames := 0, cells := 0, slots := 0, locals := 0 }
set_option maxHeartbeats 4000000 in
set_option maxRecDepth 100000 in
theorem c_X3_checkDifferent (l : Launch) (D : va_G) (sz : Nat) (f t : Nat) (hf4 : f < 4) (ht4 : t < 4) (hne : f ≠ t) : MUv l yX3_checkDifferent wsX3_checkDifferent rmX3_checkDifferent [.int (nI f), .int (nI t)] D [] ([]) sz (fun (u9 : Unit) => True) (fun u9 => []) (fun u9 => []) 0 0 := by
  refine met_v (own := RX3) (cc := cX3_checkDifferent) (maxL := 2) (by decide) rfl rfl (Nat.le_of_ble_eq_true rfl) ?_
  intro p e s m args below meth c Q A hsz S hmn hw hA hE ls hl
  obtain ⟨hx, hb, hml, hown, hts⟩ := id S
  have hl : lv_has ls 2 [(0, .int (nI f)), (1, .int (nI t))] := hl
  refine lv_iload_n hx hb dX3_checkDifferent_0 rfl (lv_at hl 0 rfl) ?_
  refine lv_iload_n hx hb dX3_checkDifferent_1 rfl (lv_at hl 1 rfl) ?_
  refine r_icmp_neN (tgt := 15) hx hb (by omega) (by omega) dX3_checkDifferent_2 (by decide) (fun c_2 => ?_) (fun c_2 => ?_)
  ·
    exact hE () dX3_checkDifferent_15 (Nat.le_of_ble_eq_true rfl) (Nat.le_of_ble_eq_true rfl) (hw.sub [] [] (by decide) rfl rfl) trivial
  ·
    exact absurd c_2 hne
abbrev rmX3_latest : Room := { frames := 3, cells := 0, slots := 0, locals := 71 }
set_option maxHeartbeats 4000000 in
set_option maxRecDepth 100000 in
theorem c_X3_latest (l : Launch) (D : va_G) (sz : Nat) (cI cR cC : ClassId) (x9 : Nat) (q : Nat → Nat) (st : St) (h9 : Nat → Nat) (ad : Nat → Nat → Nat) (sv : Nat → St) (ol n7 n8 : Nat) (t9 : Nat → Nat) (tx : Nat → Nat) (ln po : Nat) (ki rp tg nu : Int32) (r w : Nat) (hh : hI ol n7 n8) (hr : r < 4) (hw5 : w < 6) : MXi l yX3_latest wsX3_latest rmX3_latest [.ref x9, .int (nI r), .int (nI w)] D [(cI, .int), (cR, .object RX1), (cC, .char)] ([(x9, .inr (3, [.ref (q 0), .ref (h9 0), .ref (t9 0)]))] ++ wS cI q st ++ wR cR h9 (fr7 ad n8) ol n7 ++ wT cC t9 tx ln po ki rp tg nu ++ wP cI ad sv n8) sz (fun rz (u9 : Unit) => rz = (ltE st (r * 480 + w * 80 + 0 * 4) 4).2) (fun u9 => []) (fun u9 => [(x9, .inr (3, [.ref (q 0), .ref (h9 0), .ref (t9 0)]))] ++ wS cI q st ++ wR cR h9 (fr7 ad n8) ol n7 ++ wT cC t9 tx ln po ki rp tg nu ++ wP cI ad sv n8) 0 0 := by
  refine met_xu (own := RX3) (cc := cX3_latest) (maxL := 3) (ty := .int) (by decide) rfl rfl (Nat.le_of_ble_eq_true rfl) ?_
  intro p e s m args below meth c Q A hsz S hz hw hA hE ls hl
  obtain ⟨hx, hb, hml, hown, hts⟩ := id S
  have k10 := hts (.fieldLink RX3 10 "CausalTable" "state" "LCausalTable$State;") (by decide +kernel)
  have hin3 := (show ∀ w ∈ wsX30, w ∈ wsX3_latest by decide +kernel)
  have hl : lv_has ls 3 [(0, .ref x9), (1, .int (nI r)), (2, .int (nI w))] := hl
  refine lv_iload_n hx hb dX3_latest_0 rfl (lv_at hl 1 rfl) ?_
  refine cp_Sv (As := [.int (nI r)]) (rest := []) S (c_X3_checkReplica l D (sz := s.heap.size) (r := r) (hr := by omega)) (va_cwS 1 hts gX3_latest_X3_checkReplica rfl rfl rfl (by decide +kernel) ⟨Nat.le_of_ble_eq_true rfl, Nat.le_of_ble_eq_true rfl⟩) hw hA rfl hl.1 (Nat.le_of_ble_eq_true rfl) ⟨Nat.le_of_ble_eq_true rfl, Nat.le_of_ble_eq_true rfl⟩ rfl dX3_latest_1 (fun H locs hw => ?_)
  have hw : Wd D A [(cI, .int), (cR, .object RX1), (cC, .char)] ([(x9, .inr (3, [.ref (q 0), .ref (h9 0), .ref (t9 0)]))] ++ wS cI q st ++ wR cR h9 (fr7 ad n8) ol n7 ++ wT cC t9 tx ln po ki rp tg nu ++ wP cI ad sv n8) s s.heap H locs := hw
  refine lv_iload_n hx hb dX3_latest_4 rfl (lv_at hl 2 rfl) ?_
  refine cp_Sv (As := [.int (nI w)]) (rest := []) S (c_X3_checkRow l D (sz := H.size) (w := w) (hw5 := by omega)) (va_cwS 1 hts gX3_latest_X3_checkRow rfl rfl rfl (by decide +kernel) ⟨Nat.le_of_ble_eq_true rfl, Nat.le_of_ble_eq_true rfl⟩) hw hA rfl hl.1 (Nat.le_of_ble_eq_true rfl) ⟨Nat.le_of_ble_eq_true rfl, Nat.le_of_ble_eq_true rfl⟩ rfl dX3_latest_5 (fun H locs hw => ?_)
  have hw : Wd D A [(cI, .int), (cR, .object RX1), (cC, .char)] ([(x9, .inr (3, [.ref (q 0), .ref (h9 0), .ref (t9 0)]))] ++ wS cI q st ++ wR cR h9 (fr7 ad n8) ol n7 ++ wT cC t9 tx ln po ki rp tg nu ++ wP cI ad sv n8) s s.heap H locs := hw
  refine lv_aload_n hx hb dX3_latest_8 rfl (lv_at hl 0 rfl) ?_
  refine r_get hx hb hts hown hw.q 0 0 hin3 rfl rfl (by decide) k10 rfl dX3_latest_9 ?_
  refine lv_iload_n hx hb dX3_latest_12 rfl (lv_at hl 1 rfl) ?_
  refine lv_iload_n hx hb dX3_latest_13 rfl (lv_at hl 2 rfl) ?_
  refine cq_V (As := [.int (nI r), .int (nI w)]) (rest := []) S (c_X1_latestValue l D (cI := cI) (q := q) (st := st) (r := r) (w := w) (hr := by omega) (hw5 := by omega)) (cwV 2 hts gX3_latest_X1_latestValue rfl rfl rfl (by decide +kernel) ⟨Nat.le_of_ble_eq_true rfl, Nat.le_of_ble_eq_true rfl⟩) (hw.q.sub [1, 2, 3, 4, 5, 6, 7] [0] rfl rfl) 0 rfl rfl rfl hl.1 (Nat.le_of_ble_eq_true rfl) ⟨Nat.le_of_ble_eq_true rfl, Nat.le_of_ble_eq_true rfl⟩ rfl dX3_latest_14 (fun r_14 e_14 => ?_)
  have e_14 : r_14 = (ltE st (r * 480 + w * 80 + 0 * 4) 4).2 := e_14
  subst e_14
  exact hE () dX3_latest_17 (rfl) (Nat.le_of_ble_eq_true rfl) (Nat.le_of_ble_eq_true rfl) ⟨⟨hw.1.1, fun k q hk => by cases hk⟩, hw.2.1, hw.2.2.1, hw.2.2.2⟩ (show (ltE st (r * 480 + w * 80 + 0 * 4) 4).2 = (ltE st (r * 480 + w * 80 + 0 * 4) 4).2 from by first | rfl | (congr <;> omega) | simp_all)
abbrev rmX3_greatest : Room := { frames := 3, cells := 0, slots := 0, locals := 69 }
set_option maxHeartbeats 4000000 in
set_option maxRecDepth 100000 in
theorem c_X3_greatest (l : Launch) (D : va_G) (sz : Nat) (cI cR cC : ClassId) (x9 : Nat) (q : Nat → Nat) (st : St) (h9 : Nat → Nat) (ad : Nat → Nat → Nat) (sv : Nat → St) (ol n7 n8 : Nat) (t9 : Nat → Nat) (tx : Nat → Nat) (ln po : Nat) (ki rp tg nu : Int32) (r w : Nat) (hh : hI ol n7 n8) (hr : r < 4) (hw5 : w < 6) : MXi l yX3_greatest wsX3_greatest rmX3_greatest [.ref x9, .int (nI r), .int (nI w)] D [(cI, .int), (cR, .object RX1), (cC, .char)] ([(x9, .inr (3, [.ref (q 0), .ref (h9 0), .ref (t9 0)]))] ++ wS cI q st ++ wR cR h9 (fr7 ad n8) ol n7 ++ wT cC t9 tx ln po ki rp tg nu ++ wP cI ad sv n8) sz (fun rz (u9 : Unit) => rz = grE st (r * 480 + w * 80 + 2 * 4) 4) (fun u9 => []) (fun u9 => [(x9, .inr (3, [.ref (q 0), .ref (h9 0), .ref (t9 0)]))] ++ wS cI q st ++ wR cR h9 (fr7 ad n8) ol n7 ++ wT cC t9 tx ln po ki rp tg nu ++ wP cI ad sv n8) 0 0 := by
  refine met_xu (own := RX3) (cc := cX3_greatest) (maxL := 3) (ty := .int) (by decide) rfl rfl (Nat.le_of_ble_eq_true rfl) ?_
  intro p e s m args below meth c Q A hsz S hz hw hA hE ls hl
  obtain ⟨hx, hb, hml, hown, hts⟩ := id S
  have k10 := hts (.fieldLink RX3 10 "CausalTable" "state" "LCausalTable$State;") (by decide +kernel)
  have hin3 := (show ∀ w ∈ wsX30, w ∈ wsX3_greatest by decide +kernel)
  have hl : lv_has ls 3 [(0, .ref x9), (1, .int (nI r)), (2, .int (nI w))] := hl
  refine lv_iload_n hx hb dX3_greatest_0 rfl (lv_at hl 1 rfl) ?_
  refine cp_Sv (As := [.int (nI r)]) (rest := []) S (c_X3_checkReplica l D (sz := s.heap.size) (r := r) (hr := by omega)) (va_cwS 1 hts gX3_greatest_X3_checkReplica rfl rfl rfl (by decide +kernel) ⟨Nat.le_of_ble_eq_true rfl, Nat.le_of_ble_eq_true rfl⟩) hw hA rfl hl.1 (Nat.le_of_ble_eq_true rfl) ⟨Nat.le_of_ble_eq_true rfl, Nat.le_of_ble_eq_true rfl⟩ rfl dX3_greatest_1 (fun H locs hw => ?_)
  have hw : Wd D A [(cI, .int), (cR, .object RX1), (cC, .char)] ([(x9, .inr (3, [.ref (q 0), .ref (h9 0), .ref (t9 0)]))] ++ wS cI q st ++ wR cR h9 (fr7 ad n8) ol n7 ++ wT cC t9 tx ln po ki rp tg nu ++ wP cI ad sv n8) s s.heap H locs := hw
  refine lv_iload_n hx hb dX3_greatest_4 rfl (lv_at hl 2 rfl) ?_
  refine cp_Sv (As := [.int (nI w)]) (rest := []) S (c_X3_checkRow l D (sz := H.size) (w := w) (hw5 := by omega)) (va_cwS 1 hts gX3_greatest_X3_checkRow rfl rfl rfl (by decide +kernel) ⟨Nat.le_of_ble_eq_true rfl, Nat.le_of_ble_eq_true rfl⟩) hw hA rfl hl.1 (Nat.le_of_ble_eq_true rfl) ⟨Nat.le_of_ble_eq_true rfl, Nat.le_of_ble_eq_true rfl⟩ rfl dX3_greatest_5 (fun H locs hw => ?_)
  have hw : Wd D A [(cI, .int), (cR, .object RX1), (cC, .char)] ([(x9, .inr (3, [.ref (q 0), .ref (h9 0), .ref (t9 0)]))] ++ wS cI q st ++ wR cR h9 (fr7 ad n8) ol n7 ++ wT cC t9 tx ln po ki rp tg nu ++ wP cI ad sv n8) s s.heap H locs := hw
  refine lv_aload_n hx hb dX3_greatest_8 rfl (lv_at hl 0 rfl) ?_
  refine r_get hx hb hts hown hw.q 0 0 hin3 rfl rfl (by decide) k10 rfl dX3_greatest_9 ?_
  refine lv_iload_n hx hb dX3_greatest_12 rfl (lv_at hl 1 rfl) ?_
  refine lv_iload_n hx hb dX3_greatest_13 rfl (lv_at hl 2 rfl) ?_
  refine cq_V (As := [.int (nI r), .int (nI w)]) (rest := []) S (c_X1_greatestValue l D (cI := cI) (q := q) (st := st) (r := r) (w := w) (hr := by omega) (hw5 := by omega)) (cwV 2 hts gX3_greatest_X1_greatestValue rfl rfl rfl (by decide +kernel) ⟨Nat.le_of_ble_eq_true rfl, Nat.le_of_ble_eq_true rfl⟩) (hw.q.sub [1, 2, 3, 4, 5, 6, 7] [0] rfl rfl) 0 rfl rfl rfl hl.1 (Nat.le_of_ble_eq_true rfl) ⟨Nat.le_of_ble_eq_true rfl, Nat.le_of_ble_eq_true rfl⟩ rfl dX3_greatest_14 (fun r_14 e_14 => ?_)
  have e_14 : r_14 = grE st (r * 480 + w * 80 + 2 * 4) 4 := e_14
  subst e_14
  exact hE () dX3_greatest_17 (rfl) (Nat.le_of_ble_eq_true rfl) (Nat.le_of_ble_eq_true rfl) ⟨⟨hw.1.1, fun k q hk => by cases hk⟩, hw.2.1, hw.2.2.1, hw.2.2.2⟩ (show grE st (r * 480 + w * 80 + 2 * 4) 4 = grE st (r * 480 + w * 80 + 2 * 4) 4 from by first | rfl | (congr <;> omega) | simp_all)
abbrev rmX3_counter : Room := { frames := 3, cells := 0, slots := 0, locals := 70 }
set_option maxHeartbeats 4000000 in
set_option maxRecDepth 100000 in
theorem c_X3_counter (l : Launch) (D : va_G) (sz : Nat) (cI cR cC : ClassId) (x9 : Nat) (q : Nat → Nat) (st : St) (h9 : Nat → Nat) (ad : Nat → Nat → Nat) (sv : Nat → St) (ol n7 n8 : Nat) (t9 : Nat → Nat) (tx : Nat → Nat) (ln po : Nat) (ki rp tg nu : Int32) (r w : Nat) (hh : hI ol n7 n8) (hr : r < 4) (hw5 : w < 6) : MXi l yX3_counter wsX3_counter rmX3_counter [.ref x9, .int (nI r), .int (nI w)] D [(cI, .int), (cR, .object RX1), (cC, .char)] ([(x9, .inr (3, [.ref (q 0), .ref (h9 0), .ref (t9 0)]))] ++ wS cI q st ++ wR cR h9 (fr7 ad n8) ol n7 ++ wT cC t9 tx ln po ki rp tg nu ++ wP cI ad sv n8) sz (fun rz (u9 : Unit) => rz = smE st (r * 480 + w * 80 + 3 * 4) (cE 3 * 4 - 3 * 4)) (fun u9 => []) (fun u9 => [(x9, .inr (3, [.ref (q 0), .ref (h9 0), .ref (t9 0)]))] ++ wS cI q st ++ wR cR h9 (fr7 ad n8) ol n7 ++ wT cC t9 tx ln po ki rp tg nu ++ wP cI ad sv n8) 0 0 := by
  refine met_xu (own := RX3) (cc := cX3_counter) (maxL := 3) (ty := .int) (by decide) rfl rfl (Nat.le_of_ble_eq_true rfl) ?_
  intro p e s m args below meth c Q A hsz S hz hw hA hE ls hl
  obtain ⟨hx, hb, hml, hown, hts⟩ := id S
  have k10 := hts (.fieldLink RX3 10 "CausalTable" "state" "LCausalTable$State;") (by decide +kernel)
  have hin3 := (show ∀ w ∈ wsX30, w ∈ wsX3_counter by decide +kernel)
  have hl : lv_has ls 3 [(0, .ref x9), (1, .int (nI r)), (2, .int (nI w))] := hl
  refine lv_iload_n hx hb dX3_counter_0 rfl (lv_at hl 1 rfl) ?_
  refine cp_Sv (As := [.int (nI r)]) (rest := []) S (c_X3_checkReplica l D (sz := s.heap.size) (r := r) (hr := by omega)) (va_cwS 1 hts gX3_counter_X3_checkReplica rfl rfl rfl (by decide +kernel) ⟨Nat.le_of_ble_eq_true rfl, Nat.le_of_ble_eq_true rfl⟩) hw hA rfl hl.1 (Nat.le_of_ble_eq_true rfl) ⟨Nat.le_of_ble_eq_true rfl, Nat.le_of_ble_eq_true rfl⟩ rfl dX3_counter_1 (fun H locs hw => ?_)
  have hw : Wd D A [(cI, .int), (cR, .object RX1), (cC, .char)] ([(x9, .inr (3, [.ref (q 0), .ref (h9 0), .ref (t9 0)]))] ++ wS cI q st ++ wR cR h9 (fr7 ad n8) ol n7 ++ wT cC t9 tx ln po ki rp tg nu ++ wP cI ad sv n8) s s.heap H locs := hw
  refine lv_iload_n hx hb dX3_counter_4 rfl (lv_at hl 2 rfl) ?_
  refine cp_Sv (As := [.int (nI w)]) (rest := []) S (c_X3_checkRow l D (sz := H.size) (w := w) (hw5 := by omega)) (va_cwS 1 hts gX3_counter_X3_checkRow rfl rfl rfl (by decide +kernel) ⟨Nat.le_of_ble_eq_true rfl, Nat.le_of_ble_eq_true rfl⟩) hw hA rfl hl.1 (Nat.le_of_ble_eq_true rfl) ⟨Nat.le_of_ble_eq_true rfl, Nat.le_of_ble_eq_true rfl⟩ rfl dX3_counter_5 (fun H locs hw => ?_)
  have hw : Wd D A [(cI, .int), (cR, .object RX1), (cC, .char)] ([(x9, .inr (3, [.ref (q 0), .ref (h9 0), .ref (t9 0)]))] ++ wS cI q st ++ wR cR h9 (fr7 ad n8) ol n7 ++ wT cC t9 tx ln po ki rp tg nu ++ wP cI ad sv n8) s s.heap H locs := hw
  refine lv_aload_n hx hb dX3_counter_8 rfl (lv_at hl 0 rfl) ?_
  refine r_get hx hb hts hown hw.q 0 0 hin3 rfl rfl (by decide) k10 rfl dX3_counter_9 ?_
  refine lv_iload_n hx hb dX3_counter_12 rfl (lv_at hl 1 rfl) ?_
  refine lv_iload_n hx hb dX3_counter_13 rfl (lv_at hl 2 rfl) ?_
  refine lv_iconst (v := nI 3) hx hb dX3_counter_14 kc_iconst_3 ?_
  refine cq_V (As := [.int (nI r), .int (nI w), .int (nI 3)]) (rest := []) S (c_X1_sumOfCell l D (cI := cI) (q := q) (st := st) (r := r) (w := w) (g := 3) (hr := by omega) (hw5 := by omega) (hg := by omega)) (cwV 3 hts gX3_counter_X1_sumOfCell rfl rfl rfl (by decide +kernel) ⟨Nat.le_of_ble_eq_true rfl, Nat.le_of_ble_eq_true rfl⟩) (hw.q.sub [1, 2, 3, 4, 5, 6, 7] [0] rfl rfl) 0 rfl rfl rfl hl.1 (Nat.le_of_ble_eq_true rfl) ⟨Nat.le_of_ble_eq_true rfl, Nat.le_of_ble_eq_true rfl⟩ rfl dX3_counter_15 (fun r_15 e_15 => ?_)
  have e_15 : r_15 = smE st (r * 480 + w * 80 + 3 * 4) (cE 3 * 4 - 3 * 4) := e_15
  subst e_15
  exact hE () dX3_counter_18 (rfl) (Nat.le_of_ble_eq_true rfl) (Nat.le_of_ble_eq_true rfl) ⟨⟨hw.1.1, fun k q hk => by cases hk⟩, hw.2.1, hw.2.2.1, hw.2.2.2⟩ (show smE st (r * 480 + w * 80 + 3 * 4) (cE 3 * 4 - 3 * 4) = smE st (r * 480 + w * 80 + 3 * 4) (cE 3 * 4 - 3 * 4) from by first | rfl | (congr <;> omega) | simp_all)
abbrev rmX3_elements : Room := { frames := 3, cells := 0, slots := 0, locals := 69 }
set_option maxHeartbeats 4000000 in
set_option maxRecDepth 100000 in
theorem c_X3_elements (l : Launch) (D : va_G) (sz : Nat) (cI cR cC : ClassId) (x9 : Nat) (q : Nat → Nat) (st : St) (h9 : Nat → Nat) (ad : Nat → Nat → Nat) (sv : Nat → St) (ol n7 n8 : Nat) (t9 : Nat → Nat) (tx : Nat → Nat) (ln po : Nat) (ki rp tg nu : Int32) (r w : Nat) (hh : hI ol n7 n8) (hr : r < 4) (hw5 : w < 6) : MXi l yX3_elements wsX3_elements rmX3_elements [.ref x9, .int (nI r), .int (nI w)] D [(cI, .int), (cR, .object RX1), (cC, .char)] ([(x9, .inr (3, [.ref (q 0), .ref (h9 0), .ref (t9 0)]))] ++ wS cI q st ++ wR cR h9 (fr7 ad n8) ol n7 ++ wT cC t9 tx ln po ki rp tg nu ++ wP cI ad sv n8) sz (fun rz (u9 : Unit) => rz = ebE st (r * 480 + w * 80 + 4 * 4) 64) (fun u9 => []) (fun u9 => [(x9, .inr (3, [.ref (q 0), .ref (h9 0), .ref (t9 0)]))] ++ wS cI q st ++ wR cR h9 (fr7 ad n8) ol n7 ++ wT cC t9 tx ln po ki rp tg nu ++ wP cI ad sv n8) 0 0 := by
  refine met_xu (own := RX3) (cc := cX3_elements) (maxL := 3) (ty := .int) (by decide) rfl rfl (Nat.le_of_ble_eq_true rfl) ?_
  intro p e s m args below meth c Q A hsz S hz hw hA hE ls hl
  obtain ⟨hx, hb, hml, hown, hts⟩ := id S
  have k10 := hts (.fieldLink RX3 10 "CausalTable" "state" "LCausalTable$State;") (by decide +kernel)
  have hin3 := (show ∀ w ∈ wsX30, w ∈ wsX3_elements by decide +kernel)
  have hl : lv_has ls 3 [(0, .ref x9), (1, .int (nI r)), (2, .int (nI w))] := hl
  refine lv_iload_n hx hb dX3_elements_0 rfl (lv_at hl 1 rfl) ?_
  refine cp_Sv (As := [.int (nI r)]) (rest := []) S (c_X3_checkReplica l D (sz := s.heap.size) (r := r) (hr := by omega)) (va_cwS 1 hts gX3_elements_X3_checkReplica rfl rfl rfl (by decide +kernel) ⟨Nat.le_of_ble_eq_true rfl, Nat.le_of_ble_eq_true rfl⟩) hw hA rfl hl.1 (Nat.le_of_ble_eq_true rfl) ⟨Nat.le_of_ble_eq_true rfl, Nat.le_of_ble_eq_true rfl⟩ rfl dX3_elements_1 (fun H locs hw => ?_)
  have hw : Wd D A [(cI, .int), (cR, .object RX1), (cC, .char)] ([(x9, .inr (3, [.ref (q 0), .ref (h9 0), .ref (t9 0)]))] ++ wS cI q st ++ wR cR h9 (fr7 ad n8) ol n7 ++ wT cC t9 tx ln po ki rp tg nu ++ wP cI ad sv n8) s s.heap H locs := hw
  refine lv_iload_n hx hb dX3_elements_4 rfl (lv_at hl 2 rfl) ?_
  refine cp_Sv (As := [.int (nI w)]) (rest := []) S (c_X3_checkRow l D (sz := H.size) (w := w) (hw5 := by omega)) (va_cwS 1 hts gX3_elements_X3_checkRow rfl rfl rfl (by decide +kernel) ⟨Nat.le_of_ble_eq_true rfl, Nat.le_of_ble_eq_true rfl⟩) hw hA rfl hl.1 (Nat.le_of_ble_eq_true rfl) ⟨Nat.le_of_ble_eq_true rfl, Nat.le_of_ble_eq_true rfl⟩ rfl dX3_elements_5 (fun H locs hw => ?_)
  have hw : Wd D A [(cI, .int), (cR, .object RX1), (cC, .char)] ([(x9, .inr (3, [.ref (q 0), .ref (h9 0), .ref (t9 0)]))] ++ wS cI q st ++ wR cR h9 (fr7 ad n8) ol n7 ++ wT cC t9 tx ln po ki rp tg nu ++ wP cI ad sv n8) s s.heap H locs := hw
  refine lv_aload_n hx hb dX3_elements_8 rfl (lv_at hl 0 rfl) ?_
  refine r_get hx hb hts hown hw.q 0 0 hin3 rfl rfl (by decide) k10 rfl dX3_elements_9 ?_
  refine lv_iload_n hx hb dX3_elements_12 rfl (lv_at hl 1 rfl) ?_
  refine lv_iload_n hx hb dX3_elements_13 rfl (lv_at hl 2 rfl) ?_
  refine cq_V (As := [.int (nI r), .int (nI w)]) (rest := []) S (c_X1_elementBits l D (cI := cI) (q := q) (st := st) (r := r) (w := w) (hr := by omega) (hw5 := by omega)) (cwV 2 hts gX3_elements_X1_elementBits rfl rfl rfl (by decide +kernel) ⟨Nat.le_of_ble_eq_true rfl, Nat.le_of_ble_eq_true rfl⟩) (hw.q.sub [1, 2, 3, 4, 5, 6, 7] [0] rfl rfl) 0 rfl rfl rfl hl.1 (Nat.le_of_ble_eq_true rfl) ⟨Nat.le_of_ble_eq_true rfl, Nat.le_of_ble_eq_true rfl⟩ rfl dX3_elements_14 (fun r_14 e_14 => ?_)
  have e_14 : r_14 = ebE st (r * 480 + w * 80 + 4 * 4) 64 := e_14
  subst e_14
  exact hE () dX3_elements_17 (rfl) (Nat.le_of_ble_eq_true rfl) (Nat.le_of_ble_eq_true rfl) ⟨⟨hw.1.1, fun k q hk => by cases hk⟩, hw.2.1, hw.2.2.1, hw.2.2.2⟩ (show ebE st (r * 480 + w * 80 + 4 * 4) 64 = ebE st (r * 480 + w * 80 + 4 * 4) 64 from by first | rfl | (congr <;> omega) | simp_all)
abbrev rmX3_exists : Room := { frames := 2, cells := 0, slots := 0, locals := 46 }
set_option maxHeartbeats 4000000 in
set_option maxRecDepth 100000 in
theorem c_X3_exists (l : Launch) (D : va_G) (sz : Nat) (cI cR cC : ClassId) (x9 : Nat) (q : Nat → Nat) (st : St) (h9 : Nat → Nat) (ad : Nat → Nat → Nat) (sv : Nat → St) (ol n7 n8 : Nat) (t9 : Nat → Nat) (tx : Nat → Nat) (ln po : Nat) (ki rp tg nu : Int32) (r w : Nat) (hh : hI ol n7 n8) (hr : r < 4) (hw5 : w < 6) : MXi l yX3_exists wsX3_exists rmX3_exists [.ref x9, .int (nI r), .int (nI w)] D [(cI, .int), (cR, .object RX1), (cC, .char)] ([(x9, .inr (3, [.ref (q 0), .ref (h9 0), .ref (t9 0)]))] ++ wS cI q st ++ wR cR h9 (fr7 ad n8) ol n7 ++ wT cC t9 tx ln po ki rp tg nu ++ wP cI ad sv n8) sz (fun rz (u9 : Unit) => rz = b2 (0 < cntE st.1 (r * 480 + w * 80 + 0 * 4) 80)) (fun u9 => []) (fun u9 => [(x9, .inr (3, [.ref (q 0), .ref (h9 0), .ref (t9 0)]))] ++ wS cI q st ++ wR cR h9 (fr7 ad n8) ol n7 ++ wT cC t9 tx ln po ki rp tg nu ++ wP cI ad sv n8) 0 0 := by
  refine met_xu (own := RX3) (cc := cX3_exists) (maxL := 3) (ty := .boolean) (by decide) rfl rfl (Nat.le_of_ble_eq_true rfl) ?_
  intro p e s m args below meth c Q A hsz S hz hw hA hE ls hl
  obtain ⟨hx, hb, hml, hown, hts⟩ := id S
  have k10 := hts (.fieldLink RX3 10 "CausalTable" "state" "LCausalTable$State;") (by decide +kernel)
  have hin3 := (show ∀ w ∈ wsX30, w ∈ wsX3_exists by decide +kernel)
  have hl : lv_has ls 3 [(0, .ref x9), (1, .int (nI r)), (2, .int (nI w))] := hl
  refine lv_iload_n hx hb dX3_exists_0 rfl (lv_at hl 1 rfl) ?_
  refine cp_Sv (As := [.int (nI r)]) (rest := []) S (c_X3_checkReplica l D (sz := s.heap.size) (r := r) (hr := by omega)) (va_cwS 1 hts gX3_exists_X3_checkReplica rfl rfl rfl (by decide +kernel) ⟨Nat.le_of_ble_eq_true rfl, Nat.le_of_ble_eq_true rfl⟩) hw hA rfl hl.1 (Nat.le_of_ble_eq_true rfl) ⟨Nat.le_of_ble_eq_true rfl, Nat.le_of_ble_eq_true rfl⟩ rfl dX3_exists_1 (fun H locs hw => ?_)
  have hw : Wd D A [(cI, .int), (cR, .object RX1), (cC, .char)] ([(x9, .inr (3, [.ref (q 0), .ref (h9 0), .ref (t9 0)]))] ++ wS cI q st ++ wR cR h9 (fr7 ad n8) ol n7 ++ wT cC t9 tx ln po ki rp tg nu ++ wP cI ad sv n8) s s.heap H locs := hw
  refine lv_iload_n hx hb dX3_exists_4 rfl (lv_at hl 2 rfl) ?_
  refine cp_Sv (As := [.int (nI w)]) (rest := []) S (c_X3_checkRow l D (sz := H.size) (w := w) (hw5 := by omega)) (va_cwS 1 hts gX3_exists_X3_checkRow rfl rfl rfl (by decide +kernel) ⟨Nat.le_of_ble_eq_true rfl, Nat.le_of_ble_eq_true rfl⟩) hw hA rfl hl.1 (Nat.le_of_ble_eq_true rfl) ⟨Nat.le_of_ble_eq_true rfl, Nat.le_of_ble_eq_true rfl⟩ rfl dX3_exists_5 (fun H locs hw => ?_)
  have hw : Wd D A [(cI, .int), (cR, .object RX1), (cC, .char)] ([(x9, .inr (3, [.ref (q 0), .ref (h9 0), .ref (t9 0)]))] ++ wS cI q st ++ wR cR h9 (fr7 ad n8) ol n7 ++ wT cC t9 tx ln po ki rp tg nu ++ wP cI ad sv n8) s s.heap H locs := hw
  refine lv_aload_n hx hb dX3_exists_8 rfl (lv_at hl 0 rfl) ?_
  refine r_get hx hb hts hown hw.q 0 0 hin3 rfl rfl (by decide) k10 rfl dX3_exists_9 ?_
  refine lv_iload_n hx hb dX3_exists_12 rfl (lv_at hl 1 rfl) ?_
  refine lv_iload_n hx hb dX3_exists_13 rfl (lv_at hl 2 rfl) ?_
  refine cq_V (As := [.int (nI r), .int (nI w)]) (rest := []) S (c_X1_holdsRow l D (cI := cI) (q := q) (st := st) (r := r) (w := w) (hr := by omega) (hw5 := by omega)) (cwV 2 hts gX3_exists_X1_holdsRow rfl rfl rfl (by decide +kernel) ⟨Nat.le_of_ble_eq_true rfl, Nat.le_of_ble_eq_true rfl⟩) (hw.q.sub [1, 2, 3, 4, 5, 6, 7] [0] rfl rfl) 0 rfl rfl rfl hl.1 (Nat.le_of_ble_eq_true rfl) ⟨Nat.le_of_ble_eq_true rfl, Nat.le_of_ble_eq_true rfl⟩ rfl dX3_exists_14 (fun r_14 e_14 => ?_)
  have e_14 : r_14 = b2 (0 < cntE st.1 (r * 480 + w * 80 + 0 * 4) 80) := e_14
  subst e_14
  exact hE () dX3_exists_17 (by first | rfl | exact b2_nz) (Nat.le_of_ble_eq_true rfl) (Nat.le_of_ble_eq_true rfl) ⟨⟨hw.1.1, fun k q hk => by cases hk⟩, hw.2.1, hw.2.2.1, hw.2.2.2⟩ (show b2 (0 < cntE st.1 (r * 480 + w * 80 + 0 * 4) 80) = b2 (0 < cntE st.1 (r * 480 + w * 80 + 0 * 4) 80) from by first | rfl | (congr <;> omega) | simp_all)
abbrev rmX3_include : Room := { frames := 4, cells := 7, slots := 5790, locals := 122 }
set_option maxHeartbeats 4000000 in
set_option maxRecDepth 100000 in
theorem c_X3_include (l : Launch) (D : va_G) (sz : Nat) (cI cR cC : ClassId) (x9 : Nat) (q : Nat → Nat) (st : St) (h9 : Nat → Nat) (ad : Nat → Nat → Nat) (sv : Nat → St) (ol n7 n8 : Nat) (t9 : Nat → Nat) (tx : Nat → Nat) (ln po : Nat) (ki rp tg nu : Int32) (r w e9 : Nat) (hh : hI ol n7 n8) (hr : r < 4) (hw5 : w < 6) (he : e9 < 16) : MXi l yX3_include wsX3_include rmX3_include [.ref x9, .int (nI r), .int (nI w), .int (nI e9)] D [(cI, .int), (cR, .object RX1), (cC, .char)] ([(x9, .inr (3, [.ref (q 0), .ref (h9 0), .ref (t9 0)]))] ++ wS cI q st ++ wR cR h9 (fr7 ad n8) ol n7 ++ wT cC t9 tx ln po ki rp tg nu ++ wP cI ad sv n8) sz (fun rz (u9 : Nat × (Nat → Nat → Nat)) => rz = nI (cntE st.1 (r * 480 + w * 80 + (4 + e9) * 4) 4) ∧ hI (olN ol n7) (n7N n7) u9.1) (fun u9 => []) (fun u9 => [(x9, .inr (3, [.ref (q 0), .ref (h9 0), .ref (t9 0)]))] ++ wS cI q (incS st r w e9) ++ wR cR h9 (fr7 u9.2 u9.1) (olN ol n7) (n7N n7) ++ wT cC t9 tx ln po ki rp tg nu ++ wP cI u9.2 (va_up sv (slN ol n7) st) u9.1) 7 5790 := by
  refine met_xu (own := RX3) (cc := cX3_include) (maxL := 4) (ty := .int) (by decide) rfl rfl (Nat.le_of_ble_eq_true rfl) ?_
  intro p e s m args below meth c Q A hsz S hz hw hA hE ls hl
  obtain ⟨hx, hb, hml, hown, hts⟩ := id S
  have k19 := hts (.fieldLink RX3 19 "CausalTable" "history" "LCausalTable$History;") (by decide +kernel)
  have hin3 := (show ∀ w ∈ wsX30, w ∈ wsX3_include by decide +kernel)
  have k10 := hts (.fieldLink RX3 10 "CausalTable" "state" "LCausalTable$State;") (by decide +kernel)
  have hl : lv_has ls 4 [(0, .ref x9), (1, .int (nI r)), (2, .int (nI w)), (3, .int (nI e9))] := hl
  refine lv_iload_n hx hb dX3_include_0 rfl (lv_at hl 1 rfl) ?_
  refine cp_Sv (As := [.int (nI r)]) (rest := []) S (c_X3_checkReplica l D (sz := s.heap.size) (r := r) (hr := by omega)) (va_cwS 1 hts gX3_include_X3_checkReplica rfl rfl rfl (by decide +kernel) ⟨Nat.le_of_ble_eq_true rfl, Nat.le_of_ble_eq_true rfl⟩) hw hA rfl hl.1 (Nat.le_of_ble_eq_true rfl) ⟨Nat.le_of_ble_eq_true rfl, Nat.le_of_ble_eq_true rfl⟩ rfl dX3_include_1 (fun H locs hw => ?_)
  have hw : Wd D A [(cI, .int), (cR, .object RX1), (cC, .char)] ([(x9, .inr (3, [.ref (q 0), .ref (h9 0), .ref (t9 0)]))] ++ wS cI q st ++ wR cR h9 (fr7 ad n8) ol n7 ++ wT cC t9 tx ln po ki rp tg nu ++ wP cI ad sv n8) s s.heap H locs := hw
  refine lv_iload_n hx hb dX3_include_4 rfl (lv_at hl 2 rfl) ?_
  refine cp_Sv (As := [.int (nI w)]) (rest := []) S (c_X3_checkRow l D (sz := H.size) (w := w) (hw5 := by omega)) (va_cwS 1 hts gX3_include_X3_checkRow rfl rfl rfl (by decide +kernel) ⟨Nat.le_of_ble_eq_true rfl, Nat.le_of_ble_eq_true rfl⟩) hw hA rfl hl.1 (Nat.le_of_ble_eq_true rfl) ⟨Nat.le_of_ble_eq_true rfl, Nat.le_of_ble_eq_true rfl⟩ rfl dX3_include_5 (fun H locs hw => ?_)
  have hw : Wd D A [(cI, .int), (cR, .object RX1), (cC, .char)] ([(x9, .inr (3, [.ref (q 0), .ref (h9 0), .ref (t9 0)]))] ++ wS cI q st ++ wR cR h9 (fr7 ad n8) ol n7 ++ wT cC t9 tx ln po ki rp tg nu ++ wP cI ad sv n8) s s.heap H locs := hw
  refine lv_iload_n hx hb dX3_include_8 rfl (lv_at hl 3 rfl) ?_
  refine cp_Sv (As := [.int (nI e9)]) (rest := []) S (c_X3_checkElement l D (sz := H.size) (e9 := e9) (he := by omega)) (va_cwS 1 hts gX3_include_X3_checkElement rfl rfl rfl (by decide +kernel) ⟨Nat.le_of_ble_eq_true rfl, Nat.le_of_ble_eq_true rfl⟩) hw hA rfl hl.1 (Nat.le_of_ble_eq_true rfl) ⟨Nat.le_of_ble_eq_true rfl, Nat.le_of_ble_eq_true rfl⟩ rfl dX3_include_9 (fun H locs hw => ?_)
  have hw : Wd D A [(cI, .int), (cR, .object RX1), (cC, .char)] ([(x9, .inr (3, [.ref (q 0), .ref (h9 0), .ref (t9 0)]))] ++ wS cI q st ++ wR cR h9 (fr7 ad n8) ol n7 ++ wT cC t9 tx ln po ki rp tg nu ++ wP cI ad sv n8) s s.heap H locs := hw
  refine lv_aload_n hx hb dX3_include_12 rfl (lv_at hl 0 rfl) ?_
  refine r_get hx hb hts hown hw.q 0 1 hin3 rfl rfl (by decide) k19 rfl dX3_include_13 ?_
  refine lv_aload_n hx hb dX3_include_16 rfl (lv_at hl 0 rfl) ?_
  refine r_get hx hb hts hown hw.q 0 0 hin3 rfl rfl (by decide) k10 rfl dX3_include_17 ?_
  refine cp_Vx (w1 := fun (u9 : Nat × (Nat → Nat → Nat)) => wR cR h9 (fr7 u9.2 u9.1) (olN ol n7) (n7N n7) ++ wS cI q st) (pl := fun (u9 : Nat × (Nat → Nat → Nat)) => wP cI u9.2 (va_up sv (slN ol n7) st) u9.1) (As := [.ref (q 0)]) (rest := []) (wc := wR cR h9 (fr7 ad n8) ol n7 ++ wS cI q st) (wr := [(x9, .inr (3, [.ref (q 0), .ref (h9 0), .ref (t9 0)]))] ++ wT cC t9 tx ln po ki rp tg nu) S hz (c_X0_save l D (sz := H.size) (cI := cI) (cR := cR) (h9 := h9) (ad := ad) (sv := sv) (ol := ol) (n7 := n7) (m := n8) (q := q) (st := st) (hh := hh)) (cwV 1 hts gX3_include_X0_save rfl rfl rfl (by decide +kernel) ⟨Nat.le_of_ble_eq_true rfl, Nat.le_of_ble_eq_true rfl⟩) hw hA [8, 9, 1, 2, 3, 4, 5, 6, 7] [0, 10, 11] [0, 1] rfl rfl (k0 := 12) rfl (by decide) rfl 0 rfl rfl rfl hl.1 (Nat.le_of_ble_eq_true rfl) ⟨Nat.le_of_ble_eq_true rfl, Nat.le_of_ble_eq_true rfl⟩ rfl dX3_include_20 (fun u_20 H locs e_20 hw => ?_)
  obtain ⟨u0_20, u1_20⟩ := u_20
  have hw : Wd D A [(cI, .int), (cR, .object RX1), (cC, .char)] (wR cR h9 (fr7 u1_20 u0_20) (olN ol n7) (n7N n7) ++ wS cI q st ++ [(x9, .inr (3, [.ref (q 0), .ref (h9 0), .ref (t9 0)]))] ++ wT cC t9 tx ln po ki rp tg nu ++ wP cI u1_20 (va_up sv (slN ol n7) st) u0_20) s s.heap H locs := hw
  refine lv_aload_n hx hb dX3_include_23 rfl (lv_at hl 0 rfl) ?_
  refine r_get hx hb hts hown hw.q 9 0 hin3 rfl rfl (by decide) k10 rfl dX3_include_24 ?_
  refine lv_iload_n hx hb dX3_include_27 rfl (lv_at hl 1 rfl) ?_
  refine lv_iload_n hx hb dX3_include_28 rfl (lv_at hl 2 rfl) ?_
  refine lv_iload_n hx hb dX3_include_29 rfl (lv_at hl 3 rfl) ?_
  refine cp_Vi (As := [.int (nI r), .int (nI w), .int (nI e9)]) (rest := []) (wc := wS cI q st) (wr := wR cR h9 (fr7 u1_20 u0_20) (olN ol n7) (n7N n7) ++ [(x9, .inr (3, [.ref (q 0), .ref (h9 0), .ref (t9 0)]))] ++ wT cC t9 tx ln po ki rp tg nu) S (c_X1_includeElement l D (sz := H.size) (cI := cI) (q := q) (st := st) (r := r) (w := w) (e9 := e9) (hr := by omega) (hw5 := by omega) (he := by omega)) (cwV 3 hts gX3_include_X1_includeElement rfl rfl rfl (by decide +kernel) ⟨Nat.le_of_ble_eq_true rfl, Nat.le_of_ble_eq_true rfl⟩) hw hA [2, 3, 4, 5, 6, 7, 8] [0, 1, 9, 10, 11] [0] rfl rfl (k0 := 12) rfl (by decide) rfl 0 rfl rfl rfl hl.1 (Nat.le_of_ble_eq_true rfl) ⟨Nat.le_of_ble_eq_true rfl, Nat.le_of_ble_eq_true rfl⟩ rfl dX3_include_30 (fun r_30 u_30 H locs e_30 hw => ?_)
  have hw : Wd D A [(cI, .int), (cR, .object RX1), (cC, .char)] (wS cI q (incS st r w e9) ++ wR cR h9 (fr7 u1_20 u0_20) (olN ol n7) (n7N n7) ++ [(x9, .inr (3, [.ref (q 0), .ref (h9 0), .ref (t9 0)]))] ++ wT cC t9 tx ln po ki rp tg nu ++ wP cI u1_20 (va_up sv (slN ol n7) st) u0_20) s s.heap H locs := hw
  have e_30 : r_30 = nI (cntE st.1 (r * 480 + w * 80 + (4 + e9) * 4) 4) := e_30
  subst e_30
  have hw : Wd D A [(cI, .int), (cR, .object RX1), (cC, .char)] ([(x9, .inr (3, [.ref (q 0), .ref (h9 0), .ref (t9 0)]))] ++ wS cI q (incS st r w e9) ++ wR cR h9 (fr7 u1_20 u0_20) (olN ol n7) (n7N n7) ++ wT cC t9 tx ln po ki rp tg nu ++ wP cI u1_20 (va_up sv (slN ol n7) st) u0_20) s s.heap H locs := hw.ord [9, 0, 1, 2, 3, 4, 5, 6, 7, 8, 10, 11] (k0 := 12) rfl rfl (by decide)
  exact hE (u0_20, u1_20) dX3_include_33 (rfl) (Nat.le_of_ble_eq_true rfl) (Nat.le_of_ble_eq_true rfl) ⟨⟨hw.1.1, fun k q hk => by cases hk⟩, hw.2.1, hw.2.2.1, hw.2.2.2⟩ (⟨show nI (cntE st.1 (r * 480 + w * 80 + (4 + e9) * 4) 4) = nI (cntE st.1 (r * 480 + w * 80 + (4 + e9) * 4) 4) from by first | rfl | (congr <;> omega) | simp_all, e_20⟩)
abbrev rmX3_exclude : Room := { frames := 4, cells := 7, slots := 5790, locals := 122 }
set_option maxHeartbeats 4000000 in
set_option maxRecDepth 100000 in
theorem c_X3_exclude (l : Launch) (D : va_G) (sz : Nat) (cI cR cC : ClassId) (x9 : Nat) (q : Nat → Nat) (st : St) (h9 : Nat → Nat) (ad : Nat → Nat → Nat) (sv : Nat → St) (ol n7 n8 : Nat) (t9 : Nat → Nat) (tx : Nat → Nat) (ln po : Nat) (ki rp tg nu : Int32) (r w e9 : Nat) (hh : hI ol n7 n8) (hr : r < 4) (hw5 : w < 6) (he : e9 < 16) : MXi l yX3_exclude wsX3_exclude rmX3_exclude [.ref x9, .int (nI r), .int (nI w), .int (nI e9)] D [(cI, .int), (cR, .object RX1), (cC, .char)] ([(x9, .inr (3, [.ref (q 0), .ref (h9 0), .ref (t9 0)]))] ++ wS cI q st ++ wR cR h9 (fr7 ad n8) ol n7 ++ wT cC t9 tx ln po ki rp tg nu ++ wP cI ad sv n8) sz (fun rz (u9 : Nat × (Nat → Nat → Nat)) => rz = nI (cntE st.1 (r * 480 + w * 80 + (4 + e9) * 4) 4) ∧ hI (olN ol n7) (n7N n7) u9.1) (fun u9 => []) (fun u9 => [(x9, .inr (3, [.ref (q 0), .ref (h9 0), .ref (t9 0)]))] ++ wS cI q (excS st r w e9) ++ wR cR h9 (fr7 u9.2 u9.1) (olN ol n7) (n7N n7) ++ wT cC t9 tx ln po ki rp tg nu ++ wP cI u9.2 (va_up sv (slN ol n7) st) u9.1) 7 5790 := by
  refine met_xu (own := RX3) (cc := cX3_exclude) (maxL := 4) (ty := .int) (by decide) rfl rfl (Nat.le_of_ble_eq_true rfl) ?_
  intro p e s m args below meth c Q A hsz S hz hw hA hE ls hl
  obtain ⟨hx, hb, hml, hown, hts⟩ := id S
  have k19 := hts (.fieldLink RX3 19 "CausalTable" "history" "LCausalTable$History;") (by decide +kernel)
  have hin3 := (show ∀ w ∈ wsX30, w ∈ wsX3_exclude by decide +kernel)
  have k10 := hts (.fieldLink RX3 10 "CausalTable" "state" "LCausalTable$State;") (by decide +kernel)
  have hl : lv_has ls 4 [(0, .ref x9), (1, .int (nI r)), (2, .int (nI w)), (3, .int (nI e9))] := hl
  refine lv_iload_n hx hb dX3_exclude_0 rfl (lv_at hl 1 rfl) ?_
  refine cp_Sv (As := [.int (nI r)]) (rest := []) S (c_X3_checkReplica l D (sz := s.heap.size) (r := r) (hr := by omega)) (va_cwS 1 hts gX3_exclude_X3_checkReplica rfl rfl rfl (by decide +kernel) ⟨Nat.le_of_ble_eq_true rfl, Nat.le_of_ble_eq_true rfl⟩) hw hA rfl hl.1 (Nat.le_of_ble_eq_true rfl) ⟨Nat.le_of_ble_eq_true rfl, Nat.le_of_ble_eq_true rfl⟩ rfl dX3_exclude_1 (fun H locs hw => ?_)
  have hw : Wd D A [(cI, .int), (cR, .object RX1), (cC, .char)] ([(x9, .inr (3, [.ref (q 0), .ref (h9 0), .ref (t9 0)]))] ++ wS cI q st ++ wR cR h9 (fr7 ad n8) ol n7 ++ wT cC t9 tx ln po ki rp tg nu ++ wP cI ad sv n8) s s.heap H locs := hw
  refine lv_iload_n hx hb dX3_exclude_4 rfl (lv_at hl 2 rfl) ?_
  refine cp_Sv (As := [.int (nI w)]) (rest := []) S (c_X3_checkRow l D (sz := H.size) (w := w) (hw5 := by omega)) (va_cwS 1 hts gX3_exclude_X3_checkRow rfl rfl rfl (by decide +kernel) ⟨Nat.le_of_ble_eq_true rfl, Nat.le_of_ble_eq_true rfl⟩) hw hA rfl hl.1 (Nat.le_of_ble_eq_true rfl) ⟨Nat.le_of_ble_eq_true rfl, Nat.le_of_ble_eq_true rfl⟩ rfl dX3_exclude_5 (fun H locs hw => ?_)
  have hw : Wd D A [(cI, .int), (cR, .object RX1), (cC, .char)] ([(x9, .inr (3, [.ref (q 0), .ref (h9 0), .ref (t9 0)]))] ++ wS cI q st ++ wR cR h9 (fr7 ad n8) ol n7 ++ wT cC t9 tx ln po ki rp tg nu ++ wP cI ad sv n8) s s.heap H locs := hw
  refine lv_iload_n hx hb dX3_exclude_8 rfl (lv_at hl 3 rfl) ?_
  refine cp_Sv (As := [.int (nI e9)]) (rest := []) S (c_X3_checkElement l D (sz := H.size) (e9 := e9) (he := by omega)) (va_cwS 1 hts gX3_exclude_X3_checkElement rfl rfl rfl (by decide +kernel) ⟨Nat.le_of_ble_eq_true rfl, Nat.le_of_ble_eq_true rfl⟩) hw hA rfl hl.1 (Nat.le_of_ble_eq_true rfl) ⟨Nat.le_of_ble_eq_true rfl, Nat.le_of_ble_eq_true rfl⟩ rfl dX3_exclude_9 (fun H locs hw => ?_)
  have hw : Wd D A [(cI, .int), (cR, .object RX1), (cC, .char)] ([(x9, .inr (3, [.ref (q 0), .ref (h9 0), .ref (t9 0)]))] ++ wS cI q st ++ wR cR h9 (fr7 ad n8) ol n7 ++ wT cC t9 tx ln po ki rp tg nu ++ wP cI ad sv n8) s s.heap H locs := hw
  refine lv_aload_n hx hb dX3_exclude_12 rfl (lv_at hl 0 rfl) ?_
  refine r_get hx hb hts hown hw.q 0 1 hin3 rfl rfl (by decide) k19 rfl dX3_exclude_13 ?_
  refine lv_aload_n hx hb dX3_exclude_16 rfl (lv_at hl 0 rfl) ?_
  refine r_get hx hb hts hown hw.q 0 0 hin3 rfl rfl (by decide) k10 rfl dX3_exclude_17 ?_
  refine cp_Vx (w1 := fun (u9 : Nat × (Nat → Nat → Nat)) => wR cR h9 (fr7 u9.2 u9.1) (olN ol n7) (n7N n7) ++ wS cI q st) (pl := fun (u9 : Nat × (Nat → Nat → Nat)) => wP cI u9.2 (va_up sv (slN ol n7) st) u9.1) (As := [.ref (q 0)]) (rest := []) (wc := wR cR h9 (fr7 ad n8) ol n7 ++ wS cI q st) (wr := [(x9, .inr (3, [.ref (q 0), .ref (h9 0), .ref (t9 0)]))] ++ wT cC t9 tx ln po ki rp tg nu) S hz (c_X0_save l D (sz := H.size) (cI := cI) (cR := cR) (h9 := h9) (ad := ad) (sv := sv) (ol := ol) (n7 := n7) (m := n8) (q := q) (st := st) (hh := hh)) (cwV 1 hts gX3_exclude_X0_save rfl rfl rfl (by decide +kernel) ⟨Nat.le_of_ble_eq_true rfl, Nat.le_of_ble_eq_true rfl⟩) hw hA [8, 9, 1, 2, 3, 4, 5, 6, 7] [0, 10, 11] [0, 1] rfl rfl (k0 := 12) rfl (by decide) rfl 0 rfl rfl rfl hl.1 (Nat.le_of_ble_eq_true rfl) ⟨Nat.le_of_ble_eq_true rfl, Nat.le_of_ble_eq_true rfl⟩ rfl dX3_exclude_20 (fun u_20 H locs e_20 hw => ?_)
  obtain ⟨u0_20, u1_20⟩ := u_20
  have hw : Wd D A [(cI, .int), (cR, .object RX1), (cC, .char)] (wR cR h9 (fr7 u1_20 u0_20) (olN ol n7) (n7N n7) ++ wS cI q st ++ [(x9, .inr (3, [.ref (q 0), .ref (h9 0), .ref (t9 0)]))] ++ wT cC t9 tx ln po ki rp tg nu ++ wP cI u1_20 (va_up sv (slN ol n7) st) u0_20) s s.heap H locs := hw
  refine lv_aload_n hx hb dX3_exclude_23 rfl (lv_at hl 0 rfl) ?_
  refine r_get hx hb hts hown hw.q 9 0 hin3 rfl rfl (by decide) k10 rfl dX3_exclude_24 ?_
  refine lv_iload_n hx hb dX3_exclude_27 rfl (lv_at hl 1 rfl) ?_
  refine lv_iload_n hx hb dX3_exclude_28 rfl (lv_at hl 2 rfl) ?_
  refine lv_iload_n hx hb dX3_exclude_29 rfl (lv_at hl 3 rfl) ?_
  refine cp_Vi (As := [.int (nI r), .int (nI w), .int (nI e9)]) (rest := []) (wc := wS cI q st) (wr := wR cR h9 (fr7 u1_20 u0_20) (olN ol n7) (n7N n7) ++ [(x9, .inr (3, [.ref (q 0), .ref (h9 0), .ref (t9 0)]))] ++ wT cC t9 tx ln po ki rp tg nu) S (c_X1_excludeElement l D (sz := H.size) (cI := cI) (q := q) (st := st) (r := r) (w := w) (e9 := e9) (hr := by omega) (hw5 := by omega) (he := by omega)) (cwV 3 hts gX3_exclude_X1_excludeElement rfl rfl rfl (by decide +kernel) ⟨Nat.le_of_ble_eq_true rfl, Nat.le_of_ble_eq_true rfl⟩) hw hA [2, 3, 4, 5, 6, 7, 8] [0, 1, 9, 10, 11] [0] rfl rfl (k0 := 12) rfl (by decide) rfl 0 rfl rfl rfl hl.1 (Nat.le_of_ble_eq_true rfl) ⟨Nat.le_of_ble_eq_true rfl, Nat.le_of_ble_eq_true rfl⟩ rfl dX3_exclude_30 (fun r_30 u_30 H locs e_30 hw => ?_)
  have hw : Wd D A [(cI, .int), (cR, .object RX1), (cC, .char)] (wS cI q (excS st r w e9) ++ wR cR h9 (fr7 u1_20 u0_20) (olN ol n7) (n7N n7) ++ [(x9, .inr (3, [.ref (q 0), .ref (h9 0), .ref (t9 0)]))] ++ wT cC t9 tx ln po ki rp tg nu ++ wP cI u1_20 (va_up sv (slN ol n7) st) u0_20) s s.heap H locs := hw
  have e_30 : r_30 = nI (cntE st.1 (r * 480 + w * 80 + (4 + e9) * 4) 4) := e_30
  subst e_30
  have hw : Wd D A [(cI, .int), (cR, .object RX1), (cC, .char)] ([(x9, .inr (3, [.ref (q 0), .ref (h9 0), .ref (t9 0)]))] ++ wS cI q (excS st r w e9) ++ wR cR h9 (fr7 u1_20 u0_20) (olN ol n7) (n7N n7) ++ wT cC t9 tx ln po ki rp tg nu ++ wP cI u1_20 (va_up sv (slN ol n7) st) u0_20) s s.heap H locs := hw.ord [9, 0, 1, 2, 3, 4, 5, 6, 7, 8, 10, 11] (k0 := 12) rfl rfl (by decide)
  exact hE (u0_20, u1_20) dX3_exclude_33 (rfl) (Nat.le_of_ble_eq_true rfl) (Nat.le_of_ble_eq_true rfl) ⟨⟨hw.1.1, fun k q hk => by cases hk⟩, hw.2.1, hw.2.2.1, hw.2.2.2⟩ (⟨show nI (cntE st.1 (r * 480 + w * 80 + (4 + e9) * 4) 4) = nI (cntE st.1 (r * 480 + w * 80 + (4 + e9) * 4) 4) from by first | rfl | (congr <;> omega) | simp_all, e_20⟩)
abbrev rmX3_delete : Room := { frames := 3, cells := 7, slots := 5790, locals := 122 }
set_option maxHeartbeats 4000000 in
set_option maxRecDepth 100000 in
theorem c_X3_delete (l : Launch) (D : va_G) (sz : Nat) (cI cR cC : ClassId) (x9 : Nat) (q : Nat → Nat) (st : St) (h9 : Nat → Nat) (ad : Nat → Nat → Nat) (sv : Nat → St) (ol n7 n8 : Nat) (t9 : Nat → Nat) (tx : Nat → Nat) (ln po : Nat) (ki rp tg nu : Int32) (r w : Nat) (hh : hI ol n7 n8) (hr : r < 4) (hw5 : w < 6) : MXi l yX3_delete wsX3_delete rmX3_delete [.ref x9, .int (nI r), .int (nI w)] D [(cI, .int), (cR, .object RX1), (cC, .char)] ([(x9, .inr (3, [.ref (q 0), .ref (h9 0), .ref (t9 0)]))] ++ wS cI q st ++ wR cR h9 (fr7 ad n8) ol n7 ++ wT cC t9 tx ln po ki rp tg nu ++ wP cI ad sv n8) sz (fun rz (u9 : Nat × (Nat → Nat → Nat)) => rz = nI (cntE st.1 (r * 480 + w * 80 + 0 * 4) 80) ∧ hI (olN ol n7) (n7N n7) u9.1) (fun u9 => []) (fun u9 => [(x9, .inr (3, [.ref (q 0), .ref (h9 0), .ref (t9 0)]))] ++ wS cI q (delS st r w) ++ wR cR h9 (fr7 u9.2 u9.1) (olN ol n7) (n7N n7) ++ wT cC t9 tx ln po ki rp tg nu ++ wP cI u9.2 (va_up sv (slN ol n7) st) u9.1) 7 5790 := by
  refine met_xu (own := RX3) (cc := cX3_delete) (maxL := 3) (ty := .int) (by decide) rfl rfl (Nat.le_of_ble_eq_true rfl) ?_
  intro p e s m args below meth c Q A hsz S hz hw hA hE ls hl
  obtain ⟨hx, hb, hml, hown, hts⟩ := id S
  have k19 := hts (.fieldLink RX3 19 "CausalTable" "history" "LCausalTable$History;") (by decide +kernel)
  have hin3 := (show ∀ w ∈ wsX30, w ∈ wsX3_delete by decide +kernel)
  have k10 := hts (.fieldLink RX3 10 "CausalTable" "state" "LCausalTable$State;") (by decide +kernel)
  have hl : lv_has ls 3 [(0, .ref x9), (1, .int (nI r)), (2, .int (nI w))] := hl
  refine lv_iload_n hx hb dX3_delete_0 rfl (lv_at hl 1 rfl) ?_
  refine cp_Sv (As := [.int (nI r)]) (rest := []) S (c_X3_checkReplica l D (sz := s.heap.size) (r := r) (hr := by omega)) (va_cwS 1 hts gX3_delete_X3_checkReplica rfl rfl rfl (by decide +kernel) ⟨Nat.le_of_ble_eq_true rfl, Nat.le_of_ble_eq_true rfl⟩) hw hA rfl hl.1 (Nat.le_of_ble_eq_true rfl) ⟨Nat.le_of_ble_eq_true rfl, Nat.le_of_ble_eq_true rfl⟩ rfl dX3_delete_1 (fun H locs hw => ?_)
  have hw : Wd D A [(cI, .int), (cR, .object RX1), (cC, .char)] ([(x9, .inr (3, [.ref (q 0), .ref (h9 0), .ref (t9 0)]))] ++ wS cI q st ++ wR cR h9 (fr7 ad n8) ol n7 ++ wT cC t9 tx ln po ki rp tg nu ++ wP cI ad sv n8) s s.heap H locs := hw
  refine lv_iload_n hx hb dX3_delete_4 rfl (lv_at hl 2 rfl) ?_
  refine cp_Sv (As := [.int (nI w)]) (rest := []) S (c_X3_checkRow l D (sz := H.size) (w := w) (hw5 := by omega)) (va_cwS 1 hts gX3_delete_X3_checkRow rfl rfl rfl (by decide +kernel) ⟨Nat.le_of_ble_eq_true rfl, Nat.le_of_ble_eq_true rfl⟩) hw hA rfl hl.1 (Nat.le_of_ble_eq_true rfl) ⟨Nat.le_of_ble_eq_true rfl, Nat.le_of_ble_eq_true rfl⟩ rfl dX3_delete_5 (fun H locs hw => ?_)
  have hw : Wd D A [(cI, .int), (cR, .object RX1), (cC, .char)] ([(x9, .inr (3, [.ref (q 0), .ref (h9 0), .ref (t9 0)]))] ++ wS cI q st ++ wR cR h9 (fr7 ad n8) ol n7 ++ wT cC t9 tx ln po ki rp tg nu ++ wP cI ad sv n8) s s.heap H locs := hw
  refine lv_aload_n hx hb dX3_delete_8 rfl (lv_at hl 0 rfl) ?_
  refine r_get hx hb hts hown hw.q 0 1 hin3 rfl rfl (by decide) k19 rfl dX3_delete_9 ?_
  refine lv_aload_n hx hb dX3_delete_12 rfl (lv_at hl 0 rfl) ?_
  refine r_get hx hb hts hown hw.q 0 0 hin3 rfl rfl (by decide) k10 rfl dX3_delete_13 ?_
  refine cp_Vx (w1 := fun (u9 : Nat × (Nat → Nat → Nat)) => wR cR h9 (fr7 u9.2 u9.1) (olN ol n7) (n7N n7) ++ wS cI q st) (pl := fun (u9 : Nat × (Nat → Nat → Nat)) => wP cI u9.2 (va_up sv (slN ol n7) st) u9.1) (As := [.ref (q 0)]) (rest := []) (wc := wR cR h9 (fr7 ad n8) ol n7 ++ wS cI q st) (wr := [(x9, .inr (3, [.ref (q 0), .ref (h9 0), .ref (t9 0)]))] ++ wT cC t9 tx ln po ki rp tg nu) S hz (c_X0_save l D (sz := H.size) (cI := cI) (cR := cR) (h9 := h9) (ad := ad) (sv := sv) (ol := ol) (n7 := n7) (m := n8) (q := q) (st := st) (hh := hh)) (cwV 1 hts gX3_delete_X0_save rfl rfl rfl (by decide +kernel) ⟨Nat.le_of_ble_eq_true rfl, Nat.le_of_ble_eq_true rfl⟩) hw hA [8, 9, 1, 2, 3, 4, 5, 6, 7] [0, 10, 11] [0, 1] rfl rfl (k0 := 12) rfl (by decide) rfl 0 rfl rfl rfl hl.1 (Nat.le_of_ble_eq_true rfl) ⟨Nat.le_of_ble_eq_true rfl, Nat.le_of_ble_eq_true rfl⟩ rfl dX3_delete_16 (fun u_16 H locs e_16 hw => ?_)
  obtain ⟨u0_16, u1_16⟩ := u_16
  have hw : Wd D A [(cI, .int), (cR, .object RX1), (cC, .char)] (wR cR h9 (fr7 u1_16 u0_16) (olN ol n7) (n7N n7) ++ wS cI q st ++ [(x9, .inr (3, [.ref (q 0), .ref (h9 0), .ref (t9 0)]))] ++ wT cC t9 tx ln po ki rp tg nu ++ wP cI u1_16 (va_up sv (slN ol n7) st) u0_16) s s.heap H locs := hw
  refine lv_aload_n hx hb dX3_delete_19 rfl (lv_at hl 0 rfl) ?_
  refine r_get hx hb hts hown hw.q 9 0 hin3 rfl rfl (by decide) k10 rfl dX3_delete_20 ?_
  refine lv_iload_n hx hb dX3_delete_23 rfl (lv_at hl 1 rfl) ?_
  refine lv_iload_n hx hb dX3_delete_24 rfl (lv_at hl 2 rfl) ?_
  refine cp_Vi (As := [.int (nI r), .int (nI w)]) (rest := []) (wc := wS cI q st) (wr := wR cR h9 (fr7 u1_16 u0_16) (olN ol n7) (n7N n7) ++ [(x9, .inr (3, [.ref (q 0), .ref (h9 0), .ref (t9 0)]))] ++ wT cC t9 tx ln po ki rp tg nu) S (c_X1_deleteRow l D (sz := H.size) (cI := cI) (q := q) (st := st) (r := r) (w := w) (hr := by omega) (hw5 := by omega)) (cwV 2 hts gX3_delete_X1_deleteRow rfl rfl rfl (by decide +kernel) ⟨Nat.le_of_ble_eq_true rfl, Nat.le_of_ble_eq_true rfl⟩) hw hA [2, 3, 4, 5, 6, 7, 8] [0, 1, 9, 10, 11] [0] rfl rfl (k0 := 12) rfl (by decide) rfl 0 rfl rfl rfl hl.1 (Nat.le_of_ble_eq_true rfl) ⟨Nat.le_of_ble_eq_true rfl, Nat.le_of_ble_eq_true rfl⟩ rfl dX3_delete_25 (fun r_25 u_25 H locs e_25 hw => ?_)
  have hw : Wd D A [(cI, .int), (cR, .object RX1), (cC, .char)] (wS cI q (delS st r w) ++ wR cR h9 (fr7 u1_16 u0_16) (olN ol n7) (n7N n7) ++ [(x9, .inr (3, [.ref (q 0), .ref (h9 0), .ref (t9 0)]))] ++ wT cC t9 tx ln po ki rp tg nu ++ wP cI u1_16 (va_up sv (slN ol n7) st) u0_16) s s.heap H locs := hw
  have e_25 : r_25 = nI (cntE st.1 (r * 480 + w * 80 + 0 * 4) 80) := e_25
  subst e_25
  have hw : Wd D A [(cI, .int), (cR, .object RX1), (cC, .char)] ([(x9, .inr (3, [.ref (q 0), .ref (h9 0), .ref (t9 0)]))] ++ wS cI q (delS st r w) ++ wR cR h9 (fr7 u1_16 u0_16) (olN ol n7) (n7N n7) ++ wT cC t9 tx ln po ki rp tg nu ++ wP cI u1_16 (va_up sv (slN ol n7) st) u0_16) s s.heap H locs := hw.ord [9, 0, 1, 2, 3, 4, 5, 6, 7, 8, 10, 11] (k0 := 12) rfl rfl (by decide)
  exact hE (u0_16, u1_16) dX3_delete_28 (rfl) (Nat.le_of_ble_eq_true rfl) (Nat.le_of_ble_eq_true rfl) ⟨⟨hw.1.1, fun k q hk => by cases hk⟩, hw.2.1, hw.2.2.1, hw.2.2.2⟩ (⟨show nI (cntE st.1 (r * 480 + w * 80 + 0 * 4) 80) = nI (cntE st.1 (r * 480 + w * 80 + 0 * 4) 80) from by first | rfl | (congr <;> omega) | simp_all, e_16⟩)
abbrev rmX3_merge : Room := { frames := 4, cells := 7, slots := 5790, locals := 122 }
set_option maxHeartbeats 4000000 in
set_option maxRecDepth 100000 in
theorem c_X3_merge (l : Launch) (D : va_G) (sz : Nat) (cI cR cC : ClassId) (x9 : Nat) (q : Nat → Nat) (st : St) (h9 : Nat → Nat) (ad : Nat → Nat → Nat) (sv : Nat → St) (ol n7 n8 : Nat) (t9 : Nat → Nat) (tx : Nat → Nat) (ln po : Nat) (ki rp tg nu : Int32) (f t : Nat) (hh : hI ol n7 n8) (hf4 : f < 4) (ht4 : t < 4) (hne : f ≠ t) : MXi l yX3_merge wsX3_merge rmX3_merge [.ref x9, .int (nI f), .int (nI t)] D [(cI, .int), (cR, .object RX1), (cC, .char)] ([(x9, .inr (3, [.ref (q 0), .ref (h9 0), .ref (t9 0)]))] ++ wS cI q st ++ wR cR h9 (fr7 ad n8) ol n7 ++ wT cC t9 tx ln po ki rp tg nu ++ wP cI ad sv n8) sz (fun rz (u9 : Nat × (Nat → Nat → Nat)) => rz = nI (cntP (fun o => addP st f t o) 480 + cntP (fun o => remP st f t o) 480) ∧ hI (olN ol n7) (n7N n7) u9.1) (fun u9 => []) (fun u9 => [(x9, .inr (3, [.ref (q 0), .ref (h9 0), .ref (t9 0)]))] ++ wS cI q (mgS st f t) ++ wR cR h9 (fr7 u9.2 u9.1) (olN ol n7) (n7N n7) ++ wT cC t9 tx ln po ki rp tg nu ++ wP cI u9.2 (va_up sv (slN ol n7) st) u9.1) 7 5790 := by
  refine met_xu (own := RX3) (cc := cX3_merge) (maxL := 3) (ty := .int) (by decide) rfl rfl (Nat.le_of_ble_eq_true rfl) ?_
  intro p e s m args below meth c Q A hsz S hz hw hA hE ls hl
  obtain ⟨hx, hb, hml, hown, hts⟩ := id S
  have k19 := hts (.fieldLink RX3 19 "CausalTable" "history" "LCausalTable$History;") (by decide +kernel)
  have hin3 := (show ∀ w ∈ wsX30, w ∈ wsX3_merge by decide +kernel)
  have k10 := hts (.fieldLink RX3 10 "CausalTable" "state" "LCausalTable$State;") (by decide +kernel)
  have hl : lv_has ls 3 [(0, .ref x9), (1, .int (nI f)), (2, .int (nI t))] := hl
  refine lv_iload_n hx hb dX3_merge_0 rfl (lv_at hl 1 rfl) ?_
  refine cp_Sv (As := [.int (nI f)]) (rest := []) S (c_X3_checkReplica l D (sz := s.heap.size) (r := f) (hr := by omega)) (va_cwS 1 hts gX3_merge_X3_checkReplica rfl rfl rfl (by decide +kernel) ⟨Nat.le_of_ble_eq_true rfl, Nat.le_of_ble_eq_true rfl⟩) hw hA rfl hl.1 (Nat.le_of_ble_eq_true rfl) ⟨Nat.le_of_ble_eq_true rfl, Nat.le_of_ble_eq_true rfl⟩ rfl dX3_merge_1 (fun H locs hw => ?_)
  have hw : Wd D A [(cI, .int), (cR, .object RX1), (cC, .char)] ([(x9, .inr (3, [.ref (q 0), .ref (h9 0), .ref (t9 0)]))] ++ wS cI q st ++ wR cR h9 (fr7 ad n8) ol n7 ++ wT cC t9 tx ln po ki rp tg nu ++ wP cI ad sv n8) s s.heap H locs := hw
  refine lv_iload_n hx hb dX3_merge_4 rfl (lv_at hl 2 rfl) ?_
  refine cp_Sv (As := [.int (nI t)]) (rest := []) S (c_X3_checkReplica l D (sz := H.size) (r := t) (hr := by omega)) (va_cwS 1 hts gX3_merge_X3_checkReplica rfl rfl rfl (by decide +kernel) ⟨Nat.le_of_ble_eq_true rfl, Nat.le_of_ble_eq_true rfl⟩) hw hA rfl hl.1 (Nat.le_of_ble_eq_true rfl) ⟨Nat.le_of_ble_eq_true rfl, Nat.le_of_ble_eq_true rfl⟩ rfl dX3_merge_5 (fun H locs hw => ?_)
  have hw : Wd D A [(cI, .int), (cR, .object RX1), (cC, .char)] ([(x9, .inr (3, [.ref (q 0), .ref (h9 0), .ref (t9 0)]))] ++ wS cI q st ++ wR cR h9 (fr7 ad n8) ol n7 ++ wT cC t9 tx ln po ki rp tg nu ++ wP cI ad sv n8) s s.heap H locs := hw
  refine lv_iload_n hx hb dX3_merge_8 rfl (lv_at hl 1 rfl) ?_
  refine lv_iload_n hx hb dX3_merge_9 rfl (lv_at hl 2 rfl) ?_
  refine cp_Sv (As := [.int (nI f), .int (nI t)]) (rest := []) S (c_X3_checkDifferent l D (sz := H.size) (f := f) (t := t) (hf4 := by omega) (ht4 := by omega) (hne := by omega)) (va_cwS 2 hts gX3_merge_X3_checkDifferent rfl rfl rfl (by decide +kernel) ⟨Nat.le_of_ble_eq_true rfl, Nat.le_of_ble_eq_true rfl⟩) hw hA rfl hl.1 (Nat.le_of_ble_eq_true rfl) ⟨Nat.le_of_ble_eq_true rfl, Nat.le_of_ble_eq_true rfl⟩ rfl dX3_merge_10 (fun H locs hw => ?_)
  have hw : Wd D A [(cI, .int), (cR, .object RX1), (cC, .char)] ([(x9, .inr (3, [.ref (q 0), .ref (h9 0), .ref (t9 0)]))] ++ wS cI q st ++ wR cR h9 (fr7 ad n8) ol n7 ++ wT cC t9 tx ln po ki rp tg nu ++ wP cI ad sv n8) s s.heap H locs := hw
  refine lv_aload_n hx hb dX3_merge_13 rfl (lv_at hl 0 rfl) ?_
  refine r_get hx hb hts hown hw.q 0 1 hin3 rfl rfl (by decide) k19 rfl dX3_merge_14 ?_
  refine lv_aload_n hx hb dX3_merge_17 rfl (lv_at hl 0 rfl) ?_
  refine r_get hx hb hts hown hw.q 0 0 hin3 rfl rfl (by decide) k10 rfl dX3_merge_18 ?_
  refine cp_Vx (w1 := fun (u9 : Nat × (Nat → Nat → Nat)) => wR cR h9 (fr7 u9.2 u9.1) (olN ol n7) (n7N n7) ++ wS cI q st) (pl := fun (u9 : Nat × (Nat → Nat → Nat)) => wP cI u9.2 (va_up sv (slN ol n7) st) u9.1) (As := [.ref (q 0)]) (rest := []) (wc := wR cR h9 (fr7 ad n8) ol n7 ++ wS cI q st) (wr := [(x9, .inr (3, [.ref (q 0), .ref (h9 0), .ref (t9 0)]))] ++ wT cC t9 tx ln po ki rp tg nu) S hz (c_X0_save l D (sz := H.size) (cI := cI) (cR := cR) (h9 := h9) (ad := ad) (sv := sv) (ol := ol) (n7 := n7) (m := n8) (q := q) (st := st) (hh := hh)) (cwV 1 hts gX3_merge_X0_save rfl rfl rfl (by decide +kernel) ⟨Nat.le_of_ble_eq_true rfl, Nat.le_of_ble_eq_true rfl⟩) hw hA [8, 9, 1, 2, 3, 4, 5, 6, 7] [0, 10, 11] [0, 1] rfl rfl (k0 := 12) rfl (by decide) rfl 0 rfl rfl rfl hl.1 (Nat.le_of_ble_eq_true rfl) ⟨Nat.le_of_ble_eq_true rfl, Nat.le_of_ble_eq_true rfl⟩ rfl dX3_merge_21 (fun u_21 H locs e_21 hw => ?_)
  obtain ⟨u0_21, u1_21⟩ := u_21
  have hw : Wd D A [(cI, .int), (cR, .object RX1), (cC, .char)] (wR cR h9 (fr7 u1_21 u0_21) (olN ol n7) (n7N n7) ++ wS cI q st ++ [(x9, .inr (3, [.ref (q 0), .ref (h9 0), .ref (t9 0)]))] ++ wT cC t9 tx ln po ki rp tg nu ++ wP cI u1_21 (va_up sv (slN ol n7) st) u0_21) s s.heap H locs := hw
  refine lv_aload_n hx hb dX3_merge_24 rfl (lv_at hl 0 rfl) ?_
  refine r_get hx hb hts hown hw.q 9 0 hin3 rfl rfl (by decide) k10 rfl dX3_merge_25 ?_
  refine lv_iload_n hx hb dX3_merge_28 rfl (lv_at hl 1 rfl) ?_
  refine lv_iload_n hx hb dX3_merge_29 rfl (lv_at hl 2 rfl) ?_
  refine cp_Vi (As := [.int (nI f), .int (nI t)]) (rest := []) (wc := wS cI q st) (wr := wR cR h9 (fr7 u1_21 u0_21) (olN ol n7) (n7N n7) ++ [(x9, .inr (3, [.ref (q 0), .ref (h9 0), .ref (t9 0)]))] ++ wT cC t9 tx ln po ki rp tg nu) S (c_X1_mergeReplica l D (sz := H.size) (cI := cI) (q := q) (st := st) (f := f) (t := t) (hf4 := by omega) (ht4 := by omega)) (cwV 2 hts gX3_merge_X1_mergeReplica rfl rfl rfl (by decide +kernel) ⟨Nat.le_of_ble_eq_true rfl, Nat.le_of_ble_eq_true rfl⟩) hw hA [2, 3, 4, 5, 6, 7, 8] [0, 1, 9, 10, 11] [0] rfl rfl (k0 := 12) rfl (by decide) rfl 0 rfl rfl rfl hl.1 (Nat.le_of_ble_eq_true rfl) ⟨Nat.le_of_ble_eq_true rfl, Nat.le_of_ble_eq_true rfl⟩ rfl dX3_merge_30 (fun r_30 u_30 H locs e_30 hw => ?_)
  have hw : Wd D A [(cI, .int), (cR, .object RX1), (cC, .char)] (wS cI q (mgS st f t) ++ wR cR h9 (fr7 u1_21 u0_21) (olN ol n7) (n7N n7) ++ [(x9, .inr (3, [.ref (q 0), .ref (h9 0), .ref (t9 0)]))] ++ wT cC t9 tx ln po ki rp tg nu ++ wP cI u1_21 (va_up sv (slN ol n7) st) u0_21) s s.heap H locs := hw
  have e_30 : r_30 = nI (cntP (fun o => addP st f t o) 480 + cntP (fun o => remP st f t o) 480) := e_30
  subst e_30
  have hw : Wd D A [(cI, .int), (cR, .object RX1), (cC, .char)] ([(x9, .inr (3, [.ref (q 0), .ref (h9 0), .ref (t9 0)]))] ++ wS cI q (mgS st f t) ++ wR cR h9 (fr7 u1_21 u0_21) (olN ol n7) (n7N n7) ++ wT cC t9 tx ln po ki rp tg nu ++ wP cI u1_21 (va_up sv (slN ol n7) st) u0_21) s s.heap H locs := hw.ord [9, 0, 1, 2, 3, 4, 5, 6, 7, 8, 10, 11] (k0 := 12) rfl rfl (by decide)
  exact hE (u0_21, u1_21) dX3_merge_33 (rfl) (Nat.le_of_ble_eq_true rfl) (Nat.le_of_ble_eq_true rfl) ⟨⟨hw.1.1, fun k q hk => by cases hk⟩, hw.2.1, hw.2.2.1, hw.2.2.2⟩ (⟨show nI (cntP (fun o => addP st f t o) 480 + cntP (fun o => remP st f t o) 480) = nI (cntP (fun o => addP st f t o) 480 + cntP (fun o => remP st f t o) 480) from by first | rfl | (congr <;> omega) | simp_all, e_21⟩)
