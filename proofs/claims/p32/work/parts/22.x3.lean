/-! the class's own methods -/
def reS (st : St) (a b : Nat) : Int32 := if knP st a b then (if knP st b a then nI 0 else nI 2) else (if knP st b a then nI 1 else nI 3)
def cfS (st : St) (r : Nat) : Nat → Nat
  | 0 => 0
  | k + 1 => cfS st r k + (if cntE st.1 (r * 480 + k * 80 + 1 * 4) (cE 1 * 4 - 1 * 4) < 2 then 0 else 1)
abbrev rmX3_checkReplica : Room := { frames := 0, cells := 0, slots := 0, locals := 0 }
set_option maxHeartbeats 4000000 in
set_option maxRecDepth 100000 in
theorem c_X3_checkReplica (l : Launch) (D : va_G) (sz : Nat) (r : Nat) (hr : r < 4) : MUv l yX3_checkReplica wsX3_checkReplica rmX3_checkReplica [.int (nI r)] D [] ([]) sz (fun (u9 : Unit) => True) (fun u9 => []) (fun u9 => []) 0 0 := by
  refine met_v (own := RX3) (cc := cX3_checkReplica) (maxL := 1) (by decide) rfl rfl (Nat.le_of_ble_eq_true rfl) ?_
  intro p e s m args below meth c Q A hsz S hmn hw hA hE ls hl
  obtain ⟨hx, hb, hml, hown, hts⟩ := id S
  have hl : lv_has ls 1 [(0, .int (nI r))] := hl
  refine lv_iload_n hx hb dX3_checkReplica_0 rfl (lv_at hl 0 rfl) ?_
  refine lv_if_lt (tgt := 9) hx hb dX3_checkReplica_1 (by decide) (fun h => absurd h (nI_pos (by omega))) (fun _ => ?_)
  refine lv_iload_n hx hb dX3_checkReplica_4 rfl (lv_at hl 0 rfl) ?_
  refine lv_iconst (v := nI 4) hx hb dX3_checkReplica_5 kc_iconst_4 ?_
  refine r_icmp_ltN (tgt := 19) hx hb (by omega) (by omega) dX3_checkReplica_6 (by decide) (fun c_6 => ?_) (fun c_6 => ?_)
  ·
    exact hE () dX3_checkReplica_19 (Nat.le_of_ble_eq_true rfl) (Nat.le_of_ble_eq_true rfl) (hw.sub [] [] (by decide) rfl rfl) trivial
  ·
    exact absurd c_6 (by omega)
abbrev rmX3_checkRow : Room := { frames := 0, cells := 0, slots := 0, locals := 0 }
set_option maxHeartbeats 4000000 in
set_option maxRecDepth 100000 in
theorem c_X3_checkRow (l : Launch) (D : va_G) (sz : Nat) (w : Nat) (hw5 : w < 6) : MUv l yX3_checkRow wsX3_checkRow rmX3_checkRow [.int (nI w)] D [] ([]) sz (fun (u9 : Unit) => True) (fun u9 => []) (fun u9 => []) 0 0 := by
  refine met_v (own := RX3) (cc := cX3_checkRow) (maxL := 1) (by decide) rfl rfl (Nat.le_of_ble_eq_true rfl) ?_
  intro p e s m args below meth c Q A hsz S hmn hw hA hE ls hl
  obtain ⟨hx, hb, hml, hown, hts⟩ := id S
  have hl : lv_has ls 1 [(0, .int (nI w))] := hl
  refine lv_iload_n hx hb dX3_checkRow_0 rfl (lv_at hl 0 rfl) ?_
  refine lv_if_lt (tgt := 10) hx hb dX3_checkRow_1 (by decide) (fun h => absurd h (nI_pos (by omega))) (fun _ => ?_)
  refine lv_iload_n hx hb dX3_checkRow_4 rfl (lv_at hl 0 rfl) ?_
  refine lv_bipush (v := nI 6) hx hb dX3_checkRow_5 kc_bipush_6 ?_
  refine r_icmp_ltN (tgt := 20) hx hb (by omega) (by omega) dX3_checkRow_7 (by decide) (fun c_7 => ?_) (fun c_7 => ?_)
  ·
    exact hE () dX3_checkRow_20 (Nat.le_of_ble_eq_true rfl) (Nat.le_of_ble_eq_true rfl) (hw.sub [] [] (by decide) rfl rfl) trivial
  ·
    exact absurd c_7 (by omega)
abbrev rmX3_checkElement : Room := { frames := 0, cells := 0, slots := 0, locals := 0 }
set_option maxHeartbeats 4000000 in
set_option maxRecDepth 100000 in
theorem c_X3_checkElement (l : Launch) (D : va_G) (sz : Nat) (e9 : Nat) (he : e9 < 16) : MUv l yX3_checkElement wsX3_checkElement rmX3_checkElement [.int (nI e9)] D [] ([]) sz (fun (u9 : Unit) => True) (fun u9 => []) (fun u9 => []) 0 0 := by
  refine met_v (own := RX3) (cc := cX3_checkElement) (maxL := 1) (by decide) rfl rfl (Nat.le_of_ble_eq_true rfl) ?_
  intro p e s m args below meth c Q A hsz S hmn hw hA hE ls hl
  obtain ⟨hx, hb, hml, hown, hts⟩ := id S
  have hl : lv_has ls 1 [(0, .int (nI e9))] := hl
  refine lv_iload_n hx hb dX3_checkElement_0 rfl (lv_at hl 0 rfl) ?_
  refine lv_if_lt (tgt := 10) hx hb dX3_checkElement_1 (by decide) (fun h => absurd h (nI_pos (by omega))) (fun _ => ?_)
  refine lv_iload_n hx hb dX3_checkElement_4 rfl (lv_at hl 0 rfl) ?_
  refine lv_bipush (v := nI 16) hx hb dX3_checkElement_5 kc_bipush_16 ?_
  refine r_icmp_ltN (tgt := 20) hx hb (by omega) (by omega) dX3_checkElement_7 (by decide) (fun c_7 => ?_) (fun c_7 => ?_)
  ·
    exact hE () dX3_checkElement_20 (Nat.le_of_ble_eq_true rfl) (Nat.le_of_ble_eq_true rfl) (hw.sub [] [] (by decide) rfl rfl) trivial
  ·
    exact absurd c_7 (by omega)
abbrev rmX3_checkDifferent : Room := { frames := 0, cells := 0, slots := 0, locals := 0 }
set_option maxHeartbeats 4000000 in
set_option maxRecDepth 100000 in
theorem c_X3_checkDifferent (l : Launch) (D : va_G) (sz : Nat) (f t : Nat) (hf4 : f < 4) (ht4 : t < 4) (hne : f ≠ t) : MUv l yX3_checkDifferent wsX3_checkDifferent rmX3_checkDifferent [.int (nI f), .int (nI t)] D [] ([]) sz (fun (u9 : Unit) => True) (fun u9 => []) (fun u9 => []) 0 0 := by
  refine met_v (own := RX3) (cc := cX3_checkDifferent) (maxL := 2) (by decide) rfl rfl (Nat.le_of_ble_eq_true rfl) ?_
  intro p e s m args below meth c Q A hsz S hmn hw hA hE ls hl
  obtain ⟨hx, hb, hml, hown, hts⟩ := id S
  have hl : lv_has ls 2 [(0, .int (nI f)), (1, .int (nI t))] := hl
  refine lv_iload_n hx hb dX3_checkDifferent_0 rfl (lv_at hl 0 rfl) ?_
  refine lv_iload_n hx hb dX3_checkDifferent_1 rfl (lv_at hl 1 rfl) ?_
  refine r_icmp_neN (tgt := 15) hx hb (by omega) (by omega) dX3_checkDifferent_2 (by decide) (fun c_2 => ?_) (fun c_2 => ?_)
  ·
    exact hE () dX3_checkDifferent_15 (Nat.le_of_ble_eq_true rfl) (Nat.le_of_ble_eq_true rfl) (hw.sub [] [] (by decide) rfl rfl) trivial
  ·
    exact absurd c_2 hne
abbrev rmX3_latest : Room := { frames := 3, cells := 0, slots := 0, locals := 71 }
set_option maxHeartbeats 4000000 in
set_option maxRecDepth 100000 in
theorem c_X3_latest (l : Launch) (D : va_G) (sz : Nat) (cI cR cC : ClassId) (x9 : Nat) (q : Nat → Nat) (st : St) (h9 : Nat → Nat) (ad : Nat → Nat → Nat) (sv : Nat → St) (ol n7 n8 : Nat) (t9 : Nat → Nat) (tx : Nat → Nat) (ln po : Nat) (ki rp tg nu : Int32) (r w : Nat) (hh : hI ol n7 n8) (hr : r < 4) (hw5 : w < 6) : MXi l yX3_latest wsX3_latest rmX3_latest [.ref x9, .int (nI r), .int (nI w)] D [(cI, .int), (cR, .object RX1), (cC, .char)] ([(x9, .inr (3, [.ref (q 0), .ref (h9 0), .ref (t9 0)]))] ++ wS cI q st ++ wR cR h9 (fr7 ad n8) ol n7 ++ wT cC t9 tx ln po ki rp tg nu ++ wP cI ad sv n8) sz (fun rz (u9 : Unit) => rz = (ltE st (r * 480 + w * 80 + 0 * 4) 4).2) (fun u9 => []) (fun u9 => [(x9, .inr (3, [.ref (q 0), .ref (h9 0), .ref (t9 0)]))] ++ wS cI q st ++ wR cR h9 (fr7 ad n8) ol n7 ++ wT cC t9 tx ln po ki rp tg nu ++ wP cI ad sv n8) 0 0 := by
  refine met_xu (own := RX3) (cc := cX3_latest) (maxL := 3) (ty := .int) (by decide) rfl rfl (Nat.le_of_ble_eq_true rfl) ?_
  intro p e s m args below meth c Q A hsz S hz hw hA hE ls hl
  obtain ⟨hx, hb, hml, hown, hts⟩ := id S
  have k10 := hts (.fieldLink RX3 10 "CausalTable" "state" "LCausalTable$State;") (by decide +kernel)
  have hin3 := (show ∀ w ∈ wsX30, w ∈ wsX3_latest by decide +kernel)
  have hl : lv_has ls 3 [(0, .ref x9), (1, .int (nI r)), (2, .int (nI w))] := hl
  refine lv_iload_n hx hb dX3_latest_0 rfl (lv_at hl 1 rfl) ?_
  refine cp_Sv (As := [.int (nI r)]) (rest := []) S (c_X3_checkReplica l D (sz := s.heap.size) (r := r) (hr := by omega)) (va_cwS 1 hts gX3_latest_X3_checkReplica rfl rfl rfl (by decide +kernel) ⟨Nat.le_of_ble_eq_true rfl, Nat.le_of_ble_eq_true rfl⟩) hw hA rfl hl.1 (Nat.le_of_ble_eq_true rfl) ⟨Nat.le_of_ble_eq_true rfl, Nat.le_of_ble_eq_true rfl⟩ rfl dX3_latest_1 (fun H locs hw => ?_)
  have hw : Wd D A [(cI, .int), (cR, .object RX1), (cC, .char)] ([(x9, .inr (3, [.ref (q 0), .ref (h9 0), .ref (t9 0)]))] ++ wS cI q st ++ wR cR h9 (fr7 ad n8) ol n7 ++ wT cC t9 tx ln po ki rp tg nu ++ wP cI ad sv n8) s s.heap H locs := hw
  refine lv_iload_n hx hb dX3_latest_4 rfl (lv_at hl 2 rfl) ?_
  refine cp_Sv (As := [.int (nI w)]) (rest := []) S (c_X3_checkRow l D (sz := H.size) (w := w) (hw5 := by omega)) (va_cwS 1 hts gX3_latest_X3_checkRow rfl rfl rfl (by decide +kernel) ⟨Nat.le_of_ble_eq_true rfl, Nat.le_of_ble_eq_true rfl⟩) hw hA rfl hl.1 (Nat.le_of_ble_eq_true rfl) ⟨Nat.le_of_ble_eq_true rfl, Nat.le_of_ble_eq_true rfl⟩ rfl dX3_latest_5 (fun H locs hw => ?_)
  have hw : Wd D A [(cI, .int), (cR, .object RX1), (cC, .char)] ([(x9, .inr (3, [.ref (q 0), .ref (h9 0), .ref (t9 0)]))] ++ wS cI q st ++ wR cR h9 (fr7 ad n8) ol n7 ++ wT cC t9 tx ln po ki rp tg nu ++ wP cI ad sv n8) s s.heap H locs := hw
  refine lv_aload_n hx hb dX3_latest_8 rfl (lv_at hl 0 rfl) ?_
  refine r_get hx hb hts hown hw.q 0 0 hin3 rfl rfl (by decide) k10 rfl dX3_latest_9 ?_
  refine lv_iload_n hx hb dX3_latest_12 rfl (lv_at hl 1 rfl) ?_
  refine lv_iload_n hx hb dX3_latest_13 rfl (lv_at hl 2 rfl) ?_
  refine cq_V (As := [.int (nI r), .int (nI w)]) (rest := []) S (c_X1_latestValue l D (cI := cI) (q := q) (st := st) (r := r) (w := w) (hr := by omega) (hw5 := by omega)) (cwV 2 hts gX3_latest_X1_latestValue rfl rfl rfl (by decide +kernel) ⟨Nat.le_of_ble_eq_true rfl, Nat.le_of_ble_eq_true rfl⟩) (hw.q.sub [1, 2, 3, 4, 5, 6, 7] [0] rfl rfl) 0 rfl rfl rfl hl.1 (Nat.le_of_ble_eq_true rfl) ⟨Nat.le_of_ble_eq_true rfl, Nat.le_of_ble_eq_true rfl⟩ rfl dX3_latest_14 (fun r_14 e_14 => ?_)
  have e_14 : r_14 = (ltE st (r * 480 + w * 80 + 0 * 4) 4).2 := e_14
  subst e_14
  exact hE () dX3_latest_17 (rfl) (Nat.le_of_ble_eq_true rfl) (Nat.le_of_ble_eq_true rfl) ⟨⟨hw.1.1, fun k q hk => by cases hk⟩, hw.2.1, hw.2.2.1, hw.2.2.2⟩ (show ((ltE st (r * 480 + w * 80 + 0 * 4) 4).2 : Int32) = ((ltE st (r * 480 + w * 80 + 0 * 4) 4).2 : Int32) from by first | rfl | (congr <;> omega) | simp_all)
abbrev rmX3_greatest : Room := { frames := 3, cells := 0, slots := 0, locals := 69 }
set_option maxHeartbeats 4000000 in
set_option maxRecDepth 100000 in
theorem c_X3_greatest (l : Launch) (D : va_G) (sz : Nat) (cI cR cC : ClassId) (x9 : Nat) (q : Nat → Nat) (st : St) (h9 : Nat → Nat) (ad : Nat → Nat → Nat) (sv : Nat → St) (ol n7 n8 : Nat) (t9 : Nat → Nat) (tx : Nat → Nat) (ln po : Nat) (ki rp tg nu : Int32) (r w : Nat) (hh : hI ol n7 n8) (hr : r < 4) (hw5 : w < 6) : MXi l yX3_greatest wsX3_greatest rmX3_greatest [.ref x9, .int (nI r), .int (nI w)] D [(cI, .int), (cR, .object RX1), (cC, .char)] ([(x9, .inr (3, [.ref (q 0), .ref (h9 0), .ref (t9 0)]))] ++ wS cI q st ++ wR cR h9 (fr7 ad n8) ol n7 ++ wT cC t9 tx ln po ki rp tg nu ++ wP cI ad sv n8) sz (fun rz (u9 : Unit) => rz = grE st (r * 480 + w * 80 + 2 * 4) 4) (fun u9 => []) (fun u9 => [(x9, .inr (3, [.ref (q 0), .ref (h9 0), .ref (t9 0)]))] ++ wS cI q st ++ wR cR h9 (fr7 ad n8) ol n7 ++ wT cC t9 tx ln po ki rp tg nu ++ wP cI ad sv n8) 0 0 := by
  refine met_xu (own := RX3) (cc := cX3_greatest) (maxL := 3) (ty := .int) (by decide) rfl rfl (Nat.le_of_ble_eq_true rfl) ?_
  intro p e s m args below meth c Q A hsz S hz hw hA hE ls hl
  obtain ⟨hx, hb, hml, hown, hts⟩ := id S
  have k10 := hts (.fieldLink RX3 10 "CausalTable" "state" "LCausalTable$State;") (by decide +kernel)
  have hin3 := (show ∀ w ∈ wsX30, w ∈ wsX3_greatest by decide +kernel)
  have hl : lv_has ls 3 [(0, .ref x9), (1, .int (nI r)), (2, .int (nI w))] := hl
  refine lv_iload_n hx hb dX3_greatest_0 rfl (lv_at hl 1 rfl) ?_
  refine cp_Sv (As := [.int (nI r)]) (rest := []) S (c_X3_checkReplica l D (sz := s.heap.size) (r := r) (hr := by omega)) (va_cwS 1 hts gX3_greatest_X3_checkReplica rfl rfl rfl (by decide +kernel) ⟨Nat.le_of_ble_eq_true rfl, Nat.le_of_ble_eq_true rfl⟩) hw hA rfl hl.1 (Nat.le_of_ble_eq_true rfl) ⟨Nat.le_of_ble_eq_true rfl, Nat.le_of_ble_eq_true rfl⟩ rfl dX3_greatest_1 (fun H locs hw => ?_)
  have hw : Wd D A [(cI, .int), (cR, .object RX1), (cC, .char)] ([(x9, .inr (3, [.ref (q 0), .ref (h9 0), .ref (t9 0)]))] ++ wS cI q st ++ wR cR h9 (fr7 ad n8) ol n7 ++ wT cC t9 tx ln po ki rp tg nu ++ wP cI ad sv n8) s s.heap H locs := hw
  refine lv_iload_n hx hb dX3_greatest_4 rfl (lv_at hl 2 rfl) ?_
  refine cp_Sv (As := [.int (nI w)]) (rest := []) S (c_X3_checkRow l D (sz := H.size) (w := w) (hw5 := by omega)) (va_cwS 1 hts gX3_greatest_X3_checkRow rfl rfl rfl (by decide +kernel) ⟨Nat.le_of_ble_eq_true rfl, Nat.le_of_ble_eq_true rfl⟩) hw hA rfl hl.1 (Nat.le_of_ble_eq_true rfl) ⟨Nat.le_of_ble_eq_true rfl, Nat.le_of_ble_eq_true rfl⟩ rfl dX3_greatest_5 (fun H locs hw => ?_)
  have hw : Wd D A [(cI, .int), (cR, .object RX1), (cC, .char)] ([(x9, .inr (3, [.ref (q 0), .ref (h9 0), .ref (t9 0)]))] ++ wS cI q st ++ wR cR h9 (fr7 ad n8) ol n7 ++ wT cC t9 tx ln po ki rp tg nu ++ wP cI ad sv n8) s s.heap H locs := hw
  refine lv_aload_n hx hb dX3_greatest_8 rfl (lv_at hl 0 rfl) ?_
  refine r_get hx hb hts hown hw.q 0 0 hin3 rfl rfl (by decide) k10 rfl dX3_greatest_9 ?_
  refine lv_iload_n hx hb dX3_greatest_12 rfl (lv_at hl 1 rfl) ?_
  refine lv_iload_n hx hb dX3_greatest_13 rfl (lv_at hl 2 rfl) ?_
  refine cq_V (As := [.int (nI r), .int (nI w)]) (rest := []) S (c_X1_greatestValue l D (cI := cI) (q := q) (st := st) (r := r) (w := w) (hr := by omega) (hw5 := by omega)) (cwV 2 hts gX3_greatest_X1_greatestValue rfl rfl rfl (by decide +kernel) ⟨Nat.le_of_ble_eq_true rfl, Nat.le_of_ble_eq_true rfl⟩) (hw.q.sub [1, 2, 3, 4, 5, 6, 7] [0] rfl rfl) 0 rfl rfl rfl hl.1 (Nat.le_of_ble_eq_true rfl) ⟨Nat.le_of_ble_eq_true rfl, Nat.le_of_ble_eq_true rfl⟩ rfl dX3_greatest_14 (fun r_14 e_14 => ?_)
  have e_14 : r_14 = grE st (r * 480 + w * 80 + 2 * 4) 4 := e_14
  subst e_14
  exact hE () dX3_greatest_17 (rfl) (Nat.le_of_ble_eq_true rfl) (Nat.le_of_ble_eq_true rfl) ⟨⟨hw.1.1, fun k q hk => by cases hk⟩, hw.2.1, hw.2.2.1, hw.2.2.2⟩ (show (grE st (r * 480 + w * 80 + 2 * 4) 4 : Int32) = (grE st (r * 480 + w * 80 + 2 * 4) 4 : Int32) from by first | rfl | (congr <;> omega) | simp_all)
abbrev rmX3_counter : Room := { frames := 3, cells := 0, slots := 0, locals := 70 }
set_option maxHeartbeats 4000000 in
set_option maxRecDepth 100000 in
theorem c_X3_counter (l : Launch) (D : va_G) (sz : Nat) (cI cR cC : ClassId) (x9 : Nat) (q : Nat → Nat) (st : St) (h9 : Nat → Nat) (ad : Nat → Nat → Nat) (sv : Nat → St) (ol n7 n8 : Nat) (t9 : Nat → Nat) (tx : Nat → Nat) (ln po : Nat) (ki rp tg nu : Int32) (r w : Nat) (hh : hI ol n7 n8) (hr : r < 4) (hw5 : w < 6) : MXi l yX3_counter wsX3_counter rmX3_counter [.ref x9, .int (nI r), .int (nI w)] D [(cI, .int), (cR, .object RX1), (cC, .char)] ([(x9, .inr (3, [.ref (q 0), .ref (h9 0), .ref (t9 0)]))] ++ wS cI q st ++ wR cR h9 (fr7 ad n8) ol n7 ++ wT cC t9 tx ln po ki rp tg nu ++ wP cI ad sv n8) sz (fun rz (u9 : Unit) => rz = smE st (r * 480 + w * 80 + 3 * 4) (cE 3 * 4 - 3 * 4)) (fun u9 => []) (fun u9 => [(x9, .inr (3, [.ref (q 0), .ref (h9 0), .ref (t9 0)]))] ++ wS cI q st ++ wR cR h9 (fr7 ad n8) ol n7 ++ wT cC t9 tx ln po ki rp tg nu ++ wP cI ad sv n8) 0 0 := by
  refine met_xu (own := RX3) (cc := cX3_counter) (maxL := 3) (ty := .int) (by decide) rfl rfl (Nat.le_of_ble_eq_true rfl) ?_
  intro p e s m args below meth c Q A hsz S hz hw hA hE ls hl
  obtain ⟨hx, hb, hml, hown, hts⟩ := id S
  have k10 := hts (.fieldLink RX3 10 "CausalTable" "state" "LCausalTable$State;") (by decide +kernel)
  have hin3 := (show ∀ w ∈ wsX30, w ∈ wsX3_counter by decide +kernel)
  have hl : lv_has ls 3 [(0, .ref x9), (1, .int (nI r)), (2, .int (nI w))] := hl
  refine lv_iload_n hx hb dX3_counter_0 rfl (lv_at hl 1 rfl) ?_
  refine cp_Sv (As := [.int (nI r)]) (rest := []) S (c_X3_checkReplica l D (sz := s.heap.size) (r := r) (hr := by omega)) (va_cwS 1 hts gX3_counter_X3_checkReplica rfl rfl rfl (by decide +kernel) ⟨Nat.le_of_ble_eq_true rfl, Nat.le_of_ble_eq_true rfl⟩) hw hA rfl hl.1 (Nat.le_of_ble_eq_true rfl) ⟨Nat.le_of_ble_eq_true rfl, Nat.le_of_ble_eq_true rfl⟩ rfl dX3_counter_1 (fun H locs hw => ?_)
  have hw : Wd D A [(cI, .int), (cR, .object RX1), (cC, .char)] ([(x9, .inr (3, [.ref (q 0), .ref (h9 0), .ref (t9 0)]))] ++ wS cI q st ++ wR cR h9 (fr7 ad n8) ol n7 ++ wT cC t9 tx ln po ki rp tg nu ++ wP cI ad sv n8) s s.heap H locs := hw
  refine lv_iload_n hx hb dX3_counter_4 rfl (lv_at hl 2 rfl) ?_
  refine cp_Sv (As := [.int (nI w)]) (rest := []) S (c_X3_checkRow l D (sz := H.size) (w := w) (hw5 := by omega)) (va_cwS 1 hts gX3_counter_X3_checkRow rfl rfl rfl (by decide +kernel) ⟨Nat.le_of_ble_eq_true rfl, Nat.le_of_ble_eq_true rfl⟩) hw hA rfl hl.1 (Nat.le_of_ble_eq_true rfl) ⟨Nat.le_of_ble_eq_true rfl, Nat.le_of_ble_eq_true rfl⟩ rfl dX3_counter_5 (fun H locs hw => ?_)
  have hw : Wd D A [(cI, .int), (cR, .object RX1), (cC, .char)] ([(x9, .inr (3, [.ref (q 0), .ref (h9 0), .ref (t9 0)]))] ++ wS cI q st ++ wR cR h9 (fr7 ad n8) ol n7 ++ wT cC t9 tx ln po ki rp tg nu ++ wP cI ad sv n8) s s.heap H locs := hw
  refine lv_aload_n hx hb dX3_counter_8 rfl (lv_at hl 0 rfl) ?_
  refine r_get hx hb hts hown hw.q 0 0 hin3 rfl rfl (by decide) k10 rfl dX3_counter_9 ?_
  refine lv_iload_n hx hb dX3_counter_12 rfl (lv_at hl 1 rfl) ?_
  refine lv_iload_n hx hb dX3_counter_13 rfl (lv_at hl 2 rfl) ?_
  refine lv_iconst (v := nI 3) hx hb dX3_counter_14 kc_iconst_3 ?_
  refine cq_V (As := [.int (nI r), .int (nI w), .int (nI 3)]) (rest := []) S (c_X1_sumOfCell l D (cI := cI) (q := q) (st := st) (r := r) (w := w) (g := 3) (hr := by omega) (hw5 := by omega) (hg := by omega)) (cwV 3 hts gX3_counter_X1_sumOfCell rfl rfl rfl (by decide +kernel) ⟨Nat.le_of_ble_eq_true rfl, Nat.le_of_ble_eq_true rfl⟩) (hw.q.sub [1, 2, 3, 4, 5, 6, 7] [0] rfl rfl) 0 rfl rfl rfl hl.1 (Nat.le_of_ble_eq_true rfl) ⟨Nat.le_of_ble_eq_true rfl, Nat.le_of_ble_eq_true rfl⟩ rfl dX3_counter_15 (fun r_15 e_15 => ?_)
  have e_15 : r_15 = smE st (r * 480 + w * 80 + 3 * 4) (cE 3 * 4 - 3 * 4) := e_15
  subst e_15
  exact hE () dX3_counter_18 (rfl) (Nat.le_of_ble_eq_true rfl) (Nat.le_of_ble_eq_true rfl) ⟨⟨hw.1.1, fun k q hk => by cases hk⟩, hw.2.1, hw.2.2.1, hw.2.2.2⟩ (show (smE st (r * 480 + w * 80 + 3 * 4) (cE 3 * 4 - 3 * 4) : Int32) = (smE st (r * 480 + w * 80 + 3 * 4) (cE 3 * 4 - 3 * 4) : Int32) from by first | rfl | (congr <;> omega) | simp_all)
abbrev rmX3_elements : Room := { frames := 3, cells := 0, slots := 0, locals := 69 }
set_option maxHeartbeats 4000000 in
set_option maxRecDepth 100000 in
theorem c_X3_elements (l : Launch) (D : va_G) (sz : Nat) (cI cR cC : ClassId) (x9 : Nat) (q : Nat → Nat) (st : St) (h9 : Nat → Nat) (ad : Nat → Nat → Nat) (sv : Nat → St) (ol n7 n8 : Nat) (t9 : Nat → Nat) (tx : Nat → Nat) (ln po : Nat) (ki rp tg nu : Int32) (r w : Nat) (hh : hI ol n7 n8) (hr : r < 4) (hw5 : w < 6) : MXi l yX3_elements wsX3_elements rmX3_elements [.ref x9, .int (nI r), .int (nI w)] D [(cI, .int), (cR, .object RX1), (cC, .char)] ([(x9, .inr (3, [.ref (q 0), .ref (h9 0), .ref (t9 0)]))] ++ wS cI q st ++ wR cR h9 (fr7 ad n8) ol n7 ++ wT cC t9 tx ln po ki rp tg nu ++ wP cI ad sv n8) sz (fun rz (u9 : Unit) => rz = ebE st (r * 480 + w * 80 + 4 * 4) 64) (fun u9 => []) (fun u9 => [(x9, .inr (3, [.ref (q 0), .ref (h9 0), .ref (t9 0)]))] ++ wS cI q st ++ wR cR h9 (fr7 ad n8) ol n7 ++ wT cC t9 tx ln po ki rp tg nu ++ wP cI ad sv n8) 0 0 := by
  refine met_xu (own := RX3) (cc := cX3_elements) (maxL := 3) (ty := .int) (by decide) rfl rfl (Nat.le_of_ble_eq_true rfl) ?_
  intro p e s m args below meth c Q A hsz S hz hw hA hE ls hl
  obtain ⟨hx, hb, hml, hown, hts⟩ := id S
  have k10 := hts (.fieldLink RX3 10 "CausalTable" "state" "LCausalTable$State;") (by decide +kernel)
  have hin3 := (show ∀ w ∈ wsX30, w ∈ wsX3_elements by decide +kernel)
  have hl : lv_has ls 3 [(0, .ref x9), (1, .int (nI r)), (2, .int (nI w))] := hl
  refine lv_iload_n hx hb dX3_elements_0 rfl (lv_at hl 1 rfl) ?_
  refine cp_Sv (As := [.int (nI r)]) (rest := []) S (c_X3_checkReplica l D (sz := s.heap.size) (r := r) (hr := by omega)) (va_cwS 1 hts gX3_elements_X3_checkReplica rfl rfl rfl (by decide +kernel) ⟨Nat.le_of_ble_eq_true rfl, Nat.le_of_ble_eq_true rfl⟩) hw hA rfl hl.1 (Nat.le_of_ble_eq_true rfl) ⟨Nat.le_of_ble_eq_true rfl, Nat.le_of_ble_eq_true rfl⟩ rfl dX3_elements_1 (fun H locs hw => ?_)
  have hw : Wd D A [(cI, .int), (cR, .object RX1), (cC, .char)] ([(x9, .inr (3, [.ref (q 0), .ref (h9 0), .ref (t9 0)]))] ++ wS cI q st ++ wR cR h9 (fr7 ad n8) ol n7 ++ wT cC t9 tx ln po ki rp tg nu ++ wP cI ad sv n8) s s.heap H locs := hw
  refine lv_iload_n hx hb dX3_elements_4 rfl (lv_at hl 2 rfl) ?_
  refine cp_Sv (As := [.int (nI w)]) (rest := []) S (c_X3_checkRow l D (sz := H.size) (w := w) (hw5 := by omega)) (va_cwS 1 hts gX3_elements_X3_checkRow rfl rfl rfl (by decide +kernel) ⟨Nat.le_of_ble_eq_true rfl, Nat.le_of_ble_eq_true rfl⟩) hw hA rfl hl.1 (Nat.le_of_ble_eq_true rfl) ⟨Nat.le_of_ble_eq_true rfl, Nat.le_of_ble_eq_true rfl⟩ rfl dX3_elements_5 (fun H locs hw => ?_)
  have hw : Wd D A [(cI, .int), (cR, .object RX1), (cC, .char)] ([(x9, .inr (3, [.ref (q 0), .ref (h9 0), .ref (t9 0)]))] ++ wS cI q st ++ wR cR h9 (fr7 ad n8) ol n7 ++ wT cC t9 tx ln po ki rp tg nu ++ wP cI ad sv n8) s s.heap H locs := hw
  refine lv_aload_n hx hb dX3_elements_8 rfl (lv_at hl 0 rfl) ?_
  refine r_get hx hb hts hown hw.q 0 0 hin3 rfl rfl (by decide) k10 rfl dX3_elements_9 ?_
  refine lv_iload_n hx hb dX3_elements_12 rfl (lv_at hl 1 rfl) ?_
  refine lv_iload_n hx hb dX3_elements_13 rfl (lv_at hl 2 rfl) ?_
  refine cq_V (As := [.int (nI r), .int (nI w)]) (rest := []) S (c_X1_elementBits l D (cI := cI) (q := q) (st := st) (r := r) (w := w) (hr := by omega) (hw5 := by omega)) (cwV 2 hts gX3_elements_X1_elementBits rfl rfl rfl (by decide +kernel) ⟨Nat.le_of_ble_eq_true rfl, Nat.le_of_ble_eq_true rfl⟩) (hw.q.sub [1, 2, 3, 4, 5, 6, 7] [0] rfl rfl) 0 rfl rfl rfl hl.1 (Nat.le_of_ble_eq_true rfl) ⟨Nat.le_of_ble_eq_true rfl, Nat.le_of_ble_eq_true rfl⟩ rfl dX3_elements_14 (fun r_14 e_14 => ?_)
  have e_14 : r_14 = ebE st (r * 480 + w * 80 + 4 * 4) 64 := e_14
  subst e_14
  exact hE () dX3_elements_17 (rfl) (Nat.le_of_ble_eq_true rfl) (Nat.le_of_ble_eq_true rfl) ⟨⟨hw.1.1, fun k q hk => by cases hk⟩, hw.2.1, hw.2.2.1, hw.2.2.2⟩ (show (ebE st (r * 480 + w * 80 + 4 * 4) 64 : Int32) = (ebE st (r * 480 + w * 80 + 4 * 4) 64 : Int32) from by first | rfl | (congr <;> omega) | simp_all)
abbrev rmX3_exists : Room := { frames := 2, cells := 0, slots := 0, locals := 46 }
set_option maxHeartbeats 4000000 in
set_option maxRecDepth 100000 in
theorem c_X3_exists (l : Launch) (D : va_G) (sz : Nat) (cI cR cC : ClassId) (x9 : Nat) (q : Nat → Nat) (st : St) (h9 : Nat → Nat) (ad : Nat → Nat → Nat) (sv : Nat → St) (ol n7 n8 : Nat) (t9 : Nat → Nat) (tx : Nat → Nat) (ln po : Nat) (ki rp tg nu : Int32) (r w : Nat) (hh : hI ol n7 n8) (hr : r < 4) (hw5 : w < 6) : MXi l yX3_exists wsX3_exists rmX3_exists [.ref x9, .int (nI r), .int (nI w)] D [(cI, .int), (cR, .object RX1), (cC, .char)] ([(x9, .inr (3, [.ref (q 0), .ref (h9 0), .ref (t9 0)]))] ++ wS cI q st ++ wR cR h9 (fr7 ad n8) ol n7 ++ wT cC t9 tx ln po ki rp tg nu ++ wP cI ad sv n8) sz (fun rz (u9 : Unit) => rz = b2 (0 < cntE st.1 (r * 480 + w * 80 + 0 * 4) 80)) (fun u9 => []) (fun u9 => [(x9, .inr (3, [.ref (q 0), .ref (h9 0), .ref (t9 0)]))] ++ wS cI q st ++ wR cR h9 (fr7 ad n8) ol n7 ++ wT cC t9 tx ln po ki rp tg nu ++ wP cI ad sv n8) 0 0 := by
  refine met_xu (own := RX3) (cc := cX3_exists) (maxL := 3) (ty := .boolean) (by decide) rfl rfl (Nat.le_of_ble_eq_true rfl) ?_
  intro p e s m args below meth c Q A hsz S hz hw hA hE ls hl
  obtain ⟨hx, hb, hml, hown, hts⟩ := id S
  have k10 := hts (.fieldLink RX3 10 "CausalTable" "state" "LCausalTable$State;") (by decide +kernel)
  have hin3 := (show ∀ w ∈ wsX30, w ∈ wsX3_exists by decide +kernel)
  have hl : lv_has ls 3 [(0, .ref x9), (1, .int (nI r)), (2, .int (nI w))] := hl
  refine lv_iload_n hx hb dX3_exists_0 rfl (lv_at hl 1 rfl) ?_
  refine cp_Sv (As := [.int (nI r)]) (rest := []) S (c_X3_checkReplica l D (sz := s.heap.size) (r := r) (hr := by omega)) (va_cwS 1 hts gX3_exists_X3_checkReplica rfl rfl rfl (by decide +kernel) ⟨Nat.le_of_ble_eq_true rfl, Nat.le_of_ble_eq_true rfl⟩) hw hA rfl hl.1 (Nat.le_of_ble_eq_true rfl) ⟨Nat.le_of_ble_eq_true rfl, Nat.le_of_ble_eq_true rfl⟩ rfl dX3_exists_1 (fun H locs hw => ?_)
  have hw : Wd D A [(cI, .int), (cR, .object RX1), (cC, .char)] ([(x9, .inr (3, [.ref (q 0), .ref (h9 0), .ref (t9 0)]))] ++ wS cI q st ++ wR cR h9 (fr7 ad n8) ol n7 ++ wT cC t9 tx ln po ki rp tg nu ++ wP cI ad sv n8) s s.heap H locs := hw
  refine lv_iload_n hx hb dX3_exists_4 rfl (lv_at hl 2 rfl) ?_
  refine cp_Sv (As := [.int (nI w)]) (rest := []) S (c_X3_checkRow l D (sz := H.size) (w := w) (hw5 := by omega)) (va_cwS 1 hts gX3_exists_X3_checkRow rfl rfl rfl (by decide +kernel) ⟨Nat.le_of_ble_eq_true rfl, Nat.le_of_ble_eq_true rfl⟩) hw hA rfl hl.1 (Nat.le_of_ble_eq_true rfl) ⟨Nat.le_of_ble_eq_true rfl, Nat.le_of_ble_eq_true rfl⟩ rfl dX3_exists_5 (fun H locs hw => ?_)
  have hw : Wd D A [(cI, .int), (cR, .object RX1), (cC, .char)] ([(x9, .inr (3, [.ref (q 0), .ref (h9 0), .ref (t9 0)]))] ++ wS cI q st ++ wR cR h9 (fr7 ad n8) ol n7 ++ wT cC t9 tx ln po ki rp tg nu ++ wP cI ad sv n8) s s.heap H locs := hw
  refine lv_aload_n hx hb dX3_exists_8 rfl (lv_at hl 0 rfl) ?_
  refine r_get hx hb hts hown hw.q 0 0 hin3 rfl rfl (by decide) k10 rfl dX3_exists_9 ?_
  refine lv_iload_n hx hb dX3_exists_12 rfl (lv_at hl 1 rfl) ?_
  refine lv_iload_n hx hb dX3_exists_13 rfl (lv_at hl 2 rfl) ?_
  refine cq_V (As := [.int (nI r), .int (nI w)]) (rest := []) S (c_X1_holdsRow l D (cI := cI) (q := q) (st := st) (r := r) (w := w) (hr := by omega) (hw5 := by omega)) (cwV 2 hts gX3_exists_X1_holdsRow rfl rfl rfl (by decide +kernel) ⟨Nat.le_of_ble_eq_true rfl, Nat.le_of_ble_eq_true rfl⟩) (hw.q.sub [1, 2, 3, 4, 5, 6, 7] [0] rfl rfl) 0 rfl rfl rfl hl.1 (Nat.le_of_ble_eq_true rfl) ⟨Nat.le_of_ble_eq_true rfl, Nat.le_of_ble_eq_true rfl⟩ rfl dX3_exists_14 (fun r_14 e_14 => ?_)
  have e_14 : r_14 = b2 (0 < cntE st.1 (r * 480 + w * 80 + 0 * 4) 80) := e_14
  subst e_14
  exact hE () dX3_exists_17 (by first | rfl | exact b2_nz) (Nat.le_of_ble_eq_true rfl) (Nat.le_of_ble_eq_true rfl) ⟨⟨hw.1.1, fun k q hk => by cases hk⟩, hw.2.1, hw.2.2.1, hw.2.2.2⟩ (show (b2 (0 < cntE st.1 (r * 480 + w * 80 + 0 * 4) 80) : Int32) = (b2 (0 < cntE st.1 (r * 480 + w * 80 + 0 * 4) 80) : Int32) from by first | rfl | (congr <;> omega) | simp_all)
abbrev rmX3_include : Room := { frames := 4, cells := 7, slots := 5790, locals := 122 }
set_option maxHeartbeats 4000000 in
set_option maxRecDepth 100000 in
theorem c_X3_include (l : Launch) (D : va_G) (sz : Nat) (cI cR cC : ClassId) (x9 : Nat) (q : Nat → Nat) (st : St) (h9 : Nat → Nat) (ad : Nat → Nat → Nat) (sv : Nat → St) (ol n7 n8 : Nat) (t9 : Nat → Nat) (tx : Nat → Nat) (ln po : Nat) (ki rp tg nu : Int32) (r w e9 : Nat) (hh : hI ol n7 n8) (hr : r < 4) (hw5 : w < 6) (he : e9 < 16) : MXi l yX3_include wsX3_include rmX3_include [.ref x9, .int (nI r), .int (nI w), .int (nI e9)] D [(cI, .int), (cR, .object RX1), (cC, .char)] ([(x9, .inr (3, [.ref (q 0), .ref (h9 0), .ref (t9 0)]))] ++ wS cI q st ++ wR cR h9 (fr7 ad n8) ol n7 ++ wT cC t9 tx ln po ki rp tg nu ++ wP cI ad sv n8) sz (fun rz (u9 : Nat × (Nat → Nat → Nat)) => rz = nI (cntE st.1 (r * 480 + w * 80 + (4 + e9) * 4) 4) ∧ hI (olN ol n7) (n7N n7) u9.1) (fun u9 => []) (fun u9 => [(x9, .inr (3, [.ref (q 0), .ref (h9 0), .ref (t9 0)]))] ++ wS cI q (incS st r w e9) ++ wR cR h9 (fr7 u9.2 u9.1) (olN ol n7) (n7N n7) ++ wT cC t9 tx ln po ki rp tg nu ++ wP cI u9.2 (va_up sv (slN ol n7) st) u9.1) 7 5790 := by
  refine met_xu (own := RX3) (cc := cX3_include) (maxL := 4) (ty := .int) (by decide) rfl rfl (Nat.le_of_ble_eq_true rfl) ?_
  intro p e s m args below meth c Q A hsz S hz hw hA hE ls hl
  obtain ⟨hx, hb, hml, hown, hts⟩ := id S
  have k19 := hts (.fieldLink RX3 19 "CausalTable" "history" "LCausalTable$History;") (by decide +kernel)
  have hin3 := (show ∀ w ∈ wsX30, w ∈ wsX3_include by decide +kernel)
  have k10 := hts (.fieldLink RX3 10 "CausalTable" "state" "LCausalTable$State;") (by decide +kernel)
  have hl : lv_has ls 4 [(0, .ref x9), (1, .int (nI r)), (2, .int (nI w)), (3, .int (nI e9))] := hl
  refine lv_iload_n hx hb dX3_include_0 rfl (lv_at hl 1 rfl) ?_
  refine cp_Sv (As := [.int (nI r)]) (rest := []) S (c_X3_checkReplica l D (sz := s.heap.size) (r := r) (hr := by omega)) (va_cwS 1 hts gX3_include_X3_checkReplica rfl rfl rfl (by decide +kernel) ⟨Nat.le_of_ble_eq_true rfl, Nat.le_of_ble_eq_true rfl⟩) hw hA rfl hl.1 (Nat.le_of_ble_eq_true rfl) ⟨Nat.le_of_ble_eq_true rfl, Nat.le_of_ble_eq_true rfl⟩ rfl dX3_include_1 (fun H locs hw => ?_)
  have hw : Wd D A [(cI, .int), (cR, .object RX1), (cC, .char)] ([(x9, .inr (3, [.ref (q 0), .ref (h9 0), .ref (t9 0)]))] ++ wS cI q st ++ wR cR h9 (fr7 ad n8) ol n7 ++ wT cC t9 tx ln po ki rp tg nu ++ wP cI ad sv n8) s s.heap H locs := hw
  refine lv_iload_n hx hb dX3_include_4 rfl (lv_at hl 2 rfl) ?_
  refine cp_Sv (As := [.int (nI w)]) (rest := []) S (c_X3_checkRow l D (sz := H.size) (w := w) (hw5 := by omega)) (va_cwS 1 hts gX3_include_X3_checkRow rfl rfl rfl (by decide +kernel) ⟨Nat.le_of_ble_eq_true rfl, Nat.le_of_ble_eq_true rfl⟩) hw hA rfl hl.1 (Nat.le_of_ble_eq_true rfl) ⟨Nat.le_of_ble_eq_true rfl, Nat.le_of_ble_eq_true rfl⟩ rfl dX3_include_5 (fun H locs hw => ?_)
  have hw : Wd D A [(cI, .int), (cR, .object RX1), (cC, .char)] ([(x9, .inr (3, [.ref (q 0), .ref (h9 0), .ref (t9 0)]))] ++ wS cI q st ++ wR cR h9 (fr7 ad n8) ol n7 ++ wT cC t9 tx ln po ki rp tg nu ++ wP cI ad sv n8) s s.heap H locs := hw
  refine lv_iload_n hx hb dX3_include_8 rfl (lv_at hl 3 rfl) ?_
  refine cp_Sv (As := [.int (nI e9)]) (rest := []) S (c_X3_checkElement l D (sz := H.size) (e9 := e9) (he := by omega)) (va_cwS 1 hts gX3_include_X3_checkElement rfl rfl rfl (by decide +kernel) ⟨Nat.le_of_ble_eq_true rfl, Nat.le_of_ble_eq_true rfl⟩) hw hA rfl hl.1 (Nat.le_of_ble_eq_true rfl) ⟨Nat.le_of_ble_eq_true rfl, Nat.le_of_ble_eq_true rfl⟩ rfl dX3_include_9 (fun H locs hw => ?_)
  have hw : Wd D A [(cI, .int), (cR, .object RX1), (cC, .char)] ([(x9, .inr (3, [.ref (q 0), .ref (h9 0), .ref (t9 0)]))] ++ wS cI q st ++ wR cR h9 (fr7 ad n8) ol n7 ++ wT cC t9 tx ln po ki rp tg nu ++ wP cI ad sv n8) s s.heap H locs := hw
  refine lv_aload_n hx hb dX3_include_12 rfl (lv_at hl 0 rfl) ?_
  refine r_get hx hb hts hown hw.q 0 1 hin3 rfl rfl (by decide) k19 rfl dX3_include_13 ?_
  refine lv_aload_n hx hb dX3_include_16 rfl (lv_at hl 0 rfl) ?_
  refine r_get hx hb hts hown hw.q 0 0 hin3 rfl rfl (by decide) k10 rfl dX3_include_17 ?_
  refine cp_Vx (w1 := fun (u9 : Nat × (Nat → Nat → Nat)) => wR cR h9 (fr7 u9.2 u9.1) (olN ol n7) (n7N n7) ++ wS cI q st) (pl := fun (u9 : Nat × (Nat → Nat → Nat)) => wP cI u9.2 (va_up sv (slN ol n7) st) u9.1) (As := [.ref (q 0)]) (rest := []) (wc := wR cR h9 (fr7 ad n8) ol n7 ++ wS cI q st) (wr := [(x9, .inr (3, [.ref (q 0), .ref (h9 0), .ref (t9 0)]))] ++ wT cC t9 tx ln po ki rp tg nu) S hz (c_X0_save l D (sz := H.size) (cI := cI) (cR := cR) (h9 := h9) (ad := ad) (sv := sv) (ol := ol) (n7 := n7) (m := n8) (q := q) (st := st) (hh := hh)) (cwV 1 hts gX3_include_X0_save rfl rfl rfl (by decide +kernel) ⟨Nat.le_of_ble_eq_true rfl, Nat.le_of_ble_eq_true rfl⟩) hw hA [8, 9, 1, 2, 3, 4, 5, 6, 7] [0, 10, 11] [0, 1] rfl rfl (k0 := 12) rfl (by decide) rfl 0 rfl rfl rfl hl.1 (Nat.le_of_ble_eq_true rfl) ⟨Nat.le_of_ble_eq_true rfl, Nat.le_of_ble_eq_true rfl⟩ rfl dX3_include_20 (fun u_20 H locs e_20 hw => ?_)
  obtain ⟨u0_20, u1_20⟩ := u_20
  have hw : Wd D A [(cI, .int), (cR, .object RX1), (cC, .char)] (wR cR h9 (fr7 u1_20 u0_20) (olN ol n7) (n7N n7) ++ wS cI q st ++ [(x9, .inr (3, [.ref (q 0), .ref (h9 0), .ref (t9 0)]))] ++ wT cC t9 tx ln po ki rp tg nu ++ wP cI u1_20 (va_up sv (slN ol n7) st) u0_20) s s.heap H locs := hw
  refine lv_aload_n hx hb dX3_include_23 rfl (lv_at hl 0 rfl) ?_
  refine r_get hx hb hts hown hw.q 9 0 hin3 rfl rfl (by decide) k10 rfl dX3_include_24 ?_
  refine lv_iload_n hx hb dX3_include_27 rfl (lv_at hl 1 rfl) ?_
  refine lv_iload_n hx hb dX3_include_28 rfl (lv_at hl 2 rfl) ?_
  refine lv_iload_n hx hb dX3_include_29 rfl (lv_at hl 3 rfl) ?_
  refine cp_Vi (As := [.int (nI r), .int (nI w), .int (nI e9)]) (rest := []) (wc := wS cI q st) (wr := wR cR h9 (fr7 u1_20 u0_20) (olN ol n7) (n7N n7) ++ [(x9, .inr (3, [.ref (q 0), .ref (h9 0), .ref (t9 0)]))] ++ wT cC t9 tx ln po ki rp tg nu) S (c_X1_includeElement l D (sz := H.size) (cI := cI) (q := q) (st := st) (r := r) (w := w) (e9 := e9) (hr := by omega) (hw5 := by omega) (he := by omega)) (cwV 3 hts gX3_include_X1_includeElement rfl rfl rfl (by decide +kernel) ⟨Nat.le_of_ble_eq_true rfl, Nat.le_of_ble_eq_true rfl⟩) hw hA [2, 3, 4, 5, 6, 7, 8] [0, 1, 9, 10, 11] [0] rfl rfl (k0 := 12) rfl (by decide) rfl 0 rfl rfl rfl hl.1 (Nat.le_of_ble_eq_true rfl) ⟨Nat.le_of_ble_eq_true rfl, Nat.le_of_ble_eq_true rfl⟩ rfl dX3_include_30 (fun r_30 u_30 H locs e_30 hw => ?_)
  have hw : Wd D A [(cI, .int), (cR, .object RX1), (cC, .char)] (wS cI q (incS st r w e9) ++ wR cR h9 (fr7 u1_20 u0_20) (olN ol n7) (n7N n7) ++ [(x9, .inr (3, [.ref (q 0), .ref (h9 0), .ref (t9 0)]))] ++ wT cC t9 tx ln po ki rp tg nu ++ wP cI u1_20 (va_up sv (slN ol n7) st) u0_20) s s.heap H locs := hw
  have e_30 : r_30 = nI (cntE st.1 (r * 480 + w * 80 + (4 + e9) * 4) 4) := e_30
  subst e_30
  have hw : Wd D A [(cI, .int), (cR, .object RX1), (cC, .char)] ([(x9, .inr (3, [.ref (q 0), .ref (h9 0), .ref (t9 0)]))] ++ wS cI q (incS st r w e9) ++ wR cR h9 (fr7 u1_20 u0_20) (olN ol n7) (n7N n7) ++ wT cC t9 tx ln po ki rp tg nu ++ wP cI u1_20 (va_up sv (slN ol n7) st) u0_20) s s.heap H locs := hw.ord [9, 0, 1, 2, 3, 4, 5, 6, 7, 8, 10, 11] (k0 := 12) rfl rfl (by decide)
  exact hE (u0_20, u1_20) dX3_include_33 (rfl) (Nat.le_of_ble_eq_true rfl) (Nat.le_of_ble_eq_true rfl) ⟨⟨hw.1.1, fun k q hk => by cases hk⟩, hw.2.1, hw.2.2.1, hw.2.2.2⟩ (⟨show (nI (cntE st.1 (r * 480 + w * 80 + (4 + e9) * 4) 4) : Int32) = (nI (cntE st.1 (r * 480 + w * 80 + (4 + e9) * 4) 4) : Int32) from by first | rfl | (congr <;> omega) | simp_all, e_20⟩)
abbrev rmX3_exclude : Room := { frames := 4, cells := 7, slots := 5790, locals := 122 }
set_option maxHeartbeats 4000000 in
set_option maxRecDepth 100000 in
theorem c_X3_exclude (l : Launch) (D : va_G) (sz : Nat) (cI cR cC : ClassId) (x9 : Nat) (q : Nat → Nat) (st : St) (h9 : Nat → Nat) (ad : Nat → Nat → Nat) (sv : Nat → St) (ol n7 n8 : Nat) (t9 : Nat → Nat) (tx : Nat → Nat) (ln po : Nat) (ki rp tg nu : Int32) (r w e9 : Nat) (hh : hI ol n7 n8) (hr : r < 4) (hw5 : w < 6) (he : e9 < 16) : MXi l yX3_exclude wsX3_exclude rmX3_exclude [.ref x9, .int (nI r), .int (nI w), .int (nI e9)] D [(cI, .int), (cR, .object RX1), (cC, .char)] ([(x9, .inr (3, [.ref (q 0), .ref (h9 0), .ref (t9 0)]))] ++ wS cI q st ++ wR cR h9 (fr7 ad n8) ol n7 ++ wT cC t9 tx ln po ki rp tg nu ++ wP cI ad sv n8) sz (fun rz (u9 : Nat × (Nat → Nat → Nat)) => rz = nI (cntE st.1 (r * 480 + w * 80 + (4 + e9) * 4) 4) ∧ hI (olN ol n7) (n7N n7) u9.1) (fun u9 => []) (fun u9 => [(x9, .inr (3, [.ref (q 0), .ref (h9 0), .ref (t9 0)]))] ++ wS cI q (excS st r w e9) ++ wR cR h9 (fr7 u9.2 u9.1) (olN ol n7) (n7N n7) ++ wT cC t9 tx ln po ki rp tg nu ++ wP cI u9.2 (va_up sv (slN ol n7) st) u9.1) 7 5790 := by
  refine met_xu (own := RX3) (cc := cX3_exclude) (maxL := 4) (ty := .int) (by decide) rfl rfl (Nat.le_of_ble_eq_true rfl) ?_
  intro p e s m args below meth c Q A hsz S hz hw hA hE ls hl
  obtain ⟨hx, hb, hml, hown, hts⟩ := id S
  have k19 := hts (.fieldLink RX3 19 "CausalTable" "history" "LCausalTable$History;") (by decide +kernel)
  have hin3 := (show ∀ w ∈ wsX30, w ∈ wsX3_exclude by decide +kernel)
  have k10 := hts (.fieldLink RX3 10 "CausalTable" "state" "LCausalTable$State;") (by decide +kernel)
  have hl : lv_has ls 4 [(0, .ref x9), (1, .int (nI r)), (2, .int (nI w)), (3, .int (nI e9))] := hl
  refine lv_iload_n hx hb dX3_exclude_0 rfl (lv_at hl 1 rfl) ?_
  refine cp_Sv (As := [.int (nI r)]) (rest := []) S (c_X3_checkReplica l D (sz := s.heap.size) (r := r) (hr := by omega)) (va_cwS 1 hts gX3_exclude_X3_checkReplica rfl rfl rfl (by decide +kernel) ⟨Nat.le_of_ble_eq_true rfl, Nat.le_of_ble_eq_true rfl⟩) hw hA rfl hl.1 (Nat.le_of_ble_eq_true rfl) ⟨Nat.le_of_ble_eq_true rfl, Nat.le_of_ble_eq_true rfl⟩ rfl dX3_exclude_1 (fun H locs hw => ?_)
  have hw : Wd D A [(cI, .int), (cR, .object RX1), (cC, .char)] ([(x9, .inr (3, [.ref (q 0), .ref (h9 0), .ref (t9 0)]))] ++ wS cI q st ++ wR cR h9 (fr7 ad n8) ol n7 ++ wT cC t9 tx ln po ki rp tg nu ++ wP cI ad sv n8) s s.heap H locs := hw
  refine lv_iload_n hx hb dX3_exclude_4 rfl (lv_at hl 2 rfl) ?_
  refine cp_Sv (As := [.int (nI w)]) (rest := []) S (c_X3_checkRow l D (sz := H.size) (w := w) (hw5 := by omega)) (va_cwS 1 hts gX3_exclude_X3_checkRow rfl rfl rfl (by decide +kernel) ⟨Nat.le_of_ble_eq_true rfl, Nat.le_of_ble_eq_true rfl⟩) hw hA rfl hl.1 (Nat.le_of_ble_eq_true rfl) ⟨Nat.le_of_ble_eq_true rfl, Nat.le_of_ble_eq_true rfl⟩ rfl dX3_exclude_5 (fun H locs hw => ?_)
  have hw : Wd D A [(cI, .int), (cR, .object RX1), (cC, .char)] ([(x9, .inr (3, [.ref (q 0), .ref (h9 0), .ref (t9 0)]))] ++ wS cI q st ++ wR cR h9 (fr7 ad n8) ol n7 ++ wT cC t9 tx ln po ki rp tg nu ++ wP cI ad sv n8) s s.heap H locs := hw
  refine lv_iload_n hx hb dX3_exclude_8 rfl (lv_at hl 3 rfl) ?_
  refine cp_Sv (As := [.int (nI e9)]) (rest := []) S (c_X3_checkElement l D (sz := H.size) (e9 := e9) (he := by omega)) (va_cwS 1 hts gX3_exclude_X3_checkElement rfl rfl rfl (by decide +kernel) ⟨Nat.le_of_ble_eq_true rfl, Nat.le_of_ble_eq_true rfl⟩) hw hA rfl hl.1 (Nat.le_of_ble_eq_true rfl) ⟨Nat.le_of_ble_eq_true rfl, Nat.le_of_ble_eq_true rfl⟩ rfl dX3_exclude_9 (fun H locs hw => ?_)
  have hw : Wd D A [(cI, .int), (cR, .object RX1), (cC, .char)] ([(x9, .inr (3, [.ref (q 0), .ref (h9 0), .ref (t9 0)]))] ++ wS cI q st ++ wR cR h9 (fr7 ad n8) ol n7 ++ wT cC t9 tx ln po ki rp tg nu ++ wP cI ad sv n8) s s.heap H locs := hw
  refine lv_aload_n hx hb dX3_exclude_12 rfl (lv_at hl 0 rfl) ?_
  refine r_get hx hb hts hown hw.q 0 1 hin3 rfl rfl (by decide) k19 rfl dX3_exclude_13 ?_
  refine lv_aload_n hx hb dX3_exclude_16 rfl (lv_at hl 0 rfl) ?_
  refine r_get hx hb hts hown hw.q 0 0 hin3 rfl rfl (by decide) k10 rfl dX3_exclude_17 ?_
  refine cp_Vx (w1 := fun (u9 : Nat × (Nat → Nat → Nat)) => wR cR h9 (fr7 u9.2 u9.1) (olN ol n7) (n7N n7) ++ wS cI q st) (pl := fun (u9 : Nat × (Nat → Nat → Nat)) => wP cI u9.2 (va_up sv (slN ol n7) st) u9.1) (As := [.ref (q 0)]) (rest := []) (wc := wR cR h9 (fr7 ad n8) ol n7 ++ wS cI q st) (wr := [(x9, .inr (3, [.ref (q 0), .ref (h9 0), .ref (t9 0)]))] ++ wT cC t9 tx ln po ki rp tg nu) S hz (c_X0_save l D (sz := H.size) (cI := cI) (cR := cR) (h9 := h9) (ad := ad) (sv := sv) (ol := ol) (n7 := n7) (m := n8) (q := q) (st := st) (hh := hh)) (cwV 1 hts gX3_exclude_X0_save rfl rfl rfl (by decide +kernel) ⟨Nat.le_of_ble_eq_true rfl, Nat.le_of_ble_eq_true rfl⟩) hw hA [8, 9, 1, 2, 3, 4, 5, 6, 7] [0, 10, 11] [0, 1] rfl rfl (k0 := 12) rfl (by decide) rfl 0 rfl rfl rfl hl.1 (Nat.le_of_ble_eq_true rfl) ⟨Nat.le_of_ble_eq_true rfl, Nat.le_of_ble_eq_true rfl⟩ rfl dX3_exclude_20 (fun u_20 H locs e_20 hw => ?_)
  obtain ⟨u0_20, u1_20⟩ := u_20
  have hw : Wd D A [(cI, .int), (cR, .object RX1), (cC, .char)] (wR cR h9 (fr7 u1_20 u0_20) (olN ol n7) (n7N n7) ++ wS cI q st ++ [(x9, .inr (3, [.ref (q 0), .ref (h9 0), .ref (t9 0)]))] ++ wT cC t9 tx ln po ki rp tg nu ++ wP cI u1_20 (va_up sv (slN ol n7) st) u0_20) s s.heap H locs := hw
  refine lv_aload_n hx hb dX3_exclude_23 rfl (lv_at hl 0 rfl) ?_
  refine r_get hx hb hts hown hw.q 9 0 hin3 rfl rfl (by decide) k10 rfl dX3_exclude_24 ?_
  refine lv_iload_n hx hb dX3_exclude_27 rfl (lv_at hl 1 rfl) ?_
  refine lv_iload_n hx hb dX3_exclude_28 rfl (lv_at hl 2 rfl) ?_
  refine lv_iload_n hx hb dX3_exclude_29 rfl (lv_at hl 3 rfl) ?_
  refine cp_Vi (As := [.int (nI r), .int (nI w), .int (nI e9)]) (rest := []) (wc := wS cI q st) (wr := wR cR h9 (fr7 u1_20 u0_20) (olN ol n7) (n7N n7) ++ [(x9, .inr (3, [.ref (q 0), .ref (h9 0), .ref (t9 0)]))] ++ wT cC t9 tx ln po ki rp tg nu) S (c_X1_excludeElement l D (sz := H.size) (cI := cI) (q := q) (st := st) (r := r) (w := w) (e9 := e9) (hr := by omega) (hw5 := by omega) (he := by omega)) (cwV 3 hts gX3_exclude_X1_excludeElement rfl rfl rfl (by decide +kernel) ⟨Nat.le_of_ble_eq_true rfl, Nat.le_of_ble_eq_true rfl⟩) hw hA [2, 3, 4, 5, 6, 7, 8] [0, 1, 9, 10, 11] [0] rfl rfl (k0 := 12) rfl (by decide) rfl 0 rfl rfl rfl hl.1 (Nat.le_of_ble_eq_true rfl) ⟨Nat.le_of_ble_eq_true rfl, Nat.le_of_ble_eq_true rfl⟩ rfl dX3_exclude_30 (fun r_30 u_30 H locs e_30 hw => ?_)
  have hw : Wd D A [(cI, .int), (cR, .object RX1), (cC, .char)] (wS cI q (excS st r w e9) ++ wR cR h9 (fr7 u1_20 u0_20) (olN ol n7) (n7N n7) ++ [(x9, .inr (3, [.ref (q 0), .ref (h9 0), .ref (t9 0)]))] ++ wT cC t9 tx ln po ki rp tg nu ++ wP cI u1_20 (va_up sv (slN ol n7) st) u0_20) s s.heap H locs := hw
  have e_30 : r_30 = nI (cntE st.1 (r * 480 + w * 80 + (4 + e9) * 4) 4) := e_30
  subst e_30
  have hw : Wd D A [(cI, .int), (cR, .object RX1), (cC, .char)] ([(x9, .inr (3, [.ref (q 0), .ref (h9 0), .ref (t9 0)]))] ++ wS cI q (excS st r w e9) ++ wR cR h9 (fr7 u1_20 u0_20) (olN ol n7) (n7N n7) ++ wT cC t9 tx ln po ki rp tg nu ++ wP cI u1_20 (va_up sv (slN ol n7) st) u0_20) s s.heap H locs := hw.ord [9, 0, 1, 2, 3, 4, 5, 6, 7, 8, 10, 11] (k0 := 12) rfl rfl (by decide)
  exact hE (u0_20, u1_20) dX3_exclude_33 (rfl) (Nat.le_of_ble_eq_true rfl) (Nat.le_of_ble_eq_true rfl) ⟨⟨hw.1.1, fun k q hk => by cases hk⟩, hw.2.1, hw.2.2.1, hw.2.2.2⟩ (⟨show (nI (cntE st.1 (r * 480 + w * 80 + (4 + e9) * 4) 4) : Int32) = (nI (cntE st.1 (r * 480 + w * 80 + (4 + e9) * 4) 4) : Int32) from by first | rfl | (congr <;> omega) | simp_all, e_20⟩)
abbrev rmX3_delete : Room := { frames := 3, cells := 7, slots := 5790, locals := 122 }
set_option maxHeartbeats 4000000 in
set_option maxRecDepth 100000 in
theorem c_X3_delete (l : Launch) (D : va_G) (sz : Nat) (cI cR cC : ClassId) (x9 : Nat) (q : Nat → Nat) (st : St) (h9 : Nat → Nat) (ad : Nat → Nat → Nat) (sv : Nat → St) (ol n7 n8 : Nat) (t9 : Nat → Nat) (tx : Nat → Nat) (ln po : Nat) (ki rp tg nu : Int32) (r w : Nat) (hh : hI ol n7 n8) (hr : r < 4) (hw5 : w < 6) : MXi l yX3_delete wsX3_delete rmX3_delete [.ref x9, .int (nI r), .int (nI w)] D [(cI, .int), (cR, .object RX1), (cC, .char)] ([(x9, .inr (3, [.ref (q 0), .ref (h9 0), .ref (t9 0)]))] ++ wS cI q st ++ wR cR h9 (fr7 ad n8) ol n7 ++ wT cC t9 tx ln po ki rp tg nu ++ wP cI ad sv n8) sz (fun rz (u9 : Nat × (Nat → Nat → Nat)) => rz = nI (cntE st.1 (r * 480 + w * 80 + 0 * 4) 80) ∧ hI (olN ol n7) (n7N n7) u9.1) (fun u9 => []) (fun u9 => [(x9, .inr (3, [.ref (q 0), .ref (h9 0), .ref (t9 0)]))] ++ wS cI q (delS st r w) ++ wR cR h9 (fr7 u9.2 u9.1) (olN ol n7) (n7N n7) ++ wT cC t9 tx ln po ki rp tg nu ++ wP cI u9.2 (va_up sv (slN ol n7) st) u9.1) 7 5790 := by
  refine met_xu (own := RX3) (cc := cX3_delete) (maxL := 3) (ty := .int) (by decide) rfl rfl (Nat.le_of_ble_eq_true rfl) ?_
  intro p e s m args below meth c Q A hsz S hz hw hA hE ls hl
  obtain ⟨hx, hb, hml, hown, hts⟩ := id S
  have k19 := hts (.fieldLink RX3 19 "CausalTable" "history" "LCausalTable$History;") (by decide +kernel)
  have hin3 := (show ∀ w ∈ wsX30, w ∈ wsX3_delete by decide +kernel)
  have k10 := hts (.fieldLink RX3 10 "CausalTable" "state" "LCausalTable$State;") (by decide +kernel)
  have hl : lv_has ls 3 [(0, .ref x9), (1, .int (nI r)), (2, .int (nI w))] := hl
  refine lv_iload_n hx hb dX3_delete_0 rfl (lv_at hl 1 rfl) ?_
  refine cp_Sv (As := [.int (nI r)]) (rest := []) S (c_X3_checkReplica l D (sz := s.heap.size) (r := r) (hr := by omega)) (va_cwS 1 hts gX3_delete_X3_checkReplica rfl rfl rfl (by decide +kernel) ⟨Nat.le_of_ble_eq_true rfl, Nat.le_of_ble_eq_true rfl⟩) hw hA rfl hl.1 (Nat.le_of_ble_eq_true rfl) ⟨Nat.le_of_ble_eq_true rfl, Nat.le_of_ble_eq_true rfl⟩ rfl dX3_delete_1 (fun H locs hw => ?_)
  have hw : Wd D A [(cI, .int), (cR, .object RX1), (cC, .char)] ([(x9, .inr (3, [.ref (q 0), .ref (h9 0), .ref (t9 0)]))] ++ wS cI q st ++ wR cR h9 (fr7 ad n8) ol n7 ++ wT cC t9 tx ln po ki rp tg nu ++ wP cI ad sv n8) s s.heap H locs := hw
  refine lv_iload_n hx hb dX3_delete_4 rfl (lv_at hl 2 rfl) ?_
  refine cp_Sv (As := [.int (nI w)]) (rest := []) S (c_X3_checkRow l D (sz := H.size) (w := w) (hw5 := by omega)) (va_cwS 1 hts gX3_delete_X3_checkRow rfl rfl rfl (by decide +kernel) ⟨Nat.le_of_ble_eq_true rfl, Nat.le_of_ble_eq_true rfl⟩) hw hA rfl hl.1 (Nat.le_of_ble_eq_true rfl) ⟨Nat.le_of_ble_eq_true rfl, Nat.le_of_ble_eq_true rfl⟩ rfl dX3_delete_5 (fun H locs hw => ?_)
  have hw : Wd D A [(cI, .int), (cR, .object RX1), (cC, .char)] ([(x9, .inr (3, [.ref (q 0), .ref (h9 0), .ref (t9 0)]))] ++ wS cI q st ++ wR cR h9 (fr7 ad n8) ol n7 ++ wT cC t9 tx ln po ki rp tg nu ++ wP cI ad sv n8) s s.heap H locs := hw
  refine lv_aload_n hx hb dX3_delete_8 rfl (lv_at hl 0 rfl) ?_
  refine r_get hx hb hts hown hw.q 0 1 hin3 rfl rfl (by decide) k19 rfl dX3_delete_9 ?_
  refine lv_aload_n hx hb dX3_delete_12 rfl (lv_at hl 0 rfl) ?_
  refine r_get hx hb hts hown hw.q 0 0 hin3 rfl rfl (by decide) k10 rfl dX3_delete_13 ?_
  refine cp_Vx (w1 := fun (u9 : Nat × (Nat → Nat → Nat)) => wR cR h9 (fr7 u9.2 u9.1) (olN ol n7) (n7N n7) ++ wS cI q st) (pl := fun (u9 : Nat × (Nat → Nat → Nat)) => wP cI u9.2 (va_up sv (slN ol n7) st) u9.1) (As := [.ref (q 0)]) (rest := []) (wc := wR cR h9 (fr7 ad n8) ol n7 ++ wS cI q st) (wr := [(x9, .inr (3, [.ref (q 0), .ref (h9 0), .ref (t9 0)]))] ++ wT cC t9 tx ln po ki rp tg nu) S hz (c_X0_save l D (sz := H.size) (cI := cI) (cR := cR) (h9 := h9) (ad := ad) (sv := sv) (ol := ol) (n7 := n7) (m := n8) (q := q) (st := st) (hh := hh)) (cwV 1 hts gX3_delete_X0_save rfl rfl rfl (by decide +kernel) ⟨Nat.le_of_ble_eq_true rfl, Nat.le_of_ble_eq_true rfl⟩) hw hA [8, 9, 1, 2, 3, 4, 5, 6, 7] [0, 10, 11] [0, 1] rfl rfl (k0 := 12) rfl (by decide) rfl 0 rfl rfl rfl hl.1 (Nat.le_of_ble_eq_true rfl) ⟨Nat.le_of_ble_eq_true rfl, Nat.le_of_ble_eq_true rfl⟩ rfl dX3_delete_16 (fun u_16 H locs e_16 hw => ?_)
  obtain ⟨u0_16, u1_16⟩ := u_16
  have hw : Wd D A [(cI, .int), (cR, .object RX1), (cC, .char)] (wR cR h9 (fr7 u1_16 u0_16) (olN ol n7) (n7N n7) ++ wS cI q st ++ [(x9, .inr (3, [.ref (q 0), .ref (h9 0), .ref (t9 0)]))] ++ wT cC t9 tx ln po ki rp tg nu ++ wP cI u1_16 (va_up sv (slN ol n7) st) u0_16) s s.heap H locs := hw
  refine lv_aload_n hx hb dX3_delete_19 rfl (lv_at hl 0 rfl) ?_
  refine r_get hx hb hts hown hw.q 9 0 hin3 rfl rfl (by decide) k10 rfl dX3_delete_20 ?_
  refine lv_iload_n hx hb dX3_delete_23 rfl (lv_at hl 1 rfl) ?_
  refine lv_iload_n hx hb dX3_delete_24 rfl (lv_at hl 2 rfl) ?_
  refine cp_Vi (As := [.int (nI r), .int (nI w)]) (rest := []) (wc := wS cI q st) (wr := wR cR h9 (fr7 u1_16 u0_16) (olN ol n7) (n7N n7) ++ [(x9, .inr (3, [.ref (q 0), .ref (h9 0), .ref (t9 0)]))] ++ wT cC t9 tx ln po ki rp tg nu) S (c_X1_deleteRow l D (sz := H.size) (cI := cI) (q := q) (st := st) (r := r) (w := w) (hr := by omega) (hw5 := by omega)) (cwV 2 hts gX3_delete_X1_deleteRow rfl rfl rfl (by decide +kernel) ⟨Nat.le_of_ble_eq_true rfl, Nat.le_of_ble_eq_true rfl⟩) hw hA [2, 3, 4, 5, 6, 7, 8] [0, 1, 9, 10, 11] [0] rfl rfl (k0 := 12) rfl (by decide) rfl 0 rfl rfl rfl hl.1 (Nat.le_of_ble_eq_true rfl) ⟨Nat.le_of_ble_eq_true rfl, Nat.le_of_ble_eq_true rfl⟩ rfl dX3_delete_25 (fun r_25 u_25 H locs e_25 hw => ?_)
  have hw : Wd D A [(cI, .int), (cR, .object RX1), (cC, .char)] (wS cI q (delS st r w) ++ wR cR h9 (fr7 u1_16 u0_16) (olN ol n7) (n7N n7) ++ [(x9, .inr (3, [.ref (q 0), .ref (h9 0), .ref (t9 0)]))] ++ wT cC t9 tx ln po ki rp tg nu ++ wP cI u1_16 (va_up sv (slN ol n7) st) u0_16) s s.heap H locs := hw
  have e_25 : r_25 = nI (cntE st.1 (r * 480 + w * 80 + 0 * 4) 80) := e_25
  subst e_25
  have hw : Wd D A [(cI, .int), (cR, .object RX1), (cC, .char)] ([(x9, .inr (3, [.ref (q 0), .ref (h9 0), .ref (t9 0)]))] ++ wS cI q (delS st r w) ++ wR cR h9 (fr7 u1_16 u0_16) (olN ol n7) (n7N n7) ++ wT cC t9 tx ln po ki rp tg nu ++ wP cI u1_16 (va_up sv (slN ol n7) st) u0_16) s s.heap H locs := hw.ord [9, 0, 1, 2, 3, 4, 5, 6, 7, 8, 10, 11] (k0 := 12) rfl rfl (by decide)
  exact hE (u0_16, u1_16) dX3_delete_28 (rfl) (Nat.le_of_ble_eq_true rfl) (Nat.le_of_ble_eq_true rfl) ⟨⟨hw.1.1, fun k q hk => by cases hk⟩, hw.2.1, hw.2.2.1, hw.2.2.2⟩ (⟨show (nI (cntE st.1 (r * 480 + w * 80 + 0 * 4) 80) : Int32) = (nI (cntE st.1 (r * 480 + w * 80 + 0 * 4) 80) : Int32) from by first | rfl | (congr <;> omega) | simp_all, e_16⟩)
abbrev rmX3_merge : Room := { frames := 4, cells := 7, slots := 5790, locals := 122 }
set_option maxHeartbeats 4000000 in
set_option maxRecDepth 100000 in
theorem c_X3_merge (l : Launch) (D : va_G) (sz : Nat) (cI cR cC : ClassId) (x9 : Nat) (q : Nat → Nat) (st : St) (h9 : Nat → Nat) (ad : Nat → Nat → Nat) (sv : Nat → St) (ol n7 n8 : Nat) (t9 : Nat → Nat) (tx : Nat → Nat) (ln po : Nat) (ki rp tg nu : Int32) (f t : Nat) (hh : hI ol n7 n8) (hf4 : f < 4) (ht4 : t < 4) (hne : f ≠ t) : MXi l yX3_merge wsX3_merge rmX3_merge [.ref x9, .int (nI f), .int (nI t)] D [(cI, .int), (cR, .object RX1), (cC, .char)] ([(x9, .inr (3, [.ref (q 0), .ref (h9 0), .ref (t9 0)]))] ++ wS cI q st ++ wR cR h9 (fr7 ad n8) ol n7 ++ wT cC t9 tx ln po ki rp tg nu ++ wP cI ad sv n8) sz (fun rz (u9 : Nat × (Nat → Nat → Nat)) => rz = nI (cntP (fun o => addP st f t o) 480 + cntP (fun o => remP st f t o) 480) ∧ hI (olN ol n7) (n7N n7) u9.1) (fun u9 => []) (fun u9 => [(x9, .inr (3, [.ref (q 0), .ref (h9 0), .ref (t9 0)]))] ++ wS cI q (mgS st f t) ++ wR cR h9 (fr7 u9.2 u9.1) (olN ol n7) (n7N n7) ++ wT cC t9 tx ln po ki rp tg nu ++ wP cI u9.2 (va_up sv (slN ol n7) st) u9.1) 7 5790 := by
  refine met_xu (own := RX3) (cc := cX3_merge) (maxL := 3) (ty := .int) (by decide) rfl rfl (Nat.le_of_ble_eq_true rfl) ?_
  intro p e s m args below meth c Q A hsz S hz hw hA hE ls hl
  obtain ⟨hx, hb, hml, hown, hts⟩ := id S
  have k19 := hts (.fieldLink RX3 19 "CausalTable" "history" "LCausalTable$History;") (by decide +kernel)
  have hin3 := (show ∀ w ∈ wsX30, w ∈ wsX3_merge by decide +kernel)
  have k10 := hts (.fieldLink RX3 10 "CausalTable" "state" "LCausalTable$State;") (by decide +kernel)
  have hl : lv_has ls 3 [(0, .ref x9), (1, .int (nI f)), (2, .int (nI t))] := hl
  refine lv_iload_n hx hb dX3_merge_0 rfl (lv_at hl 1 rfl) ?_
  refine cp_Sv (As := [.int (nI f)]) (rest := []) S (c_X3_checkReplica l D (sz := s.heap.size) (r := f) (hr := by omega)) (va_cwS 1 hts gX3_merge_X3_checkReplica rfl rfl rfl (by decide +kernel) ⟨Nat.le_of_ble_eq_true rfl, Nat.le_of_ble_eq_true rfl⟩) hw hA rfl hl.1 (Nat.le_of_ble_eq_true rfl) ⟨Nat.le_of_ble_eq_true rfl, Nat.le_of_ble_eq_true rfl⟩ rfl dX3_merge_1 (fun H locs hw => ?_)
  have hw : Wd D A [(cI, .int), (cR, .object RX1), (cC, .char)] ([(x9, .inr (3, [.ref (q 0), .ref (h9 0), .ref (t9 0)]))] ++ wS cI q st ++ wR cR h9 (fr7 ad n8) ol n7 ++ wT cC t9 tx ln po ki rp tg nu ++ wP cI ad sv n8) s s.heap H locs := hw
  refine lv_iload_n hx hb dX3_merge_4 rfl (lv_at hl 2 rfl) ?_
  refine cp_Sv (As := [.int (nI t)]) (rest := []) S (c_X3_checkReplica l D (sz := H.size) (r := t) (hr := by omega)) (va_cwS 1 hts gX3_merge_X3_checkReplica rfl rfl rfl (by decide +kernel) ⟨Nat.le_of_ble_eq_true rfl, Nat.le_of_ble_eq_true rfl⟩) hw hA rfl hl.1 (Nat.le_of_ble_eq_true rfl) ⟨Nat.le_of_ble_eq_true rfl, Nat.le_of_ble_eq_true rfl⟩ rfl dX3_merge_5 (fun H locs hw => ?_)
  have hw : Wd D A [(cI, .int), (cR, .object RX1), (cC, .char)] ([(x9, .inr (3, [.ref (q 0), .ref (h9 0), .ref (t9 0)]))] ++ wS cI q st ++ wR cR h9 (fr7 ad n8) ol n7 ++ wT cC t9 tx ln po ki rp tg nu ++ wP cI ad sv n8) s s.heap H locs := hw
  refine lv_iload_n hx hb dX3_merge_8 rfl (lv_at hl 1 rfl) ?_
  refine lv_iload_n hx hb dX3_merge_9 rfl (lv_at hl 2 rfl) ?_
  refine cp_Sv (As := [.int (nI f), .int (nI t)]) (rest := []) S (c_X3_checkDifferent l D (sz := H.size) (f := f) (t := t) (hf4 := by omega) (ht4 := by omega) (hne := by omega)) (va_cwS 2 hts gX3_merge_X3_checkDifferent rfl rfl rfl (by decide +kernel) ⟨Nat.le_of_ble_eq_true rfl, Nat.le_of_ble_eq_true rfl⟩) hw hA rfl hl.1 (Nat.le_of_ble_eq_true rfl) ⟨Nat.le_of_ble_eq_true rfl, Nat.le_of_ble_eq_true rfl⟩ rfl dX3_merge_10 (fun H locs hw => ?_)
  have hw : Wd D A [(cI, .int), (cR, .object RX1), (cC, .char)] ([(x9, .inr (3, [.ref (q 0), .ref (h9 0), .ref (t9 0)]))] ++ wS cI q st ++ wR cR h9 (fr7 ad n8) ol n7 ++ wT cC t9 tx ln po ki rp tg nu ++ wP cI ad sv n8) s s.heap H locs := hw
  refine lv_aload_n hx hb dX3_merge_13 rfl (lv_at hl 0 rfl) ?_
  refine r_get hx hb hts hown hw.q 0 1 hin3 rfl rfl (by decide) k19 rfl dX3_merge_14 ?_
  refine lv_aload_n hx hb dX3_merge_17 rfl (lv_at hl 0 rfl) ?_
  refine r_get hx hb hts hown hw.q 0 0 hin3 rfl rfl (by decide) k10 rfl dX3_merge_18 ?_
  refine cp_Vx (w1 := fun (u9 : Nat × (Nat → Nat → Nat)) => wR cR h9 (fr7 u9.2 u9.1) (olN ol n7) (n7N n7) ++ wS cI q st) (pl := fun (u9 : Nat × (Nat → Nat → Nat)) => wP cI u9.2 (va_up sv (slN ol n7) st) u9.1) (As := [.ref (q 0)]) (rest := []) (wc := wR cR h9 (fr7 ad n8) ol n7 ++ wS cI q st) (wr := [(x9, .inr (3, [.ref (q 0), .ref (h9 0), .ref (t9 0)]))] ++ wT cC t9 tx ln po ki rp tg nu) S hz (c_X0_save l D (sz := H.size) (cI := cI) (cR := cR) (h9 := h9) (ad := ad) (sv := sv) (ol := ol) (n7 := n7) (m := n8) (q := q) (st := st) (hh := hh)) (cwV 1 hts gX3_merge_X0_save rfl rfl rfl (by decide +kernel) ⟨Nat.le_of_ble_eq_true rfl, Nat.le_of_ble_eq_true rfl⟩) hw hA [8, 9, 1, 2, 3, 4, 5, 6, 7] [0, 10, 11] [0, 1] rfl rfl (k0 := 12) rfl (by decide) rfl 0 rfl rfl rfl hl.1 (Nat.le_of_ble_eq_true rfl) ⟨Nat.le_of_ble_eq_true rfl, Nat.le_of_ble_eq_true rfl⟩ rfl dX3_merge_21 (fun u_21 H locs e_21 hw => ?_)
  obtain ⟨u0_21, u1_21⟩ := u_21
  have hw : Wd D A [(cI, .int), (cR, .object RX1), (cC, .char)] (wR cR h9 (fr7 u1_21 u0_21) (olN ol n7) (n7N n7) ++ wS cI q st ++ [(x9, .inr (3, [.ref (q 0), .ref (h9 0), .ref (t9 0)]))] ++ wT cC t9 tx ln po ki rp tg nu ++ wP cI u1_21 (va_up sv (slN ol n7) st) u0_21) s s.heap H locs := hw
  refine lv_aload_n hx hb dX3_merge_24 rfl (lv_at hl 0 rfl) ?_
  refine r_get hx hb hts hown hw.q 9 0 hin3 rfl rfl (by decide) k10 rfl dX3_merge_25 ?_
  refine lv_iload_n hx hb dX3_merge_28 rfl (lv_at hl 1 rfl) ?_
  refine lv_iload_n hx hb dX3_merge_29 rfl (lv_at hl 2 rfl) ?_
  refine cp_Vi (As := [.int (nI f), .int (nI t)]) (rest := []) (wc := wS cI q st) (wr := wR cR h9 (fr7 u1_21 u0_21) (olN ol n7) (n7N n7) ++ [(x9, .inr (3, [.ref (q 0), .ref (h9 0), .ref (t9 0)]))] ++ wT cC t9 tx ln po ki rp tg nu) S (c_X1_mergeReplica l D (sz := H.size) (cI := cI) (q := q) (st := st) (f := f) (t := t) (hf4 := by omega) (ht4 := by omega)) (cwV 2 hts gX3_merge_X1_mergeReplica rfl rfl rfl (by decide +kernel) ⟨Nat.le_of_ble_eq_true rfl, Nat.le_of_ble_eq_true rfl⟩) hw hA [2, 3, 4, 5, 6, 7, 8] [0, 1, 9, 10, 11] [0] rfl rfl (k0 := 12) rfl (by decide) rfl 0 rfl rfl rfl hl.1 (Nat.le_of_ble_eq_true rfl) ⟨Nat.le_of_ble_eq_true rfl, Nat.le_of_ble_eq_true rfl⟩ rfl dX3_merge_30 (fun r_30 u_30 H locs e_30 hw => ?_)
  have hw : Wd D A [(cI, .int), (cR, .object RX1), (cC, .char)] (wS cI q (mgS st f t) ++ wR cR h9 (fr7 u1_21 u0_21) (olN ol n7) (n7N n7) ++ [(x9, .inr (3, [.ref (q 0), .ref (h9 0), .ref (t9 0)]))] ++ wT cC t9 tx ln po ki rp tg nu ++ wP cI u1_21 (va_up sv (slN ol n7) st) u0_21) s s.heap H locs := hw
  have e_30 : r_30 = nI (cntP (fun o => addP st f t o) 480 + cntP (fun o => remP st f t o) 480) := e_30
  subst e_30
  have hw : Wd D A [(cI, .int), (cR, .object RX1), (cC, .char)] ([(x9, .inr (3, [.ref (q 0), .ref (h9 0), .ref (t9 0)]))] ++ wS cI q (mgS st f t) ++ wR cR h9 (fr7 u1_21 u0_21) (olN ol n7) (n7N n7) ++ wT cC t9 tx ln po ki rp tg nu ++ wP cI u1_21 (va_up sv (slN ol n7) st) u0_21) s s.heap H locs := hw.ord [9, 0, 1, 2, 3, 4, 5, 6, 7, 8, 10, 11] (k0 := 12) rfl rfl (by decide)
  exact hE (u0_21, u1_21) dX3_merge_33 (rfl) (Nat.le_of_ble_eq_true rfl) (Nat.le_of_ble_eq_true rfl) ⟨⟨hw.1.1, fun k q hk => by cases hk⟩, hw.2.1, hw.2.2.1, hw.2.2.2⟩ (⟨show (nI (cntP (fun o => addP st f t o) 480 + cntP (fun o => remP st f t o) 480) : Int32) = (nI (cntP (fun o => addP st f t o) 480 + cntP (fun o => remP st f t o) 480) : Int32) from by first | rfl | (congr <;> omega) | simp_all, e_21⟩)
abbrev rmX3_put : Room := { frames := 4, cells := 7, slots := 5790, locals := 122 }
set_option maxHeartbeats 4000000 in
set_option maxRecDepth 100000 in
theorem c_X3_put (l : Launch) (D : va_G) (sz : Nat) (cI cR cC : ClassId) (x9 : Nat) (q : Nat → Nat) (st : St) (h9 : Nat → Nat) (ad : Nat → Nat → Nat) (sv : Nat → St) (ol n7 n8 : Nat) (t9 : Nat → Nat) (tx : Nat → Nat) (ln po : Nat) (ki rp tg nu : Int32) (r w g : Nat) (v : Int32) (hh : hI ol n7 n8) (hr : r < 4) (hw5 : w < 6) (hg : g < 3) (hv : inP v (nI 0) (nI 999)) : MXi l yX3_put wsX3_put rmX3_put [.ref x9, .int (nI r), .int (nI w), .int (nI g), .int v] D [(cI, .int), (cR, .object RX1), (cC, .char)] ([(x9, .inr (3, [.ref (q 0), .ref (h9 0), .ref (t9 0)]))] ++ wS cI q st ++ wR cR h9 (fr7 ad n8) ol n7 ++ wT cC t9 tx ln po ki rp tg nu ++ wP cI ad sv n8) sz (fun rz (u9 : Nat × (Nat → Nat → Nat)) => rz = nI (cntE st.1 (r * 480 + w * 80 + g * 4) 4) ∧ hI (olN ol n7) (n7N n7) u9.1) (fun u9 => []) (fun u9 => [(x9, .inr (3, [.ref (q 0), .ref (h9 0), .ref (t9 0)]))] ++ wS cI q (putS st r w g v) ++ wR cR h9 (fr7 u9.2 u9.1) (olN ol n7) (n7N n7) ++ wT cC t9 tx ln po ki rp tg nu ++ wP cI u9.2 (va_up sv (slN ol n7) st) u9.1) 7 5790 := by
  refine met_xu (own := RX3) (cc := cX3_put) (maxL := 5) (ty := .int) (by decide) rfl rfl (Nat.le_of_ble_eq_true rfl) ?_
  intro p e s m args below meth c Q A hsz S hz hw hA hE ls hl
  obtain ⟨hx, hb, hml, hown, hts⟩ := id S
  have k19 := hts (.fieldLink RX3 19 "CausalTable" "history" "LCausalTable$History;") (by decide +kernel)
  have hin3 := (show ∀ w ∈ wsX30, w ∈ wsX3_put by decide +kernel)
  have k10 := hts (.fieldLink RX3 10 "CausalTable" "state" "LCausalTable$State;") (by decide +kernel)
  have hl : lv_has ls 5 [(0, .ref x9), (1, .int (nI r)), (2, .int (nI w)), (3, .int (nI g)), (4, .int v)] := hl
  refine lv_iload_n hx hb dX3_put_0 rfl (lv_at hl 1 rfl) ?_
  refine cp_Sv (As := [.int (nI r)]) (rest := []) S (c_X3_checkReplica l D (sz := s.heap.size) (r := r) (hr := by omega)) (va_cwS 1 hts gX3_put_X3_checkReplica rfl rfl rfl (by decide +kernel) ⟨Nat.le_of_ble_eq_true rfl, Nat.le_of_ble_eq_true rfl⟩) hw hA rfl hl.1 (Nat.le_of_ble_eq_true rfl) ⟨Nat.le_of_ble_eq_true rfl, Nat.le_of_ble_eq_true rfl⟩ rfl dX3_put_1 (fun H locs hw => ?_)
  have hw : Wd D A [(cI, .int), (cR, .object RX1), (cC, .char)] ([(x9, .inr (3, [.ref (q 0), .ref (h9 0), .ref (t9 0)]))] ++ wS cI q st ++ wR cR h9 (fr7 ad n8) ol n7 ++ wT cC t9 tx ln po ki rp tg nu ++ wP cI ad sv n8) s s.heap H locs := hw
  refine lv_iload_n hx hb dX3_put_4 rfl (lv_at hl 2 rfl) ?_
  refine cp_Sv (As := [.int (nI w)]) (rest := []) S (c_X3_checkRow l D (sz := H.size) (w := w) (hw5 := by omega)) (va_cwS 1 hts gX3_put_X3_checkRow rfl rfl rfl (by decide +kernel) ⟨Nat.le_of_ble_eq_true rfl, Nat.le_of_ble_eq_true rfl⟩) hw hA rfl hl.1 (Nat.le_of_ble_eq_true rfl) ⟨Nat.le_of_ble_eq_true rfl, Nat.le_of_ble_eq_true rfl⟩ rfl dX3_put_5 (fun H locs hw => ?_)
  have hw : Wd D A [(cI, .int), (cR, .object RX1), (cC, .char)] ([(x9, .inr (3, [.ref (q 0), .ref (h9 0), .ref (t9 0)]))] ++ wS cI q st ++ wR cR h9 (fr7 ad n8) ol n7 ++ wT cC t9 tx ln po ki rp tg nu ++ wP cI ad sv n8) s s.heap H locs := hw
  refine lv_iload_n hx hb dX3_put_8 rfl (lv_at hl 3 rfl) ?_
  refine r_if_eqN (tgt := 32) hx hb (by omega) dX3_put_9 (by decide) (fun c_9 => ?_) (fun c_9 => ?_)
  ·
    refine lv_iload hx hb dX3_put_32 (lv_at hl 4 rfl) ?_
    refine lv_if_lt (tgt := 45) hx hb dX3_put_34 (by decide) (fun c_34 => ?_) (fun c_34 => ?_)
    ·
      exact absurd c_34 (Int32.not_lt.mpr hv.1)
    ·
      refine lv_iload hx hb dX3_put_37 (lv_at hl 4 rfl) ?_
      refine lv_sipush (v := nI 999) hx hb dX3_put_39 kc_sipush_999 ?_
      refine lv_icmp_le (tgt := 55) hx hb dX3_put_42 (by decide) (fun c_42 => ?_) (fun c_42 => ?_)
      ·
        refine lv_aload_n hx hb dX3_put_55 rfl (lv_at hl 0 rfl) ?_
        refine r_get hx hb hts hown hw.q 0 1 hin3 rfl rfl (by decide) k19 rfl dX3_put_56 ?_
        refine lv_aload_n hx hb dX3_put_59 rfl (lv_at hl 0 rfl) ?_
        refine r_get hx hb hts hown hw.q 0 0 hin3 rfl rfl (by decide) k10 rfl dX3_put_60 ?_
        refine cp_Vx (w1 := fun (u9 : Nat × (Nat → Nat → Nat)) => wR cR h9 (fr7 u9.2 u9.1) (olN ol n7) (n7N n7) ++ wS cI q st) (pl := fun (u9 : Nat × (Nat → Nat → Nat)) => wP cI u9.2 (va_up sv (slN ol n7) st) u9.1) (As := [.ref (q 0)]) (rest := []) (wc := wR cR h9 (fr7 ad n8) ol n7 ++ wS cI q st) (wr := [(x9, .inr (3, [.ref (q 0), .ref (h9 0), .ref (t9 0)]))] ++ wT cC t9 tx ln po ki rp tg nu) S hz (c_X0_save l D (sz := H.size) (cI := cI) (cR := cR) (h9 := h9) (ad := ad) (sv := sv) (ol := ol) (n7 := n7) (m := n8) (q := q) (st := st) (hh := hh)) (cwV 1 hts gX3_put_X0_save rfl rfl rfl (by decide +kernel) ⟨Nat.le_of_ble_eq_true rfl, Nat.le_of_ble_eq_true rfl⟩) hw hA [8, 9, 1, 2, 3, 4, 5, 6, 7] [0, 10, 11] [0, 1] rfl rfl (k0 := 12) rfl (by decide) rfl 0 rfl rfl rfl hl.1 (Nat.le_of_ble_eq_true rfl) ⟨Nat.le_of_ble_eq_true rfl, Nat.le_of_ble_eq_true rfl⟩ rfl dX3_put_63 (fun u_63 H locs e_63 hw => ?_)
        obtain ⟨u0_63, u1_63⟩ := u_63
        have hw : Wd D A [(cI, .int), (cR, .object RX1), (cC, .char)] (wR cR h9 (fr7 u1_63 u0_63) (olN ol n7) (n7N n7) ++ wS cI q st ++ [(x9, .inr (3, [.ref (q 0), .ref (h9 0), .ref (t9 0)]))] ++ wT cC t9 tx ln po ki rp tg nu ++ wP cI u1_63 (va_up sv (slN ol n7) st) u0_63) s s.heap H locs := hw
        refine lv_aload_n hx hb dX3_put_66 rfl (lv_at hl 0 rfl) ?_
        refine r_get hx hb hts hown hw.q 9 0 hin3 rfl rfl (by decide) k10 rfl dX3_put_67 ?_
        refine lv_iload_n hx hb dX3_put_70 rfl (lv_at hl 1 rfl) ?_
        refine lv_iload_n hx hb dX3_put_71 rfl (lv_at hl 2 rfl) ?_
        refine lv_iload_n hx hb dX3_put_72 rfl (lv_at hl 3 rfl) ?_
        refine lv_iload hx hb dX3_put_73 (lv_at hl 4 rfl) ?_
        refine cp_Vi (As := [.int (nI r), .int (nI w), .int (nI g), .int v]) (rest := []) (wc := wS cI q st) (wr := wR cR h9 (fr7 u1_63 u0_63) (olN ol n7) (n7N n7) ++ [(x9, .inr (3, [.ref (q 0), .ref (h9 0), .ref (t9 0)]))] ++ wT cC t9 tx ln po ki rp tg nu) S (c_X1_putValue l D (sz := H.size) (cI := cI) (q := q) (st := st) (r := r) (w := w) (g := g) (v := v) (hr := by omega) (hw5 := by omega) (hg := by omega)) (cwV 4 hts gX3_put_X1_putValue rfl rfl rfl (by decide +kernel) ⟨Nat.le_of_ble_eq_true rfl, Nat.le_of_ble_eq_true rfl⟩) hw hA [2, 3, 4, 5, 6, 7, 8] [0, 1, 9, 10, 11] [0] rfl rfl (k0 := 12) rfl (by decide) rfl 0 rfl rfl rfl hl.1 (Nat.le_of_ble_eq_true rfl) ⟨Nat.le_of_ble_eq_true rfl, Nat.le_of_ble_eq_true rfl⟩ rfl dX3_put_75 (fun r_75 u_75 H locs e_75 hw => ?_)
        have hw : Wd D A [(cI, .int), (cR, .object RX1), (cC, .char)] (wS cI q (putS st r w g v) ++ wR cR h9 (fr7 u1_63 u0_63) (olN ol n7) (n7N n7) ++ [(x9, .inr (3, [.ref (q 0), .ref (h9 0), .ref (t9 0)]))] ++ wT cC t9 tx ln po ki rp tg nu ++ wP cI u1_63 (va_up sv (slN ol n7) st) u0_63) s s.heap H locs := hw
        have e_75 : r_75 = nI (cntE st.1 (r * 480 + w * 80 + g * 4) 4) := e_75
        subst e_75
        have hw : Wd D A [(cI, .int), (cR, .object RX1), (cC, .char)] ([(x9, .inr (3, [.ref (q 0), .ref (h9 0), .ref (t9 0)]))] ++ wS cI q (putS st r w g v) ++ wR cR h9 (fr7 u1_63 u0_63) (olN ol n7) (n7N n7) ++ wT cC t9 tx ln po ki rp tg nu ++ wP cI u1_63 (va_up sv (slN ol n7) st) u0_63) s s.heap H locs := hw.ord [9, 0, 1, 2, 3, 4, 5, 6, 7, 8, 10, 11] (k0 := 12) rfl rfl (by decide)
        exact hE (u0_63, u1_63) dX3_put_78 (rfl) (Nat.le_of_ble_eq_true rfl) (Nat.le_of_ble_eq_true rfl) ⟨⟨hw.1.1, fun k q hk => by cases hk⟩, hw.2.1, hw.2.2.1, hw.2.2.2⟩ (⟨show (nI (cntE st.1 (r * 480 + w * 80 + g * 4) 4) : Int32) = (nI (cntE st.1 (r * 480 + w * 80 + g * 4) 4) : Int32) from by first | rfl | (congr <;> omega) | simp_all, e_63⟩)
      ·
        exact absurd hv.2 c_42
  ·
    refine lv_iload_n hx hb dX3_put_12 rfl (lv_at hl 3 rfl) ?_
    refine lv_iconst (v := nI 1) hx hb dX3_put_13 kc_iconst_1 ?_
    refine r_icmp_eqN (tgt := 32) hx hb (by omega) (by omega) dX3_put_14 (by decide) (fun c_14 => ?_) (fun c_14 => ?_)
    ·
      refine lv_iload hx hb dX3_put_32 (lv_at hl 4 rfl) ?_
      refine lv_if_lt (tgt := 45) hx hb dX3_put_34 (by decide) (fun c_34 => ?_) (fun c_34 => ?_)
      ·
        exact absurd c_34 (Int32.not_lt.mpr hv.1)
      ·
        refine lv_iload hx hb dX3_put_37 (lv_at hl 4 rfl) ?_
        refine lv_sipush (v := nI 999) hx hb dX3_put_39 kc_sipush_999 ?_
        refine lv_icmp_le (tgt := 55) hx hb dX3_put_42 (by decide) (fun c_42 => ?_) (fun c_42 => ?_)
        ·
          refine lv_aload_n hx hb dX3_put_55 rfl (lv_at hl 0 rfl) ?_
          refine r_get hx hb hts hown hw.q 0 1 hin3 rfl rfl (by decide) k19 rfl dX3_put_56 ?_
          refine lv_aload_n hx hb dX3_put_59 rfl (lv_at hl 0 rfl) ?_
          refine r_get hx hb hts hown hw.q 0 0 hin3 rfl rfl (by decide) k10 rfl dX3_put_60 ?_
          refine cp_Vx (w1 := fun (u9 : Nat × (Nat → Nat → Nat)) => wR cR h9 (fr7 u9.2 u9.1) (olN ol n7) (n7N n7) ++ wS cI q st) (pl := fun (u9 : Nat × (Nat → Nat → Nat)) => wP cI u9.2 (va_up sv (slN ol n7) st) u9.1) (As := [.ref (q 0)]) (rest := []) (wc := wR cR h9 (fr7 ad n8) ol n7 ++ wS cI q st) (wr := [(x9, .inr (3, [.ref (q 0), .ref (h9 0), .ref (t9 0)]))] ++ wT cC t9 tx ln po ki rp tg nu) S hz (c_X0_save l D (sz := H.size) (cI := cI) (cR := cR) (h9 := h9) (ad := ad) (sv := sv) (ol := ol) (n7 := n7) (m := n8) (q := q) (st := st) (hh := hh)) (cwV 1 hts gX3_put_X0_save rfl rfl rfl (by decide +kernel) ⟨Nat.le_of_ble_eq_true rfl, Nat.le_of_ble_eq_true rfl⟩) hw hA [8, 9, 1, 2, 3, 4, 5, 6, 7] [0, 10, 11] [0, 1] rfl rfl (k0 := 12) rfl (by decide) rfl 0 rfl rfl rfl hl.1 (Nat.le_of_ble_eq_true rfl) ⟨Nat.le_of_ble_eq_true rfl, Nat.le_of_ble_eq_true rfl⟩ rfl dX3_put_63 (fun u_63 H locs e_63 hw => ?_)
          obtain ⟨u0_63, u1_63⟩ := u_63
          have hw : Wd D A [(cI, .int), (cR, .object RX1), (cC, .char)] (wR cR h9 (fr7 u1_63 u0_63) (olN ol n7) (n7N n7) ++ wS cI q st ++ [(x9, .inr (3, [.ref (q 0), .ref (h9 0), .ref (t9 0)]))] ++ wT cC t9 tx ln po ki rp tg nu ++ wP cI u1_63 (va_up sv (slN ol n7) st) u0_63) s s.heap H locs := hw
          refine lv_aload_n hx hb dX3_put_66 rfl (lv_at hl 0 rfl) ?_
          refine r_get hx hb hts hown hw.q 9 0 hin3 rfl rfl (by decide) k10 rfl dX3_put_67 ?_
          refine lv_iload_n hx hb dX3_put_70 rfl (lv_at hl 1 rfl) ?_
          refine lv_iload_n hx hb dX3_put_71 rfl (lv_at hl 2 rfl) ?_
          refine lv_iload_n hx hb dX3_put_72 rfl (lv_at hl 3 rfl) ?_
          refine lv_iload hx hb dX3_put_73 (lv_at hl 4 rfl) ?_
          refine cp_Vi (As := [.int (nI r), .int (nI w), .int (nI g), .int v]) (rest := []) (wc := wS cI q st) (wr := wR cR h9 (fr7 u1_63 u0_63) (olN ol n7) (n7N n7) ++ [(x9, .inr (3, [.ref (q 0), .ref (h9 0), .ref (t9 0)]))] ++ wT cC t9 tx ln po ki rp tg nu) S (c_X1_putValue l D (sz := H.size) (cI := cI) (q := q) (st := st) (r := r) (w := w) (g := g) (v := v) (hr := by omega) (hw5 := by omega) (hg := by omega)) (cwV 4 hts gX3_put_X1_putValue rfl rfl rfl (by decide +kernel) ⟨Nat.le_of_ble_eq_true rfl, Nat.le_of_ble_eq_true rfl⟩) hw hA [2, 3, 4, 5, 6, 7, 8] [0, 1, 9, 10, 11] [0] rfl rfl (k0 := 12) rfl (by decide) rfl 0 rfl rfl rfl hl.1 (Nat.le_of_ble_eq_true rfl) ⟨Nat.le_of_ble_eq_true rfl, Nat.le_of_ble_eq_true rfl⟩ rfl dX3_put_75 (fun r_75 u_75 H locs e_75 hw => ?_)
          have hw : Wd D A [(cI, .int), (cR, .object RX1), (cC, .char)] (wS cI q (putS st r w g v) ++ wR cR h9 (fr7 u1_63 u0_63) (olN ol n7) (n7N n7) ++ [(x9, .inr (3, [.ref (q 0), .ref (h9 0), .ref (t9 0)]))] ++ wT cC t9 tx ln po ki rp tg nu ++ wP cI u1_63 (va_up sv (slN ol n7) st) u0_63) s s.heap H locs := hw
          have e_75 : r_75 = nI (cntE st.1 (r * 480 + w * 80 + g * 4) 4) := e_75
          subst e_75
          have hw : Wd D A [(cI, .int), (cR, .object RX1), (cC, .char)] ([(x9, .inr (3, [.ref (q 0), .ref (h9 0), .ref (t9 0)]))] ++ wS cI q (putS st r w g v) ++ wR cR h9 (fr7 u1_63 u0_63) (olN ol n7) (n7N n7) ++ wT cC t9 tx ln po ki rp tg nu ++ wP cI u1_63 (va_up sv (slN ol n7) st) u0_63) s s.heap H locs := hw.ord [9, 0, 1, 2, 3, 4, 5, 6, 7, 8, 10, 11] (k0 := 12) rfl rfl (by decide)
          exact hE (u0_63, u1_63) dX3_put_78 (rfl) (Nat.le_of_ble_eq_true rfl) (Nat.le_of_ble_eq_true rfl) ⟨⟨hw.1.1, fun k q hk => by cases hk⟩, hw.2.1, hw.2.2.1, hw.2.2.2⟩ (⟨show (nI (cntE st.1 (r * 480 + w * 80 + g * 4) 4) : Int32) = (nI (cntE st.1 (r * 480 + w * 80 + g * 4) 4) : Int32) from by first | rfl | (congr <;> omega) | simp_all, e_63⟩)
        ·
          exact absurd hv.2 c_42
    ·
      refine lv_iload_n hx hb dX3_put_17 rfl (lv_at hl 3 rfl) ?_
      refine lv_iconst (v := nI 2) hx hb dX3_put_18 kc_iconst_2 ?_
      refine r_icmp_eqN (tgt := 32) hx hb (by omega) (by omega) dX3_put_19 (by decide) (fun c_19 => ?_) (fun c_19 => ?_)
      ·
        refine lv_iload hx hb dX3_put_32 (lv_at hl 4 rfl) ?_
        refine lv_if_lt (tgt := 45) hx hb dX3_put_34 (by decide) (fun c_34 => ?_) (fun c_34 => ?_)
        ·
          exact absurd c_34 (Int32.not_lt.mpr hv.1)
        ·
          refine lv_iload hx hb dX3_put_37 (lv_at hl 4 rfl) ?_
          refine lv_sipush (v := nI 999) hx hb dX3_put_39 kc_sipush_999 ?_
          refine lv_icmp_le (tgt := 55) hx hb dX3_put_42 (by decide) (fun c_42 => ?_) (fun c_42 => ?_)
          ·
            refine lv_aload_n hx hb dX3_put_55 rfl (lv_at hl 0 rfl) ?_
            refine r_get hx hb hts hown hw.q 0 1 hin3 rfl rfl (by decide) k19 rfl dX3_put_56 ?_
            refine lv_aload_n hx hb dX3_put_59 rfl (lv_at hl 0 rfl) ?_
            refine r_get hx hb hts hown hw.q 0 0 hin3 rfl rfl (by decide) k10 rfl dX3_put_60 ?_
            refine cp_Vx (w1 := fun (u9 : Nat × (Nat → Nat → Nat)) => wR cR h9 (fr7 u9.2 u9.1) (olN ol n7) (n7N n7) ++ wS cI q st) (pl := fun (u9 : Nat × (Nat → Nat → Nat)) => wP cI u9.2 (va_up sv (slN ol n7) st) u9.1) (As := [.ref (q 0)]) (rest := []) (wc := wR cR h9 (fr7 ad n8) ol n7 ++ wS cI q st) (wr := [(x9, .inr (3, [.ref (q 0), .ref (h9 0), .ref (t9 0)]))] ++ wT cC t9 tx ln po ki rp tg nu) S hz (c_X0_save l D (sz := H.size) (cI := cI) (cR := cR) (h9 := h9) (ad := ad) (sv := sv) (ol := ol) (n7 := n7) (m := n8) (q := q) (st := st) (hh := hh)) (cwV 1 hts gX3_put_X0_save rfl rfl rfl (by decide +kernel) ⟨Nat.le_of_ble_eq_true rfl, Nat.le_of_ble_eq_true rfl⟩) hw hA [8, 9, 1, 2, 3, 4, 5, 6, 7] [0, 10, 11] [0, 1] rfl rfl (k0 := 12) rfl (by decide) rfl 0 rfl rfl rfl hl.1 (Nat.le_of_ble_eq_true rfl) ⟨Nat.le_of_ble_eq_true rfl, Nat.le_of_ble_eq_true rfl⟩ rfl dX3_put_63 (fun u_63 H locs e_63 hw => ?_)
            obtain ⟨u0_63, u1_63⟩ := u_63
            have hw : Wd D A [(cI, .int), (cR, .object RX1), (cC, .char)] (wR cR h9 (fr7 u1_63 u0_63) (olN ol n7) (n7N n7) ++ wS cI q st ++ [(x9, .inr (3, [.ref (q 0), .ref (h9 0), .ref (t9 0)]))] ++ wT cC t9 tx ln po ki rp tg nu ++ wP cI u1_63 (va_up sv (slN ol n7) st) u0_63) s s.heap H locs := hw
            refine lv_aload_n hx hb dX3_put_66 rfl (lv_at hl 0 rfl) ?_
            refine r_get hx hb hts hown hw.q 9 0 hin3 rfl rfl (by decide) k10 rfl dX3_put_67 ?_
            refine lv_iload_n hx hb dX3_put_70 rfl (lv_at hl 1 rfl) ?_
            refine lv_iload_n hx hb dX3_put_71 rfl (lv_at hl 2 rfl) ?_
            refine lv_iload_n hx hb dX3_put_72 rfl (lv_at hl 3 rfl) ?_
            refine lv_iload hx hb dX3_put_73 (lv_at hl 4 rfl) ?_
            refine cp_Vi (As := [.int (nI r), .int (nI w), .int (nI g), .int v]) (rest := []) (wc := wS cI q st) (wr := wR cR h9 (fr7 u1_63 u0_63) (olN ol n7) (n7N n7) ++ [(x9, .inr (3, [.ref (q 0), .ref (h9 0), .ref (t9 0)]))] ++ wT cC t9 tx ln po ki rp tg nu) S (c_X1_putValue l D (sz := H.size) (cI := cI) (q := q) (st := st) (r := r) (w := w) (g := g) (v := v) (hr := by omega) (hw5 := by omega) (hg := by omega)) (cwV 4 hts gX3_put_X1_putValue rfl rfl rfl (by decide +kernel) ⟨Nat.le_of_ble_eq_true rfl, Nat.le_of_ble_eq_true rfl⟩) hw hA [2, 3, 4, 5, 6, 7, 8] [0, 1, 9, 10, 11] [0] rfl rfl (k0 := 12) rfl (by decide) rfl 0 rfl rfl rfl hl.1 (Nat.le_of_ble_eq_true rfl) ⟨Nat.le_of_ble_eq_true rfl, Nat.le_of_ble_eq_true rfl⟩ rfl dX3_put_75 (fun r_75 u_75 H locs e_75 hw => ?_)
            have hw : Wd D A [(cI, .int), (cR, .object RX1), (cC, .char)] (wS cI q (putS st r w g v) ++ wR cR h9 (fr7 u1_63 u0_63) (olN ol n7) (n7N n7) ++ [(x9, .inr (3, [.ref (q 0), .ref (h9 0), .ref (t9 0)]))] ++ wT cC t9 tx ln po ki rp tg nu ++ wP cI u1_63 (va_up sv (slN ol n7) st) u0_63) s s.heap H locs := hw
            have e_75 : r_75 = nI (cntE st.1 (r * 480 + w * 80 + g * 4) 4) := e_75
            subst e_75
            have hw : Wd D A [(cI, .int), (cR, .object RX1), (cC, .char)] ([(x9, .inr (3, [.ref (q 0), .ref (h9 0), .ref (t9 0)]))] ++ wS cI q (putS st r w g v) ++ wR cR h9 (fr7 u1_63 u0_63) (olN ol n7) (n7N n7) ++ wT cC t9 tx ln po ki rp tg nu ++ wP cI u1_63 (va_up sv (slN ol n7) st) u0_63) s s.heap H locs := hw.ord [9, 0, 1, 2, 3, 4, 5, 6, 7, 8, 10, 11] (k0 := 12) rfl rfl (by decide)
            exact hE (u0_63, u1_63) dX3_put_78 (rfl) (Nat.le_of_ble_eq_true rfl) (Nat.le_of_ble_eq_true rfl) ⟨⟨hw.1.1, fun k q hk => by cases hk⟩, hw.2.1, hw.2.2.1, hw.2.2.2⟩ (⟨show (nI (cntE st.1 (r * 480 + w * 80 + g * 4) 4) : Int32) = (nI (cntE st.1 (r * 480 + w * 80 + g * 4) 4) : Int32) from by first | rfl | (congr <;> omega) | simp_all, e_63⟩)
          ·
            exact absurd hv.2 c_42
      ·
        exact absurd c_19 (by omega)
abbrev rmX3_add : Room := { frames := 3, cells := 7, slots := 5790, locals := 122 }
set_option maxHeartbeats 4000000 in
set_option maxRecDepth 100000 in
theorem c_X3_add (l : Launch) (D : va_G) (sz : Nat) (cI cR cC : ClassId) (x9 : Nat) (q : Nat → Nat) (st : St) (h9 : Nat → Nat) (ad : Nat → Nat → Nat) (sv : Nat → St) (ol n7 n8 : Nat) (t9 : Nat → Nat) (tx : Nat → Nat) (ln po : Nat) (ki rp tg nu : Int32) (r w : Nat) (v : Int32) (hh : hI ol n7 n8) (hr : r < 4) (hw5 : w < 6) (hv : inP v (-99) (nI 99)) (hv0 : ¬ v = 0) : MXi l yX3_add wsX3_add rmX3_add [.ref x9, .int (nI r), .int (nI w), .int v] D [(cI, .int), (cR, .object RX1), (cC, .char)] ([(x9, .inr (3, [.ref (q 0), .ref (h9 0), .ref (t9 0)]))] ++ wS cI q st ++ wR cR h9 (fr7 ad n8) ol n7 ++ wT cC t9 tx ln po ki rp tg nu ++ wP cI ad sv n8) sz (fun rz (u9 : Nat × (Nat → Nat → Nat)) => rz = smE (addS st r w v) (r * 480 + w * 80 + 3 * 4) (cE 3 * 4 - 3 * 4) ∧ hI (olN ol n7) (n7N n7) u9.1) (fun u9 => []) (fun u9 => [(x9, .inr (3, [.ref (q 0), .ref (h9 0), .ref (t9 0)]))] ++ wS cI q (addS st r w v) ++ wR cR h9 (fr7 u9.2 u9.1) (olN ol n7) (n7N n7) ++ wT cC t9 tx ln po ki rp tg nu ++ wP cI u9.2 (va_up sv (slN ol n7) st) u9.1) 7 5790 := by
  refine met_xu (own := RX3) (cc := cX3_add) (maxL := 4) (ty := .int) (by decide) rfl rfl (Nat.le_of_ble_eq_true rfl) ?_
  intro p e s m args below meth c Q A hsz S hz hw hA hE ls hl
  obtain ⟨hx, hb, hml, hown, hts⟩ := id S
  have k19 := hts (.fieldLink RX3 19 "CausalTable" "history" "LCausalTable$History;") (by decide +kernel)
  have hin3 := (show ∀ w ∈ wsX30, w ∈ wsX3_add by decide +kernel)
  have k10 := hts (.fieldLink RX3 10 "CausalTable" "state" "LCausalTable$State;") (by decide +kernel)
  have hl : lv_has ls 4 [(0, .ref x9), (1, .int (nI r)), (2, .int (nI w)), (3, .int v)] := hl
  refine lv_iload_n hx hb dX3_add_0 rfl (lv_at hl 1 rfl) ?_
  refine cp_Sv (As := [.int (nI r)]) (rest := []) S (c_X3_checkReplica l D (sz := s.heap.size) (r := r) (hr := by omega)) (va_cwS 1 hts gX3_add_X3_checkReplica rfl rfl rfl (by decide +kernel) ⟨Nat.le_of_ble_eq_true rfl, Nat.le_of_ble_eq_true rfl⟩) hw hA rfl hl.1 (Nat.le_of_ble_eq_true rfl) ⟨Nat.le_of_ble_eq_true rfl, Nat.le_of_ble_eq_true rfl⟩ rfl dX3_add_1 (fun H locs hw => ?_)
  have hw : Wd D A [(cI, .int), (cR, .object RX1), (cC, .char)] ([(x9, .inr (3, [.ref (q 0), .ref (h9 0), .ref (t9 0)]))] ++ wS cI q st ++ wR cR h9 (fr7 ad n8) ol n7 ++ wT cC t9 tx ln po ki rp tg nu ++ wP cI ad sv n8) s s.heap H locs := hw
  refine lv_iload_n hx hb dX3_add_4 rfl (lv_at hl 2 rfl) ?_
  refine cp_Sv (As := [.int (nI w)]) (rest := []) S (c_X3_checkRow l D (sz := H.size) (w := w) (hw5 := by omega)) (va_cwS 1 hts gX3_add_X3_checkRow rfl rfl rfl (by decide +kernel) ⟨Nat.le_of_ble_eq_true rfl, Nat.le_of_ble_eq_true rfl⟩) hw hA rfl hl.1 (Nat.le_of_ble_eq_true rfl) ⟨Nat.le_of_ble_eq_true rfl, Nat.le_of_ble_eq_true rfl⟩ rfl dX3_add_5 (fun H locs hw => ?_)
  have hw : Wd D A [(cI, .int), (cR, .object RX1), (cC, .char)] ([(x9, .inr (3, [.ref (q 0), .ref (h9 0), .ref (t9 0)]))] ++ wS cI q st ++ wR cR h9 (fr7 ad n8) ol n7 ++ wT cC t9 tx ln po ki rp tg nu ++ wP cI ad sv n8) s s.heap H locs := hw
  refine lv_iload_n hx hb dX3_add_8 rfl (lv_at hl 3 rfl) ?_
  refine lv_bipush (v := (-99)) hx hb dX3_add_9 kc_bipush_m99 ?_
  refine lv_icmp_lt (tgt := 24) hx hb dX3_add_11 (by decide) (fun c_11 => ?_) (fun c_11 => ?_)
  ·
    exact absurd c_11 (Int32.not_lt.mpr hv.1)
  ·
    refine lv_iload_n hx hb dX3_add_14 rfl (lv_at hl 3 rfl) ?_
    refine lv_bipush (v := nI 99) hx hb dX3_add_15 kc_bipush_99 ?_
    refine lv_icmp_gt (tgt := 24) hx hb dX3_add_17 (by decide) (fun c_17 => ?_) (fun c_17 => ?_)
    ·
      exact absurd c_17 (Int32.not_lt.mpr hv.2)
    ·
      refine lv_iload_n hx hb dX3_add_20 rfl (lv_at hl 3 rfl) ?_
      refine lv_if_ne (tgt := 34) hx hb dX3_add_21 (by decide) (fun _ => ?_) (fun h => absurd h (hv0))
      refine lv_aload_n hx hb dX3_add_34 rfl (lv_at hl 0 rfl) ?_
      refine r_get hx hb hts hown hw.q 0 1 hin3 rfl rfl (by decide) k19 rfl dX3_add_35 ?_
      refine lv_aload_n hx hb dX3_add_38 rfl (lv_at hl 0 rfl) ?_
      refine r_get hx hb hts hown hw.q 0 0 hin3 rfl rfl (by decide) k10 rfl dX3_add_39 ?_
      refine cp_Vx (w1 := fun (u9 : Nat × (Nat → Nat → Nat)) => wR cR h9 (fr7 u9.2 u9.1) (olN ol n7) (n7N n7) ++ wS cI q st) (pl := fun (u9 : Nat × (Nat → Nat → Nat)) => wP cI u9.2 (va_up sv (slN ol n7) st) u9.1) (As := [.ref (q 0)]) (rest := []) (wc := wR cR h9 (fr7 ad n8) ol n7 ++ wS cI q st) (wr := [(x9, .inr (3, [.ref (q 0), .ref (h9 0), .ref (t9 0)]))] ++ wT cC t9 tx ln po ki rp tg nu) S hz (c_X0_save l D (sz := H.size) (cI := cI) (cR := cR) (h9 := h9) (ad := ad) (sv := sv) (ol := ol) (n7 := n7) (m := n8) (q := q) (st := st) (hh := hh)) (cwV 1 hts gX3_add_X0_save rfl rfl rfl (by decide +kernel) ⟨Nat.le_of_ble_eq_true rfl, Nat.le_of_ble_eq_true rfl⟩) hw hA [8, 9, 1, 2, 3, 4, 5, 6, 7] [0, 10, 11] [0, 1] rfl rfl (k0 := 12) rfl (by decide) rfl 0 rfl rfl rfl hl.1 (Nat.le_of_ble_eq_true rfl) ⟨Nat.le_of_ble_eq_true rfl, Nat.le_of_ble_eq_true rfl⟩ rfl dX3_add_42 (fun u_42 H locs e_42 hw => ?_)
      obtain ⟨u0_42, u1_42⟩ := u_42
      have hw : Wd D A [(cI, .int), (cR, .object RX1), (cC, .char)] (wR cR h9 (fr7 u1_42 u0_42) (olN ol n7) (n7N n7) ++ wS cI q st ++ [(x9, .inr (3, [.ref (q 0), .ref (h9 0), .ref (t9 0)]))] ++ wT cC t9 tx ln po ki rp tg nu ++ wP cI u1_42 (va_up sv (slN ol n7) st) u0_42) s s.heap H locs := hw
      refine lv_aload_n hx hb dX3_add_45 rfl (lv_at hl 0 rfl) ?_
      refine r_get hx hb hts hown hw.q 9 0 hin3 rfl rfl (by decide) k10 rfl dX3_add_46 ?_
      refine lv_iload_n hx hb dX3_add_49 rfl (lv_at hl 1 rfl) ?_
      refine lv_iload_n hx hb dX3_add_50 rfl (lv_at hl 2 rfl) ?_
      refine lv_iload_n hx hb dX3_add_51 rfl (lv_at hl 3 rfl) ?_
      refine cp_Vv (As := [.int (nI r), .int (nI w), .int v]) (rest := []) (wc := wS cI q st) (wr := wR cR h9 (fr7 u1_42 u0_42) (olN ol n7) (n7N n7) ++ [(x9, .inr (3, [.ref (q 0), .ref (h9 0), .ref (t9 0)]))] ++ wT cC t9 tx ln po ki rp tg nu) S (c_X1_addAmount l D (sz := H.size) (cI := cI) (q := q) (st := st) (r := r) (w := w) (v := v) (hr := by omega) (hw5 := by omega)) (cwV 3 hts gX3_add_X1_addAmount rfl rfl rfl (by decide +kernel) ⟨Nat.le_of_ble_eq_true rfl, Nat.le_of_ble_eq_true rfl⟩) hw hA [2, 3, 4, 5, 6, 7, 8] [0, 1, 9, 10, 11] [0] rfl rfl (k0 := 12) rfl (by decide) rfl 0 rfl rfl rfl hl.1 (Nat.le_of_ble_eq_true rfl) ⟨Nat.le_of_ble_eq_true rfl, Nat.le_of_ble_eq_true rfl⟩ rfl dX3_add_52 (fun u_52 H locs e_52 hw => ?_)
      have hw : Wd D A [(cI, .int), (cR, .object RX1), (cC, .char)] (wS cI q (addS st r w v) ++ wR cR h9 (fr7 u1_42 u0_42) (olN ol n7) (n7N n7) ++ [(x9, .inr (3, [.ref (q 0), .ref (h9 0), .ref (t9 0)]))] ++ wT cC t9 tx ln po ki rp tg nu ++ wP cI u1_42 (va_up sv (slN ol n7) st) u0_42) s s.heap H locs := hw
      refine lv_aload_n hx hb dX3_add_55 rfl (lv_at hl 0 rfl) ?_
      refine r_get hx hb hts hown hw.q 9 0 hin3 rfl rfl (by decide) k10 rfl dX3_add_56 ?_
      refine lv_iload_n hx hb dX3_add_59 rfl (lv_at hl 1 rfl) ?_
      refine lv_iload_n hx hb dX3_add_60 rfl (lv_at hl 2 rfl) ?_
      refine lv_iconst (v := nI 3) hx hb dX3_add_61 kc_iconst_3 ?_
      refine cq_V (As := [.int (nI r), .int (nI w), .int (nI 3)]) (rest := []) S (c_X1_sumOfCell l D (cI := cI) (q := q) (st := (addS st r w v)) (r := r) (w := w) (g := 3) (hr := by omega) (hw5 := by omega) (hg := by omega)) (cwV 3 hts gX3_add_X1_sumOfCell rfl rfl rfl (by decide +kernel) ⟨Nat.le_of_ble_eq_true rfl, Nat.le_of_ble_eq_true rfl⟩) (hw.q.sub [0, 1, 2, 3, 4, 5, 6] [0] rfl rfl) 0 rfl rfl rfl hl.1 (Nat.le_of_ble_eq_true rfl) ⟨Nat.le_of_ble_eq_true rfl, Nat.le_of_ble_eq_true rfl⟩ rfl dX3_add_62 (fun r_62 e_62 => ?_)
      have e_62 : r_62 = smE (addS st r w v) (r * 480 + w * 80 + 3 * 4) (cE 3 * 4 - 3 * 4) := e_62
      subst e_62
      have hw : Wd D A [(cI, .int), (cR, .object RX1), (cC, .char)] ([(x9, .inr (3, [.ref (q 0), .ref (h9 0), .ref (t9 0)]))] ++ wS cI q (addS st r w v) ++ wR cR h9 (fr7 u1_42 u0_42) (olN ol n7) (n7N n7) ++ wT cC t9 tx ln po ki rp tg nu ++ wP cI u1_42 (va_up sv (slN ol n7) st) u0_42) s s.heap H locs := hw.ord [9, 0, 1, 2, 3, 4, 5, 6, 7, 8, 10, 11] (k0 := 12) rfl rfl (by decide)
      exact hE (u0_42, u1_42) dX3_add_65 (rfl) (Nat.le_of_ble_eq_true rfl) (Nat.le_of_ble_eq_true rfl) ⟨⟨hw.1.1, fun k q hk => by cases hk⟩, hw.2.1, hw.2.2.1, hw.2.2.2⟩ (⟨show (smE (addS st r w v) (r * 480 + w * 80 + 3 * 4) (cE 3 * 4 - 3 * 4) : Int32) = (smE (addS st r w v) (r * 480 + w * 80 + 3 * 4) (cE 3 * 4 - 3 * 4) : Int32) from by first | rfl | (congr <;> omega) | simp_all, e_42⟩)
abbrev rmX3_seen : Room := { frames := 1, cells := 0, slots := 0, locals := 22 }
set_option maxHeartbeats 4000000 in
set_option maxRecDepth 100000 in
theorem c_X3_seen (l : Launch) (D : va_G) (sz : Nat) (cI cR cC : ClassId) (x9 : Nat) (q : Nat → Nat) (st : St) (h9 : Nat → Nat) (ad : Nat → Nat → Nat) (sv : Nat → St) (ol n7 n8 : Nat) (t9 : Nat → Nat) (tx : Nat → Nat) (ln po : Nat) (ki rp tg nu : Int32) (a b : Nat) (hh : hI ol n7 n8) (ha : a < 4) (hb4 : b < 4) : MXi l yX3_seen wsX3_seen rmX3_seen [.ref x9, .int (nI a), .int (nI b)] D [(cI, .int), (cR, .object RX1), (cC, .char)] ([(x9, .inr (3, [.ref (q 0), .ref (h9 0), .ref (t9 0)]))] ++ wS cI q st ++ wR cR h9 (fr7 ad n8) ol n7 ++ wT cC t9 tx ln po ki rp tg nu ++ wP cI ad sv n8) sz (fun rz (u9 : Unit) => rz = st.2.2.2.1 (a * 4 + b)) (fun u9 => []) (fun u9 => [(x9, .inr (3, [.ref (q 0), .ref (h9 0), .ref (t9 0)]))] ++ wS cI q st ++ wR cR h9 (fr7 ad n8) ol n7 ++ wT cC t9 tx ln po ki rp tg nu ++ wP cI ad sv n8) 0 0 := by
  refine met_xu (own := RX3) (cc := cX3_seen) (maxL := 3) (ty := .int) (by decide) rfl rfl (Nat.le_of_ble_eq_true rfl) ?_
  intro p e s m args below meth c Q A hsz S hz hw hA hE ls hl
  obtain ⟨hx, hb, hml, hown, hts⟩ := id S
  have k10 := hts (.fieldLink RX3 10 "CausalTable" "state" "LCausalTable$State;") (by decide +kernel)
  have hin3 := (show ∀ w ∈ wsX30, w ∈ wsX3_seen by decide +kernel)
  have hl : lv_has ls 3 [(0, .ref x9), (1, .int (nI a)), (2, .int (nI b))] := hl
  refine lv_iload_n hx hb dX3_seen_0 rfl (lv_at hl 1 rfl) ?_
  refine cp_Sv (As := [.int (nI a)]) (rest := []) S (c_X3_checkReplica l D (sz := s.heap.size) (r := a) (hr := by omega)) (va_cwS 1 hts gX3_seen_X3_checkReplica rfl rfl rfl (by decide +kernel) ⟨Nat.le_of_ble_eq_true rfl, Nat.le_of_ble_eq_true rfl⟩) hw hA rfl hl.1 (Nat.le_of_ble_eq_true rfl) ⟨Nat.le_of_ble_eq_true rfl, Nat.le_of_ble_eq_true rfl⟩ rfl dX3_seen_1 (fun H locs hw => ?_)
  have hw : Wd D A [(cI, .int), (cR, .object RX1), (cC, .char)] ([(x9, .inr (3, [.ref (q 0), .ref (h9 0), .ref (t9 0)]))] ++ wS cI q st ++ wR cR h9 (fr7 ad n8) ol n7 ++ wT cC t9 tx ln po ki rp tg nu ++ wP cI ad sv n8) s s.heap H locs := hw
  refine lv_iload_n hx hb dX3_seen_4 rfl (lv_at hl 2 rfl) ?_
  refine cp_Sv (As := [.int (nI b)]) (rest := []) S (c_X3_checkReplica l D (sz := H.size) (r := b) (hr := by omega)) (va_cwS 1 hts gX3_seen_X3_checkReplica rfl rfl rfl (by decide +kernel) ⟨Nat.le_of_ble_eq_true rfl, Nat.le_of_ble_eq_true rfl⟩) hw hA rfl hl.1 (Nat.le_of_ble_eq_true rfl) ⟨Nat.le_of_ble_eq_true rfl, Nat.le_of_ble_eq_true rfl⟩ rfl dX3_seen_5 (fun H locs hw => ?_)
  have hw : Wd D A [(cI, .int), (cR, .object RX1), (cC, .char)] ([(x9, .inr (3, [.ref (q 0), .ref (h9 0), .ref (t9 0)]))] ++ wS cI q st ++ wR cR h9 (fr7 ad n8) ol n7 ++ wT cC t9 tx ln po ki rp tg nu ++ wP cI ad sv n8) s s.heap H locs := hw
  refine lv_aload_n hx hb dX3_seen_8 rfl (lv_at hl 0 rfl) ?_
  refine r_get hx hb hts hown hw.q 0 0 hin3 rfl rfl (by decide) k10 rfl dX3_seen_9 ?_
  refine lv_iload_n hx hb dX3_seen_12 rfl (lv_at hl 1 rfl) ?_
  refine lv_iload_n hx hb dX3_seen_13 rfl (lv_at hl 2 rfl) ?_
  refine cq_V (As := [.int (nI a), .int (nI b)]) (rest := []) S (c_X1_seenNumber l D (cI := cI) (q := q) (st := st) (a := a) (b := b) (ha := by omega) (hb4 := by omega)) (cwV 2 hts gX3_seen_X1_seenNumber rfl rfl rfl (by decide +kernel) ⟨Nat.le_of_ble_eq_true rfl, Nat.le_of_ble_eq_true rfl⟩) (hw.q.sub [1, 2, 3, 4, 5, 6, 7] [0] rfl rfl) 0 rfl rfl rfl hl.1 (Nat.le_of_ble_eq_true rfl) ⟨Nat.le_of_ble_eq_true rfl, Nat.le_of_ble_eq_true rfl⟩ rfl dX3_seen_14 (fun r_14 e_14 => ?_)
  have e_14 : r_14 = st.2.2.2.1 (a * 4 + b) := e_14
  subst e_14
  exact hE () dX3_seen_17 (rfl) (Nat.le_of_ble_eq_true rfl) (Nat.le_of_ble_eq_true rfl) ⟨⟨hw.1.1, fun k q hk => by cases hk⟩, hw.2.1, hw.2.2.1, hw.2.2.2⟩ (show (st.2.2.2.1 (a * 4 + b) : Int32) = (st.2.2.2.1 (a * 4 + b) : Int32) from by first | rfl | (congr <;> omega) | simp_all)
abbrev rmX3_clock : Room := { frames := 1, cells := 0, slots := 0, locals := 20 }
set_option maxHeartbeats 4000000 in
set_option maxRecDepth 100000 in
theorem c_X3_clock (l : Launch) (D : va_G) (sz : Nat) (cI cR cC : ClassId) (x9 : Nat) (q : Nat → Nat) (st : St) (h9 : Nat → Nat) (ad : Nat → Nat → Nat) (sv : Nat → St) (ol n7 n8 : Nat) (t9 : Nat → Nat) (tx : Nat → Nat) (ln po : Nat) (ki rp tg nu : Int32) (r : Nat) (hh : hI ol n7 n8) (hr : r < 4) : MXi l yX3_clock wsX3_clock rmX3_clock [.ref x9, .int (nI r)] D [(cI, .int), (cR, .object RX1), (cC, .char)] ([(x9, .inr (3, [.ref (q 0), .ref (h9 0), .ref (t9 0)]))] ++ wS cI q st ++ wR cR h9 (fr7 ad n8) ol n7 ++ wT cC t9 tx ln po ki rp tg nu ++ wP cI ad sv n8) sz (fun rz (u9 : Unit) => rz = st.2.2.2.2.1 r) (fun u9 => []) (fun u9 => [(x9, .inr (3, [.ref (q 0), .ref (h9 0), .ref (t9 0)]))] ++ wS cI q st ++ wR cR h9 (fr7 ad n8) ol n7 ++ wT cC t9 tx ln po ki rp tg nu ++ wP cI ad sv n8) 0 0 := by
  refine met_xu (own := RX3) (cc := cX3_clock) (maxL := 2) (ty := .int) (by decide) rfl rfl (Nat.le_of_ble_eq_true rfl) ?_
  intro p e s m args below meth c Q A hsz S hz hw hA hE ls hl
  obtain ⟨hx, hb, hml, hown, hts⟩ := id S
  have k10 := hts (.fieldLink RX3 10 "CausalTable" "state" "LCausalTable$State;") (by decide +kernel)
  have hin3 := (show ∀ w ∈ wsX30, w ∈ wsX3_clock by decide +kernel)
  have hin1 := (show ∀ w ∈ wsX10, w ∈ wsX3_clock by decide +kernel)
  have hl : lv_has ls 2 [(0, .ref x9), (1, .int (nI r))] := hl
  refine lv_iload_n hx hb dX3_clock_0 rfl (lv_at hl 1 rfl) ?_
  refine cp_Sv (As := [.int (nI r)]) (rest := []) S (c_X3_checkReplica l D (sz := s.heap.size) (r := r) (hr := by omega)) (va_cwS 1 hts gX3_clock_X3_checkReplica rfl rfl rfl (by decide +kernel) ⟨Nat.le_of_ble_eq_true rfl, Nat.le_of_ble_eq_true rfl⟩) hw hA rfl hl.1 (Nat.le_of_ble_eq_true rfl) ⟨Nat.le_of_ble_eq_true rfl, Nat.le_of_ble_eq_true rfl⟩ rfl dX3_clock_1 (fun H locs hw => ?_)
  have hw : Wd D A [(cI, .int), (cR, .object RX1), (cC, .char)] ([(x9, .inr (3, [.ref (q 0), .ref (h9 0), .ref (t9 0)]))] ++ wS cI q st ++ wR cR h9 (fr7 ad n8) ol n7 ++ wT cC t9 tx ln po ki rp tg nu ++ wP cI ad sv n8) s s.heap H locs := hw
  refine lv_aload_n hx hb dX3_clock_4 rfl (lv_at hl 0 rfl) ?_
  refine r_get hx hb hts hown hw.q 0 0 hin3 rfl rfl (by decide) k10 rfl dX3_clock_5 ?_
  refine r_getN hx hb hts hown hw.q 1 4 hin1 rfl rfl (by decide) (hz.at 0 rfl) rfl dX3_clock_8 ?_
  refine lv_iload_n hx hb dX3_clock_11 rfl (lv_at hl 1 rfl) ?_
  refine r_ald hx hb hw.q 6 0 rfl rfl (i := r) (by omega) (by decide) dX3_clock_12 ?_
  exact hE () dX3_clock_13 (rfl) (Nat.le_of_ble_eq_true rfl) (Nat.le_of_ble_eq_true rfl) ⟨⟨hw.1.1, fun k q hk => by cases hk⟩, hw.2.1, hw.2.2.1, hw.2.2.2⟩ (show (st.2.2.2.2.1 r : Int32) = (st.2.2.2.2.1 r : Int32) from by first | rfl | (congr <;> omega) | simp_all)
abbrev rmX3_relation : Room := { frames := 2, cells := 0, slots := 0, locals := 45 }
set_option maxHeartbeats 4000000 in
set_option maxRecDepth 100000 in
theorem c_X3_relation (l : Launch) (D : va_G) (sz : Nat) (cI cR cC : ClassId) (x9 : Nat) (q : Nat → Nat) (st : St) (h9 : Nat → Nat) (ad : Nat → Nat → Nat) (sv : Nat → St) (ol n7 n8 : Nat) (t9 : Nat → Nat) (tx : Nat → Nat) (ln po : Nat) (ki rp tg nu : Int32) (a b : Nat) (hh : hI ol n7 n8) (ha : a < 4) (hb4 : b < 4) : MXi l yX3_relation wsX3_relation rmX3_relation [.ref x9, .int (nI a), .int (nI b)] D [(cI, .int), (cR, .object RX1), (cC, .char)] ([(x9, .inr (3, [.ref (q 0), .ref (h9 0), .ref (t9 0)]))] ++ wS cI q st ++ wR cR h9 (fr7 ad n8) ol n7 ++ wT cC t9 tx ln po ki rp tg nu ++ wP cI ad sv n8) sz (fun rz (u9 : Unit) => rz = reS st a b) (fun u9 => []) (fun u9 => [(x9, .inr (3, [.ref (q 0), .ref (h9 0), .ref (t9 0)]))] ++ wS cI q st ++ wR cR h9 (fr7 ad n8) ol n7 ++ wT cC t9 tx ln po ki rp tg nu ++ wP cI ad sv n8) 0 0 := by
  refine met_xu (own := RX3) (cc := cX3_relation) (maxL := 5) (ty := .int) (by decide) rfl rfl (Nat.le_of_ble_eq_true rfl) ?_
  intro p e s m args below meth c Q A hsz S hz hw hA hE ls hl
  obtain ⟨hx, hb, hml, hown, hts⟩ := id S
  have k10 := hts (.fieldLink RX3 10 "CausalTable" "state" "LCausalTable$State;") (by decide +kernel)
  have hin3 := (show ∀ w ∈ wsX30, w ∈ wsX3_relation by decide +kernel)
  have hl : lv_has ls 5 [(0, .ref x9), (1, .int (nI a)), (2, .int (nI b))] := hl
  refine lv_iload_n hx hb dX3_relation_0 rfl (lv_at hl 1 rfl) ?_
  refine cp_Sv (As := [.int (nI a)]) (rest := []) S (c_X3_checkReplica l D (sz := s.heap.size) (r := a) (hr := by omega)) (va_cwS 1 hts gX3_relation_X3_checkReplica rfl rfl rfl (by decide +kernel) ⟨Nat.le_of_ble_eq_true rfl, Nat.le_of_ble_eq_true rfl⟩) hw hA rfl hl.1 (Nat.le_of_ble_eq_true rfl) ⟨Nat.le_of_ble_eq_true rfl, Nat.le_of_ble_eq_true rfl⟩ rfl dX3_relation_1 (fun H locs hw => ?_)
  have hw : Wd D A [(cI, .int), (cR, .object RX1), (cC, .char)] ([(x9, .inr (3, [.ref (q 0), .ref (h9 0), .ref (t9 0)]))] ++ wS cI q st ++ wR cR h9 (fr7 ad n8) ol n7 ++ wT cC t9 tx ln po ki rp tg nu ++ wP cI ad sv n8) s s.heap H locs := hw
  refine lv_iload_n hx hb dX3_relation_4 rfl (lv_at hl 2 rfl) ?_
  refine cp_Sv (As := [.int (nI b)]) (rest := []) S (c_X3_checkReplica l D (sz := H.size) (r := b) (hr := by omega)) (va_cwS 1 hts gX3_relation_X3_checkReplica rfl rfl rfl (by decide +kernel) ⟨Nat.le_of_ble_eq_true rfl, Nat.le_of_ble_eq_true rfl⟩) hw hA rfl hl.1 (Nat.le_of_ble_eq_true rfl) ⟨Nat.le_of_ble_eq_true rfl, Nat.le_of_ble_eq_true rfl⟩ rfl dX3_relation_5 (fun H locs hw => ?_)
  have hw : Wd D A [(cI, .int), (cR, .object RX1), (cC, .char)] ([(x9, .inr (3, [.ref (q 0), .ref (h9 0), .ref (t9 0)]))] ++ wS cI q st ++ wR cR h9 (fr7 ad n8) ol n7 ++ wT cC t9 tx ln po ki rp tg nu ++ wP cI ad sv n8) s s.heap H locs := hw
  refine lv_aload_n hx hb dX3_relation_8 rfl (lv_at hl 0 rfl) ?_
  refine r_get hx hb hts hown hw.q 0 0 hin3 rfl rfl (by decide) k10 rfl dX3_relation_9 ?_
  refine lv_iload_n hx hb dX3_relation_12 rfl (lv_at hl 1 rfl) ?_
  refine lv_iload_n hx hb dX3_relation_13 rfl (lv_at hl 2 rfl) ?_
  refine cq_V (As := [.int (nI a), .int (nI b)]) (rest := []) S (c_X1_knows l D (cI := cI) (q := q) (st := st) (a := a) (b := b) (ha := by omega) (hb4 := by omega)) (cwV 2 hts gX3_relation_X1_knows rfl rfl rfl (by decide +kernel) ⟨Nat.le_of_ble_eq_true rfl, Nat.le_of_ble_eq_true rfl⟩) (hw.q.sub [1, 2, 3, 4, 5, 6, 7] [0] rfl rfl) 0 rfl rfl rfl hl.1 (Nat.le_of_ble_eq_true rfl) ⟨Nat.le_of_ble_eq_true rfl, Nat.le_of_ble_eq_true rfl⟩ rfl dX3_relation_14 (fun r_14 e_14 => ?_)
  have e_14 : r_14 = b2 (knP st a b) := e_14
  subst e_14
  refine lv_istore_n (lv' := [(3, .int (b2 (knP st a b))), (0, .ref x9), (1, .int (nI a)), (2, .int (nI b))]) hx hb dX3_relation_17 rfl hl (by decide) rfl (fun ls hl => ?_)
  refine lv_aload_n hx hb dX3_relation_18 rfl (lv_at hl 1 rfl) ?_
  refine r_get hx hb hts hown hw.q 0 0 hin3 rfl rfl (by decide) k10 rfl dX3_relation_19 ?_
  refine lv_iload_n hx hb dX3_relation_22 rfl (lv_at hl 3 rfl) ?_
  refine lv_iload_n hx hb dX3_relation_23 rfl (lv_at hl 2 rfl) ?_
  refine cq_V (As := [.int (nI b), .int (nI a)]) (rest := []) S (c_X1_knows l D (cI := cI) (q := q) (st := st) (a := b) (b := a) (ha := by omega) (hb4 := by omega)) (cwV 2 hts gX3_relation_X1_knows rfl rfl rfl (by decide +kernel) ⟨Nat.le_of_ble_eq_true rfl, Nat.le_of_ble_eq_true rfl⟩) (hw.q.sub [1, 2, 3, 4, 5, 6, 7] [0] rfl rfl) 0 rfl rfl rfl hl.1 (Nat.le_of_ble_eq_true rfl) ⟨Nat.le_of_ble_eq_true rfl, Nat.le_of_ble_eq_true rfl⟩ rfl dX3_relation_24 (fun r_24 e_24 => ?_)
  have e_24 : r_24 = b2 (knP st b a) := e_24
  subst e_24
  refine lv_istore (lv' := [(4, .int (b2 (knP st b a))), (3, .int (b2 (knP st a b))), (0, .ref x9), (1, .int (nI a)), (2, .int (nI b))]) hx hb dX3_relation_27 hl (by decide) rfl (fun ls hl => ?_)
  refine lv_iload_n hx hb dX3_relation_29 rfl (lv_at hl 1 rfl) ?_
  refine r_if_eqB (tgt := 44) hx hb dX3_relation_30 (by decide) (fun c_30 => ?_) (fun c_30 => ?_)
  ·
    refine lv_iload hx hb dX3_relation_44 (lv_at hl 0 rfl) ?_
    refine r_if_eqB (tgt := 53) hx hb dX3_relation_46 (by decide) (fun c_46 => ?_) (fun c_46 => ?_)
    ·
      refine lv_iconst (v := nI 3) hx hb dX3_relation_53 kc_iconst_3 ?_
      exact hE () dX3_relation_54 (rfl) (Nat.le_of_ble_eq_true rfl) (Nat.le_of_ble_eq_true rfl) ⟨⟨hw.1.1, fun k q hk => by cases hk⟩, hw.2.1, hw.2.2.1, hw.2.2.2⟩ (show (nI 3 : Int32) = (reS st a b : Int32) from by rw [reS, if_neg c_30]; first | exact (if_pos c_46).symm | exact (if_neg c_46).symm)
    ·
      refine lv_iconst (v := nI 1) hx hb dX3_relation_49 kc_iconst_1 ?_
      refine lv_goto (tgt := 54) hx hb dX3_relation_50 (by decide) ?_
      exact hE () dX3_relation_54 (rfl) (Nat.le_of_ble_eq_true rfl) (Nat.le_of_ble_eq_true rfl) ⟨⟨hw.1.1, fun k q hk => by cases hk⟩, hw.2.1, hw.2.2.1, hw.2.2.2⟩ (show (nI 1 : Int32) = (reS st a b : Int32) from by rw [reS, if_neg c_30]; first | exact (if_pos c_46).symm | exact (if_neg c_46).symm)
  ·
    refine lv_iload hx hb dX3_relation_33 (lv_at hl 0 rfl) ?_
    refine r_if_eqB (tgt := 42) hx hb dX3_relation_35 (by decide) (fun c_35 => ?_) (fun c_35 => ?_)
    ·
      refine lv_iconst (v := nI 2) hx hb dX3_relation_42 kc_iconst_2 ?_
      exact hE () dX3_relation_43 (rfl) (Nat.le_of_ble_eq_true rfl) (Nat.le_of_ble_eq_true rfl) ⟨⟨hw.1.1, fun k q hk => by cases hk⟩, hw.2.1, hw.2.2.1, hw.2.2.2⟩ (show (nI 2 : Int32) = (reS st a b : Int32) from by rw [reS, if_pos c_30]; first | exact (if_pos c_35).symm | exact (if_neg c_35).symm)
    ·
      refine lv_iconst (v := nI 0) hx hb dX3_relation_38 kc_iconst_0 ?_
      refine lv_goto (tgt := 43) hx hb dX3_relation_39 (by decide) ?_
      exact hE () dX3_relation_43 (rfl) (Nat.le_of_ble_eq_true rfl) (Nat.le_of_ble_eq_true rfl) ⟨⟨hw.1.1, fun k q hk => by cases hk⟩, hw.2.1, hw.2.2.1, hw.2.2.2⟩ (show (nI 0 : Int32) = (reS st a b : Int32) from by rw [reS, if_pos c_30]; first | exact (if_pos c_35).symm | exact (if_neg c_35).symm)
abbrev rmX3_conflicts : Room := { frames := 3, cells := 0, slots := 0, locals := 67 }
set_option maxHeartbeats 4000000 in
set_option maxRecDepth 100000 in
theorem c_X3_conflicts (l : Launch) (D : va_G) (sz : Nat) (cI cR cC : ClassId) (x9 : Nat) (q : Nat → Nat) (st : St) (h9 : Nat → Nat) (ad : Nat → Nat → Nat) (sv : Nat → St) (ol n7 n8 : Nat) (t9 : Nat → Nat) (tx : Nat → Nat) (ln po : Nat) (ki rp tg nu : Int32) (r : Nat) (hh : hI ol n7 n8) (hr : r < 4) : MXi l yX3_conflicts wsX3_conflicts rmX3_conflicts [.ref x9, .int (nI r)] D [(cI, .int), (cR, .object RX1), (cC, .char)] ([(x9, .inr (3, [.ref (q 0), .ref (h9 0), .ref (t9 0)]))] ++ wS cI q st ++ wR cR h9 (fr7 ad n8) ol n7 ++ wT cC t9 tx ln po ki rp tg nu ++ wP cI ad sv n8) sz (fun rz (u9 : Unit) => rz = nI (cfS st r 6)) (fun u9 => []) (fun u9 => [(x9, .inr (3, [.ref (q 0), .ref (h9 0), .ref (t9 0)]))] ++ wS cI q st ++ wR cR h9 (fr7 ad n8) ol n7 ++ wT cC t9 tx ln po ki rp tg nu ++ wP cI ad sv n8) 0 0 := by
  refine met_xu (own := RX3) (cc := cX3_conflicts) (maxL := 4) (ty := .int) (by decide) rfl rfl (Nat.le_of_ble_eq_true rfl) ?_
  intro p e s m args below meth c Q A hsz S hz hw hA hE ls hl
  obtain ⟨hx, hb, hml, hown, hts⟩ := id S
  have k10 := hts (.fieldLink RX3 10 "CausalTable" "state" "LCausalTable$State;") (by decide +kernel)
  have hin3 := (show ∀ w ∈ wsX30, w ∈ wsX3_conflicts by decide +kernel)
  have hl : lv_has ls 4 [(0, .ref x9), (1, .int (nI r))] := hl
  refine lv_iload_n hx hb dX3_conflicts_0 rfl (lv_at hl 1 rfl) ?_
  refine cp_Sv (As := [.int (nI r)]) (rest := []) S (c_X3_checkReplica l D (sz := s.heap.size) (r := r) (hr := by omega)) (va_cwS 1 hts gX3_conflicts_X3_checkReplica rfl rfl rfl (by decide +kernel) ⟨Nat.le_of_ble_eq_true rfl, Nat.le_of_ble_eq_true rfl⟩) hw hA rfl hl.1 (Nat.le_of_ble_eq_true rfl) ⟨Nat.le_of_ble_eq_true rfl, Nat.le_of_ble_eq_true rfl⟩ rfl dX3_conflicts_1 (fun H locs hw => ?_)
  have hw : Wd D A [(cI, .int), (cR, .object RX1), (cC, .char)] ([(x9, .inr (3, [.ref (q 0), .ref (h9 0), .ref (t9 0)]))] ++ wS cI q st ++ wR cR h9 (fr7 ad n8) ol n7 ++ wT cC t9 tx ln po ki rp tg nu ++ wP cI ad sv n8) s s.heap H locs := hw
  refine lv_iconst (v := nI 0) hx hb dX3_conflicts_4 kc_iconst_0 ?_
  refine lv_istore_n (lv' := [(2, .int (nI 0)), (0, .ref x9), (1, .int (nI r))]) hx hb dX3_conflicts_5 rfl hl (by decide) rfl (fun ls hl => ?_)
  refine lv_iconst (v := nI 0) hx hb dX3_conflicts_6 kc_iconst_0 ?_
  refine lv_istore_n (lv' := [(3, .int (nI 0)), (2, .int (nI 0)), (0, .ref x9), (1, .int (nI r))]) hx hb dX3_conflicts_7 rfl hl (by decide) rfl (fun ls hl => ?_)
  have L8_1 : ∀ (fu_2 k : Nat), k ≤ 6 → 6 - k < fu_2 → ∀ ls : Array Slot, lv_has ls 4 [(3, .int (nI k)), (2, .int (nI (cfS st r k))), (0, .ref x9), (1, .int (nI r))] → W p l e rmX3_conflicts s m args below meth c H locs 0 0 Q (F0 m 8 ls []) := by
    intro fu_2
    induction fu_2 with
    | zero => intro k _ h9; exact absurd h9 (Nat.not_lt_zero _)
    | succ fu_2 ih_8 =>
      intro k hk_8 hf_8 ls hl
      have hcn := cntE_le st.1 (r * 480 + k * 80 + 1 * 4) (cE 1 * 4 - 1 * 4)
      have hce : cE 1 * 4 - 1 * 4 = 4 := rfl
      refine lv_iload_n hx hb dX3_conflicts_8 rfl (lv_at hl 0 rfl) ?_
      refine lv_bipush (v := nI 6) hx hb dX3_conflicts_9 kc_bipush_6 ?_
      refine r_icmp_geN (tgt := 37) hx hb (by omega) (by omega) dX3_conflicts_11 (by decide) (fun c_11 => ?_) (fun c_11 => ?_)
      ·
        refine lv_iload_n hx hb dX3_conflicts_37 rfl (lv_at hl 1 rfl) ?_
        exact hE () dX3_conflicts_38 (rfl) (Nat.le_of_ble_eq_true rfl) (Nat.le_of_ble_eq_true rfl) ⟨⟨hw.1.1, fun k q hk => by cases hk⟩, hw.2.1, hw.2.2.1, hw.2.2.2⟩ (show (nI (cfS st r k) : Int32) = (nI (cfS st r 6) : Int32) from by rw [show k = 6 by omega])
      ·
        refine lv_aload_n hx hb dX3_conflicts_14 rfl (lv_at hl 2 rfl) ?_
        refine r_get hx hb hts hown hw.q 0 0 hin3 rfl rfl (by decide) k10 rfl dX3_conflicts_15 ?_
        refine lv_iload_n hx hb dX3_conflicts_18 rfl (lv_at hl 3 rfl) ?_
        refine lv_iload_n hx hb dX3_conflicts_19 rfl (lv_at hl 0 rfl) ?_
        refine lv_iconst (v := nI 1) hx hb dX3_conflicts_20 kc_iconst_1 ?_
        refine cq_V (As := [.int (nI r), .int (nI k), .int (nI 1)]) (rest := []) S (c_X1_countInCell l D (cI := cI) (q := q) (st := st) (r := r) (w := k) (g := 1) (hr := by omega) (hw5 := by omega) (hg := by omega)) (cwV 3 hts gX3_conflicts_X1_countInCell rfl rfl rfl (by decide +kernel) ⟨Nat.le_of_ble_eq_true rfl, Nat.le_of_ble_eq_true rfl⟩) (hw.q.sub [1, 2, 3, 4, 5, 6, 7] [0] rfl rfl) 0 rfl rfl rfl hl.1 (Nat.le_of_ble_eq_true rfl) ⟨Nat.le_of_ble_eq_true rfl, Nat.le_of_ble_eq_true rfl⟩ rfl dX3_conflicts_21 (fun r_21 e_21 => ?_)
        have e_21 : r_21 = nI (cntE st.1 (r * 480 + k * 80 + 1 * 4) (cE 1 * 4 - 1 * 4)) := e_21
        subst e_21
        refine lv_iconst (v := nI 2) hx hb dX3_conflicts_24 kc_iconst_2 ?_
        refine r_icmp_ltN (tgt := 31) hx hb (by omega) (by omega) dX3_conflicts_25 (by decide) (fun c_25 => ?_) (fun c_25 => ?_)
        ·
          refine lv_iinc (v := nI (k + 1)) (lv' := [(3, .int (nI (k + 1))), (2, .int (nI (cfS st r k))), (0, .ref x9), (1, .int (nI r))]) hx hb dX3_conflicts_31 hl (k := 0) rfl (nI_add k 1) (by decide) rfl (fun ls hl => ?_)
          refine lv_goto (tgt := 8) hx hb dX3_conflicts_34 (by decide) ?_
          have hl : lv_has ls 4 [(3, .int (nI (k + 1))), (2, .int (nI (cfS st r k))), (0, .ref x9), (1, .int (nI r))] := lv_sub hl [0, 1, 2, 3] rfl
          have hl : lv_has ls 4 [(3, .int (nI (k + 1))), (2, .int (nI (cfS st r (k + 1)))), (0, .ref x9), (1, .int (nI r))] := lv_rep hl 1 rfl (congrArg (fun z => Value.int (nI z)) (show cfS st r k = cfS st r (k + 1) from by first | (rw [cfS, if_pos c_25] <;> rfl) | rw [cfS, if_neg (Nat.not_lt.mpr c_25)]))
          exact ih_8 (k + 1) (by omega) (by omega) ls hl
        ·
          refine lv_iinc (v := nI ((cfS st r k) + 1)) (lv' := [(2, .int (nI ((cfS st r k) + 1))), (3, .int (nI k)), (0, .ref x9), (1, .int (nI r))]) hx hb dX3_conflicts_28 hl (k := 1) rfl (nI_add (cfS st r k) 1) (by decide) rfl (fun ls hl => ?_)
          refine lv_iinc (v := nI (k + 1)) (lv' := [(3, .int (nI (k + 1))), (2, .int (nI ((cfS st r k) + 1))), (0, .ref x9), (1, .int (nI r))]) hx hb dX3_conflicts_31 hl (k := 1) rfl (nI_add k 1) (by decide) rfl (fun ls hl => ?_)
          refine lv_goto (tgt := 8) hx hb dX3_conflicts_34 (by decide) ?_
          have hl : lv_has ls 4 [(3, .int (nI (k + 1))), (2, .int (nI ((cfS st r k) + 1))), (0, .ref x9), (1, .int (nI r))] := lv_sub hl [0, 1, 2, 3] rfl
          have hl : lv_has ls 4 [(3, .int (nI (k + 1))), (2, .int (nI (cfS st r (k + 1)))), (0, .ref x9), (1, .int (nI r))] := lv_rep hl 1 rfl (congrArg (fun z => Value.int (nI z)) (show (cfS st r k) + 1 = cfS st r (k + 1) from by first | (rw [cfS, if_pos c_25] <;> rfl) | rw [cfS, if_neg (Nat.not_lt.mpr c_25)]))
          exact ih_8 (k + 1) (by omega) (by omega) ls hl
  have hl : lv_has ls 4 [(3, .int (nI 0)), (2, .int (nI 0)), (0, .ref x9), (1, .int (nI r))] := lv_sub hl [0, 1, 2, 3] rfl
  have hl : lv_has ls 4 [(3, .int (nI 0)), (2, .int (nI (cfS st r 0))), (0, .ref x9), (1, .int (nI r))] := lv_rep hl 1 rfl (congrArg (fun z => Value.int (nI z)) (show 0 = cfS st r 0 from rfl))
  exact L8_1 (6 + 1) (0) (by omega) (by omega) ls hl
abbrev rmX3_sibling : Room := { frames := 3, cells := 0, slots := 0, locals := 70 }
set_option maxHeartbeats 4000000 in
set_option maxRecDepth 100000 in
theorem c_X3_sibling (l : Launch) (D : va_G) (sz : Nat) (cI cR cC : ClassId) (x9 : Nat) (q : Nat → Nat) (st : St) (h9 : Nat → Nat) (ad : Nat → Nat → Nat) (sv : Nat → St) (ol n7 n8 : Nat) (t9 : Nat → Nat) (tx : Nat → Nat) (ln po : Nat) (ki rp tg nu : Int32) (r w : Nat) (x : Int32) (hh : hI ol n7 n8) (hr : r < 4) (hw5 : w < 6) (hx0 : 0 ≤ x) : MXi l yX3_sibling wsX3_sibling rmX3_sibling [.ref x9, .int (nI r), .int (nI w), .int x] D [(cI, .int), (cR, .object RX1), (cC, .char)] ([(x9, .inr (3, [.ref (q 0), .ref (h9 0), .ref (t9 0)]))] ++ wS cI q st ++ wR cR h9 (fr7 ad n8) ol n7 ++ wT cC t9 tx ln po ki rp tg nu ++ wP cI ad sv n8) sz (fun rz (u9 : Unit) => rz = sbE st (r * 480 + w * 80 + 1 * 4) 4 x 4 0) (fun u9 => []) (fun u9 => [(x9, .inr (3, [.ref (q 0), .ref (h9 0), .ref (t9 0)]))] ++ wS cI q st ++ wR cR h9 (fr7 ad n8) ol n7 ++ wT cC t9 tx ln po ki rp tg nu ++ wP cI ad sv n8) 0 0 := by
  refine met_xu (own := RX3) (cc := cX3_sibling) (maxL := 4) (ty := .int) (by decide) rfl rfl (Nat.le_of_ble_eq_true rfl) ?_
  intro p e s m args below meth c Q A hsz S hz hw hA hE ls hl
  obtain ⟨hx, hb, hml, hown, hts⟩ := id S
  have k10 := hts (.fieldLink RX3 10 "CausalTable" "state" "LCausalTable$State;") (by decide +kernel)
  have hin3 := (show ∀ w ∈ wsX30, w ∈ wsX3_sibling by decide +kernel)
  have hl : lv_has ls 4 [(0, .ref x9), (1, .int (nI r)), (2, .int (nI w)), (3, .int x)] := hl
  refine lv_iload_n hx hb dX3_sibling_0 rfl (lv_at hl 1 rfl) ?_
  refine cp_Sv (As := [.int (nI r)]) (rest := []) S (c_X3_checkReplica l D (sz := s.heap.size) (r := r) (hr := by omega)) (va_cwS 1 hts gX3_sibling_X3_checkReplica rfl rfl rfl (by decide +kernel) ⟨Nat.le_of_ble_eq_true rfl, Nat.le_of_ble_eq_true rfl⟩) hw hA rfl hl.1 (Nat.le_of_ble_eq_true rfl) ⟨Nat.le_of_ble_eq_true rfl, Nat.le_of_ble_eq_true rfl⟩ rfl dX3_sibling_1 (fun H locs hw => ?_)
  have hw : Wd D A [(cI, .int), (cR, .object RX1), (cC, .char)] ([(x9, .inr (3, [.ref (q 0), .ref (h9 0), .ref (t9 0)]))] ++ wS cI q st ++ wR cR h9 (fr7 ad n8) ol n7 ++ wT cC t9 tx ln po ki rp tg nu ++ wP cI ad sv n8) s s.heap H locs := hw
  refine lv_iload_n hx hb dX3_sibling_4 rfl (lv_at hl 2 rfl) ?_
  refine cp_Sv (As := [.int (nI w)]) (rest := []) S (c_X3_checkRow l D (sz := H.size) (w := w) (hw5 := by omega)) (va_cwS 1 hts gX3_sibling_X3_checkRow rfl rfl rfl (by decide +kernel) ⟨Nat.le_of_ble_eq_true rfl, Nat.le_of_ble_eq_true rfl⟩) hw hA rfl hl.1 (Nat.le_of_ble_eq_true rfl) ⟨Nat.le_of_ble_eq_true rfl, Nat.le_of_ble_eq_true rfl⟩ rfl dX3_sibling_5 (fun H locs hw => ?_)
  have hw : Wd D A [(cI, .int), (cR, .object RX1), (cC, .char)] ([(x9, .inr (3, [.ref (q 0), .ref (h9 0), .ref (t9 0)]))] ++ wS cI q st ++ wR cR h9 (fr7 ad n8) ol n7 ++ wT cC t9 tx ln po ki rp tg nu ++ wP cI ad sv n8) s s.heap H locs := hw
  refine lv_iload_n hx hb dX3_sibling_8 rfl (lv_at hl 3 rfl) ?_
  refine lv_if_ge (tgt := 22) hx hb dX3_sibling_9 (by decide) (fun c_9 => ?_) (fun c_9 => ?_)
  ·
    refine lv_aload_n hx hb dX3_sibling_22 rfl (lv_at hl 0 rfl) ?_
    refine r_get hx hb hts hown hw.q 0 0 hin3 rfl rfl (by decide) k10 rfl dX3_sibling_23 ?_
    refine lv_iload_n hx hb dX3_sibling_26 rfl (lv_at hl 1 rfl) ?_
    refine lv_iload_n hx hb dX3_sibling_27 rfl (lv_at hl 2 rfl) ?_
    refine lv_iload_n hx hb dX3_sibling_28 rfl (lv_at hl 3 rfl) ?_
    refine cq_V (As := [.int (nI r), .int (nI w), .int x]) (rest := []) S (c_X1_siblingAt l D (cI := cI) (q := q) (st := st) (r := r) (w := w) (x := x) (hr := by omega) (hw5 := by omega)) (cwV 3 hts gX3_sibling_X1_siblingAt rfl rfl rfl (by decide +kernel) ⟨Nat.le_of_ble_eq_true rfl, Nat.le_of_ble_eq_true rfl⟩) (hw.q.sub [1, 2, 3, 4, 5, 6, 7] [0] rfl rfl) 0 rfl rfl rfl hl.1 (Nat.le_of_ble_eq_true rfl) ⟨Nat.le_of_ble_eq_true rfl, Nat.le_of_ble_eq_true rfl⟩ rfl dX3_sibling_29 (fun r_29 e_29 => ?_)
    have e_29 : r_29 = sbE st (r * 480 + w * 80 + 1 * 4) 4 x 4 0 := e_29
    subst e_29
    exact hE () dX3_sibling_32 (rfl) (Nat.le_of_ble_eq_true rfl) (Nat.le_of_ble_eq_true rfl) ⟨⟨hw.1.1, fun k q hk => by cases hk⟩, hw.2.1, hw.2.2.1, hw.2.2.2⟩ (show (sbE st (r * 480 + w * 80 + 1 * 4) 4 x 4 0 : Int32) = (sbE st (r * 480 + w * 80 + 1 * 4) 4 x 4 0 : Int32) from by first | rfl | (congr <;> omega) | simp_all)
  ·
    exact absurd hx0 c_9
abbrev rmX3_entries : Room := { frames := 3, cells := 0, slots := 0, locals := 67 }
set_option maxHeartbeats 4000000 in
set_option maxRecDepth 100000 in
theorem c_X3_entries (l : Launch) (D : va_G) (sz : Nat) (cI cR cC : ClassId) (x9 : Nat) (q : Nat → Nat) (st : St) (h9 : Nat → Nat) (ad : Nat → Nat → Nat) (sv : Nat → St) (ol n7 n8 : Nat) (t9 : Nat → Nat) (tx : Nat → Nat) (ln po : Nat) (ki rp tg nu : Int32) (r w g : Nat) (hh : hI ol n7 n8) (hr : r < 4) (hw5 : w < 6) (hg : g < 5) : MXi l yX3_entries wsX3_entries rmX3_entries [.ref x9, .int (nI r), .int (nI w), .int (nI g)] D [(cI, .int), (cR, .object RX1), (cC, .char)] ([(x9, .inr (3, [.ref (q 0), .ref (h9 0), .ref (t9 0)]))] ++ wS cI q st ++ wR cR h9 (fr7 ad n8) ol n7 ++ wT cC t9 tx ln po ki rp tg nu ++ wP cI ad sv n8) sz (fun rz (u9 : Unit) => rz = nI (cntE st.1 (r * 480 + w * 80 + g * 4) (cE g * 4 - g * 4))) (fun u9 => []) (fun u9 => [(x9, .inr (3, [.ref (q 0), .ref (h9 0), .ref (t9 0)]))] ++ wS cI q st ++ wR cR h9 (fr7 ad n8) ol n7 ++ wT cC t9 tx ln po ki rp tg nu ++ wP cI ad sv n8) 0 0 := by
  refine met_xu (own := RX3) (cc := cX3_entries) (maxL := 4) (ty := .int) (by decide) rfl rfl (Nat.le_of_ble_eq_true rfl) ?_
  intro p e s m args below meth c Q A hsz S hz hw hA hE ls hl
  obtain ⟨hx, hb, hml, hown, hts⟩ := id S
  have k10 := hts (.fieldLink RX3 10 "CausalTable" "state" "LCausalTable$State;") (by decide +kernel)
  have hin3 := (show ∀ w ∈ wsX30, w ∈ wsX3_entries by decide +kernel)
  have hl : lv_has ls 4 [(0, .ref x9), (1, .int (nI r)), (2, .int (nI w)), (3, .int (nI g))] := hl
  refine lv_iload_n hx hb dX3_entries_0 rfl (lv_at hl 1 rfl) ?_
  refine cp_Sv (As := [.int (nI r)]) (rest := []) S (c_X3_checkReplica l D (sz := s.heap.size) (r := r) (hr := by omega)) (va_cwS 1 hts gX3_entries_X3_checkReplica rfl rfl rfl (by decide +kernel) ⟨Nat.le_of_ble_eq_true rfl, Nat.le_of_ble_eq_true rfl⟩) hw hA rfl hl.1 (Nat.le_of_ble_eq_true rfl) ⟨Nat.le_of_ble_eq_true rfl, Nat.le_of_ble_eq_true rfl⟩ rfl dX3_entries_1 (fun H locs hw => ?_)
  have hw : Wd D A [(cI, .int), (cR, .object RX1), (cC, .char)] ([(x9, .inr (3, [.ref (q 0), .ref (h9 0), .ref (t9 0)]))] ++ wS cI q st ++ wR cR h9 (fr7 ad n8) ol n7 ++ wT cC t9 tx ln po ki rp tg nu ++ wP cI ad sv n8) s s.heap H locs := hw
  refine lv_iload_n hx hb dX3_entries_4 rfl (lv_at hl 2 rfl) ?_
  refine cp_Sv (As := [.int (nI w)]) (rest := []) S (c_X3_checkRow l D (sz := H.size) (w := w) (hw5 := by omega)) (va_cwS 1 hts gX3_entries_X3_checkRow rfl rfl rfl (by decide +kernel) ⟨Nat.le_of_ble_eq_true rfl, Nat.le_of_ble_eq_true rfl⟩) hw hA rfl hl.1 (Nat.le_of_ble_eq_true rfl) ⟨Nat.le_of_ble_eq_true rfl, Nat.le_of_ble_eq_true rfl⟩ rfl dX3_entries_5 (fun H locs hw => ?_)
  have hw : Wd D A [(cI, .int), (cR, .object RX1), (cC, .char)] ([(x9, .inr (3, [.ref (q 0), .ref (h9 0), .ref (t9 0)]))] ++ wS cI q st ++ wR cR h9 (fr7 ad n8) ol n7 ++ wT cC t9 tx ln po ki rp tg nu ++ wP cI ad sv n8) s s.heap H locs := hw
  refine lv_iload_n hx hb dX3_entries_8 rfl (lv_at hl 3 rfl) ?_
  refine lv_if_lt (tgt := 17) hx hb dX3_entries_9 (by decide) (fun h => absurd h (nI_pos (by omega))) (fun _ => ?_)
  refine lv_iload_n hx hb dX3_entries_12 rfl (lv_at hl 3 rfl) ?_
  refine lv_iconst (v := nI 5) hx hb dX3_entries_13 kc_iconst_5 ?_
  refine r_icmp_ltN (tgt := 27) hx hb (by omega) (by omega) dX3_entries_14 (by decide) (fun c_14 => ?_) (fun c_14 => ?_)
  ·
    refine lv_aload_n hx hb dX3_entries_27 rfl (lv_at hl 0 rfl) ?_
    refine r_get hx hb hts hown hw.q 0 0 hin3 rfl rfl (by decide) k10 rfl dX3_entries_28 ?_
    refine lv_iload_n hx hb dX3_entries_31 rfl (lv_at hl 1 rfl) ?_
    refine lv_iload_n hx hb dX3_entries_32 rfl (lv_at hl 2 rfl) ?_
    refine lv_iload_n hx hb dX3_entries_33 rfl (lv_at hl 3 rfl) ?_
    refine cq_V (As := [.int (nI r), .int (nI w), .int (nI g)]) (rest := []) S (c_X1_countInCell l D (cI := cI) (q := q) (st := st) (r := r) (w := w) (g := g) (hr := by omega) (hw5 := by omega) (hg := by omega)) (cwV 3 hts gX3_entries_X1_countInCell rfl rfl rfl (by decide +kernel) ⟨Nat.le_of_ble_eq_true rfl, Nat.le_of_ble_eq_true rfl⟩) (hw.q.sub [1, 2, 3, 4, 5, 6, 7] [0] rfl rfl) 0 rfl rfl rfl hl.1 (Nat.le_of_ble_eq_true rfl) ⟨Nat.le_of_ble_eq_true rfl, Nat.le_of_ble_eq_true rfl⟩ rfl dX3_entries_34 (fun r_34 e_34 => ?_)
    have e_34 : r_34 = nI (cntE st.1 (r * 480 + w * 80 + g * 4) (cE g * 4 - g * 4)) := e_34
    subst e_34
    exact hE () dX3_entries_37 (rfl) (Nat.le_of_ble_eq_true rfl) (Nat.le_of_ble_eq_true rfl) ⟨⟨hw.1.1, fun k q hk => by cases hk⟩, hw.2.1, hw.2.2.1, hw.2.2.2⟩ (show (nI (cntE st.1 (r * 480 + w * 80 + g * 4) (cE g * 4 - g * 4)) : Int32) = (nI (cntE st.1 (r * 480 + w * 80 + g * 4) (cE g * 4 - g * 4)) : Int32) from by first | rfl | (congr <;> omega) | simp_all)
  ·
    exact absurd c_14 (by omega)
abbrev rmX3_latestMerge : Room := { frames := 0, cells := 0, slots := 0, locals := 0 }
set_option maxHeartbeats 4000000 in
set_option maxRecDepth 100000 in
theorem c_X3_latestMerge (l : Launch) (D : va_G) (sz : Nat) (cI cR cC : ClassId) (x9 : Nat) (q : Nat → Nat) (st : St) (h9 : Nat → Nat) (ad : Nat → Nat → Nat) (sv : Nat → St) (ol n7 n8 : Nat) (t9 : Nat → Nat) (tx : Nat → Nat) (ln po : Nat) (ki rp tg nu : Int32) (c9 : Nat) (hh : hI ol n7 n8) (hc : c9 < 4) : MXi l yX3_latestMerge wsX3_latestMerge rmX3_latestMerge [.ref x9, .int (nI c9)] D [(cI, .int), (cR, .object RX1), (cC, .char)] ([(x9, .inr (3, [.ref (q 0), .ref (h9 0), .ref (t9 0)]))] ++ wS cI q st ++ wR cR h9 (fr7 ad n8) ol n7 ++ wT cC t9 tx ln po ki rp tg nu ++ wP cI ad sv n8) sz (fun rz (u9 : Unit) => rz = st.2.2.2.2.2 c9) (fun u9 => []) (fun u9 => [(x9, .inr (3, [.ref (q 0), .ref (h9 0), .ref (t9 0)]))] ++ wS cI q st ++ wR cR h9 (fr7 ad n8) ol n7 ++ wT cC t9 tx ln po ki rp tg nu ++ wP cI ad sv n8) 0 0 := by
  refine met_xu (own := RX3) (cc := cX3_latestMerge) (maxL := 2) (ty := .int) (by decide) rfl rfl (Nat.le_of_ble_eq_true rfl) ?_
  intro p e s m args below meth c Q A hsz S hz hw hA hE ls hl
  obtain ⟨hx, hb, hml, hown, hts⟩ := id S
  have k10 := hts (.fieldLink RX3 10 "CausalTable" "state" "LCausalTable$State;") (by decide +kernel)
  have hin3 := (show ∀ w ∈ wsX30, w ∈ wsX3_latestMerge by decide +kernel)
  have hin1 := (show ∀ w ∈ wsX10, w ∈ wsX3_latestMerge by decide +kernel)
  have hl : lv_has ls 2 [(0, .ref x9), (1, .int (nI c9))] := hl
  refine lv_iload_n hx hb dX3_latestMerge_0 rfl (lv_at hl 1 rfl) ?_
  refine lv_if_lt (tgt := 9) hx hb dX3_latestMerge_1 (by decide) (fun h => absurd h (nI_pos (by omega))) (fun _ => ?_)
  refine lv_iload_n hx hb dX3_latestMerge_4 rfl (lv_at hl 1 rfl) ?_
  refine lv_iconst (v := nI 4) hx hb dX3_latestMerge_5 kc_iconst_4 ?_
  refine r_icmp_ltN (tgt := 19) hx hb (by omega) (by omega) dX3_latestMerge_6 (by decide) (fun c_6 => ?_) (fun c_6 => ?_)
  ·
    refine lv_aload_n hx hb dX3_latestMerge_19 rfl (lv_at hl 0 rfl) ?_
    refine r_get hx hb hts hown hw.q 0 0 hin3 rfl rfl (by decide) k10 rfl dX3_latestMerge_20 ?_
    refine r_getN hx hb hts hown hw.q 1 5 hin1 rfl rfl (by decide) (hz.at 1 rfl) rfl dX3_latestMerge_23 ?_
    refine lv_iload_n hx hb dX3_latestMerge_26 rfl (lv_at hl 1 rfl) ?_
    refine r_ald hx hb hw.q 7 0 rfl rfl (i := c9) (by omega) (by decide) dX3_latestMerge_27 ?_
    exact hE () dX3_latestMerge_28 (rfl) (Nat.le_of_ble_eq_true rfl) (Nat.le_of_ble_eq_true rfl) ⟨⟨hw.1.1, fun k q hk => by cases hk⟩, hw.2.1, hw.2.2.1, hw.2.2.2⟩ (show (st.2.2.2.2.2 c9 : Int32) = (st.2.2.2.2.2 c9 : Int32) from by first | rfl | (congr <;> omega) | simp_all)
  ·
    exact absurd c_6 (by omega)
abbrev rmX3_ifMerged : Room := { frames := 3, cells := 0, slots := 0, locals := 70 }
set_option maxHeartbeats 4000000 in
set_option maxRecDepth 100000 in
theorem c_X3_ifMerged (l : Launch) (D : va_G) (sz : Nat) (cI cR cC : ClassId) (x9 : Nat) (q : Nat → Nat) (st : St) (h9 : Nat → Nat) (ad : Nat → Nat → Nat) (sv : Nat → St) (ol n7 n8 : Nat) (t9 : Nat → Nat) (tx : Nat → Nat) (ln po : Nat) (ki rp tg nu : Int32) (f t g : Nat) (hh : hI ol n7 n8) (hf4 : f < 4) (ht4 : t < 4) (hne : f ≠ t) (hg2 : 2 ≤ g) (hg3 : g ≤ 3) : MXi l yX3_ifMerged wsX3_ifMerged rmX3_ifMerged [.ref x9, .int (nI f), .int (nI t), .int (nI g)] D [(cI, .int), (cR, .object RX1), (cC, .char)] ([(x9, .inr (3, [.ref (q 0), .ref (h9 0), .ref (t9 0)]))] ++ wS cI q st ++ wR cR h9 (fr7 ad n8) ol n7 ++ wT cC t9 tx ln po ki rp tg nu ++ wP cI ad sv n8) sz (fun rz (u9 : Unit) => rz = nI (if g = 2 then cntP (fun o => addP st f t o) 480 else cntP (fun o => remP st f t o) 480)) (fun u9 => []) (fun u9 => [(x9, .inr (3, [.ref (q 0), .ref (h9 0), .ref (t9 0)]))] ++ wS cI q st ++ wR cR h9 (fr7 ad n8) ol n7 ++ wT cC t9 tx ln po ki rp tg nu ++ wP cI ad sv n8) 0 0 := by
  refine met_xu (own := RX3) (cc := cX3_ifMerged) (maxL := 4) (ty := .int) (by decide) rfl rfl (Nat.le_of_ble_eq_true rfl) ?_
  intro p e s m args below meth c Q A hsz S hz hw hA hE ls hl
  obtain ⟨hx, hb, hml, hown, hts⟩ := id S
  have k10 := hts (.fieldLink RX3 10 "CausalTable" "state" "LCausalTable$State;") (by decide +kernel)
  have hin3 := (show ∀ w ∈ wsX30, w ∈ wsX3_ifMerged by decide +kernel)
  have hl : lv_has ls 4 [(0, .ref x9), (1, .int (nI f)), (2, .int (nI t)), (3, .int (nI g))] := hl
  refine lv_iload_n hx hb dX3_ifMerged_0 rfl (lv_at hl 1 rfl) ?_
  refine cp_Sv (As := [.int (nI f)]) (rest := []) S (c_X3_checkReplica l D (sz := s.heap.size) (r := f) (hr := by omega)) (va_cwS 1 hts gX3_ifMerged_X3_checkReplica rfl rfl rfl (by decide +kernel) ⟨Nat.le_of_ble_eq_true rfl, Nat.le_of_ble_eq_true rfl⟩) hw hA rfl hl.1 (Nat.le_of_ble_eq_true rfl) ⟨Nat.le_of_ble_eq_true rfl, Nat.le_of_ble_eq_true rfl⟩ rfl dX3_ifMerged_1 (fun H locs hw => ?_)
  have hw : Wd D A [(cI, .int), (cR, .object RX1), (cC, .char)] ([(x9, .inr (3, [.ref (q 0), .ref (h9 0), .ref (t9 0)]))] ++ wS cI q st ++ wR cR h9 (fr7 ad n8) ol n7 ++ wT cC t9 tx ln po ki rp tg nu ++ wP cI ad sv n8) s s.heap H locs := hw
  refine lv_iload_n hx hb dX3_ifMerged_4 rfl (lv_at hl 2 rfl) ?_
  refine cp_Sv (As := [.int (nI t)]) (rest := []) S (c_X3_checkReplica l D (sz := H.size) (r := t) (hr := by omega)) (va_cwS 1 hts gX3_ifMerged_X3_checkReplica rfl rfl rfl (by decide +kernel) ⟨Nat.le_of_ble_eq_true rfl, Nat.le_of_ble_eq_true rfl⟩) hw hA rfl hl.1 (Nat.le_of_ble_eq_true rfl) ⟨Nat.le_of_ble_eq_true rfl, Nat.le_of_ble_eq_true rfl⟩ rfl dX3_ifMerged_5 (fun H locs hw => ?_)
  have hw : Wd D A [(cI, .int), (cR, .object RX1), (cC, .char)] ([(x9, .inr (3, [.ref (q 0), .ref (h9 0), .ref (t9 0)]))] ++ wS cI q st ++ wR cR h9 (fr7 ad n8) ol n7 ++ wT cC t9 tx ln po ki rp tg nu ++ wP cI ad sv n8) s s.heap H locs := hw
  refine lv_iload_n hx hb dX3_ifMerged_8 rfl (lv_at hl 1 rfl) ?_
  refine lv_iload_n hx hb dX3_ifMerged_9 rfl (lv_at hl 2 rfl) ?_
  refine cp_Sv (As := [.int (nI f), .int (nI t)]) (rest := []) S (c_X3_checkDifferent l D (sz := H.size) (f := f) (t := t) (hf4 := by omega) (ht4 := by omega) (hne := by omega)) (va_cwS 2 hts gX3_ifMerged_X3_checkDifferent rfl rfl rfl (by decide +kernel) ⟨Nat.le_of_ble_eq_true rfl, Nat.le_of_ble_eq_true rfl⟩) hw hA rfl hl.1 (Nat.le_of_ble_eq_true rfl) ⟨Nat.le_of_ble_eq_true rfl, Nat.le_of_ble_eq_true rfl⟩ rfl dX3_ifMerged_10 (fun H locs hw => ?_)
  have hw : Wd D A [(cI, .int), (cR, .object RX1), (cC, .char)] ([(x9, .inr (3, [.ref (q 0), .ref (h9 0), .ref (t9 0)]))] ++ wS cI q st ++ wR cR h9 (fr7 ad n8) ol n7 ++ wT cC t9 tx ln po ki rp tg nu ++ wP cI ad sv n8) s s.heap H locs := hw
  refine lv_iload_n hx hb dX3_ifMerged_13 rfl (lv_at hl 3 rfl) ?_
  refine lv_iconst (v := nI 2) hx hb dX3_ifMerged_14 kc_iconst_2 ?_
  refine r_icmp_eqN (tgt := 33) hx hb (by omega) (by omega) dX3_ifMerged_15 (by decide) (fun c_15 => ?_) (fun c_15 => ?_)
  ·
    refine lv_iload_n hx hb dX3_ifMerged_33 rfl (lv_at hl 3 rfl) ?_
    refine lv_iconst (v := nI 2) hx hb dX3_ifMerged_34 kc_iconst_2 ?_
    refine r_icmp_neN (tgt := 50) hx hb (by omega) (by omega) dX3_ifMerged_35 (by decide) (fun c_35 => ?_) (fun c_35 => ?_)
    ·
      refine lv_aload_n hx hb dX3_ifMerged_50 rfl (lv_at hl 0 rfl) ?_
      refine r_get hx hb hts hown hw.q 0 0 hin3 rfl rfl (by decide) k10 rfl dX3_ifMerged_51 ?_
      refine lv_iload_n hx hb dX3_ifMerged_54 rfl (lv_at hl 1 rfl) ?_
      refine lv_iload_n hx hb dX3_ifMerged_55 rfl (lv_at hl 2 rfl) ?_
      refine cq_V (As := [.int (nI f), .int (nI t)]) (rest := []) S (c_X1_countRemoved l D (cI := cI) (q := q) (st := st) (f := f) (t := t) (hf4 := by omega) (ht4 := by omega)) (cwV 2 hts gX3_ifMerged_X1_countRemoved rfl rfl rfl (by decide +kernel) ⟨Nat.le_of_ble_eq_true rfl, Nat.le_of_ble_eq_true rfl⟩) (hw.q.sub [1, 2, 3, 4, 5, 6, 7] [0] rfl rfl) 0 rfl rfl rfl hl.1 (Nat.le_of_ble_eq_true rfl) ⟨Nat.le_of_ble_eq_true rfl, Nat.le_of_ble_eq_true rfl⟩ rfl dX3_ifMerged_56 (fun r_56 e_56 => ?_)
      have e_56 : r_56 = nI (cntP (fun o => remP st f t o) 480) := e_56
      subst e_56
      exact hE () dX3_ifMerged_59 (rfl) (Nat.le_of_ble_eq_true rfl) (Nat.le_of_ble_eq_true rfl) ⟨⟨hw.1.1, fun k q hk => by cases hk⟩, hw.2.1, hw.2.2.1, hw.2.2.2⟩ (show (nI (cntP (fun o => remP st f t o) 480) : Int32) = (nI (if g = 2 then cntP (fun o => addP st f t o) 480 else cntP (fun o => remP st f t o) 480) : Int32) from by first | rw [if_pos c_35] | rw [if_neg c_35])
    ·
      refine lv_aload_n hx hb dX3_ifMerged_38 rfl (lv_at hl 0 rfl) ?_
      refine r_get hx hb hts hown hw.q 0 0 hin3 rfl rfl (by decide) k10 rfl dX3_ifMerged_39 ?_
      refine lv_iload_n hx hb dX3_ifMerged_42 rfl (lv_at hl 1 rfl) ?_
      refine lv_iload_n hx hb dX3_ifMerged_43 rfl (lv_at hl 2 rfl) ?_
      refine cq_V (As := [.int (nI f), .int (nI t)]) (rest := []) S (c_X1_countAdded l D (cI := cI) (q := q) (st := st) (f := f) (t := t) (hf4 := by omega) (ht4 := by omega)) (cwV 2 hts gX3_ifMerged_X1_countAdded rfl rfl rfl (by decide +kernel) ⟨Nat.le_of_ble_eq_true rfl, Nat.le_of_ble_eq_true rfl⟩) (hw.q.sub [1, 2, 3, 4, 5, 6, 7] [0] rfl rfl) 0 rfl rfl rfl hl.1 (Nat.le_of_ble_eq_true rfl) ⟨Nat.le_of_ble_eq_true rfl, Nat.le_of_ble_eq_true rfl⟩ rfl dX3_ifMerged_44 (fun r_44 e_44 => ?_)
      have e_44 : r_44 = nI (cntP (fun o => addP st f t o) 480) := e_44
      subst e_44
      refine lv_goto (tgt := 59) hx hb dX3_ifMerged_47 (by decide) ?_
      exact hE () dX3_ifMerged_59 (rfl) (Nat.le_of_ble_eq_true rfl) (Nat.le_of_ble_eq_true rfl) ⟨⟨hw.1.1, fun k q hk => by cases hk⟩, hw.2.1, hw.2.2.1, hw.2.2.2⟩ (show (nI (cntP (fun o => addP st f t o) 480) : Int32) = (nI (if g = 2 then cntP (fun o => addP st f t o) 480 else cntP (fun o => remP st f t o) 480) : Int32) from by first | rw [if_pos c_35] | rw [if_neg c_35])
  ·
    refine lv_iload_n hx hb dX3_ifMerged_18 rfl (lv_at hl 3 rfl) ?_
    refine lv_iconst (v := nI 3) hx hb dX3_ifMerged_19 kc_iconst_3 ?_
    refine r_icmp_eqN (tgt := 33) hx hb (by omega) (by omega) dX3_ifMerged_20 (by decide) (fun c_20 => ?_) (fun c_20 => ?_)
    ·
      refine lv_iload_n hx hb dX3_ifMerged_33 rfl (lv_at hl 3 rfl) ?_
      refine lv_iconst (v := nI 2) hx hb dX3_ifMerged_34 kc_iconst_2 ?_
      refine r_icmp_neN (tgt := 50) hx hb (by omega) (by omega) dX3_ifMerged_35 (by decide) (fun c_35 => ?_) (fun c_35 => ?_)
      ·
        refine lv_aload_n hx hb dX3_ifMerged_50 rfl (lv_at hl 0 rfl) ?_
        refine r_get hx hb hts hown hw.q 0 0 hin3 rfl rfl (by decide) k10 rfl dX3_ifMerged_51 ?_
        refine lv_iload_n hx hb dX3_ifMerged_54 rfl (lv_at hl 1 rfl) ?_
        refine lv_iload_n hx hb dX3_ifMerged_55 rfl (lv_at hl 2 rfl) ?_
        refine cq_V (As := [.int (nI f), .int (nI t)]) (rest := []) S (c_X1_countRemoved l D (cI := cI) (q := q) (st := st) (f := f) (t := t) (hf4 := by omega) (ht4 := by omega)) (cwV 2 hts gX3_ifMerged_X1_countRemoved rfl rfl rfl (by decide +kernel) ⟨Nat.le_of_ble_eq_true rfl, Nat.le_of_ble_eq_true rfl⟩) (hw.q.sub [1, 2, 3, 4, 5, 6, 7] [0] rfl rfl) 0 rfl rfl rfl hl.1 (Nat.le_of_ble_eq_true rfl) ⟨Nat.le_of_ble_eq_true rfl, Nat.le_of_ble_eq_true rfl⟩ rfl dX3_ifMerged_56 (fun r_56 e_56 => ?_)
        have e_56 : r_56 = nI (cntP (fun o => remP st f t o) 480) := e_56
        subst e_56
        exact hE () dX3_ifMerged_59 (rfl) (Nat.le_of_ble_eq_true rfl) (Nat.le_of_ble_eq_true rfl) ⟨⟨hw.1.1, fun k q hk => by cases hk⟩, hw.2.1, hw.2.2.1, hw.2.2.2⟩ (show (nI (cntP (fun o => remP st f t o) 480) : Int32) = (nI (if g = 2 then cntP (fun o => addP st f t o) 480 else cntP (fun o => remP st f t o) 480) : Int32) from by first | rw [if_pos c_35] | rw [if_neg c_35])
      ·
        refine lv_aload_n hx hb dX3_ifMerged_38 rfl (lv_at hl 0 rfl) ?_
        refine r_get hx hb hts hown hw.q 0 0 hin3 rfl rfl (by decide) k10 rfl dX3_ifMerged_39 ?_
        refine lv_iload_n hx hb dX3_ifMerged_42 rfl (lv_at hl 1 rfl) ?_
        refine lv_iload_n hx hb dX3_ifMerged_43 rfl (lv_at hl 2 rfl) ?_
        refine cq_V (As := [.int (nI f), .int (nI t)]) (rest := []) S (c_X1_countAdded l D (cI := cI) (q := q) (st := st) (f := f) (t := t) (hf4 := by omega) (ht4 := by omega)) (cwV 2 hts gX3_ifMerged_X1_countAdded rfl rfl rfl (by decide +kernel) ⟨Nat.le_of_ble_eq_true rfl, Nat.le_of_ble_eq_true rfl⟩) (hw.q.sub [1, 2, 3, 4, 5, 6, 7] [0] rfl rfl) 0 rfl rfl rfl hl.1 (Nat.le_of_ble_eq_true rfl) ⟨Nat.le_of_ble_eq_true rfl, Nat.le_of_ble_eq_true rfl⟩ rfl dX3_ifMerged_44 (fun r_44 e_44 => ?_)
        have e_44 : r_44 = nI (cntP (fun o => addP st f t o) 480) := e_44
        subst e_44
        refine lv_goto (tgt := 59) hx hb dX3_ifMerged_47 (by decide) ?_
        exact hE () dX3_ifMerged_59 (rfl) (Nat.le_of_ble_eq_true rfl) (Nat.le_of_ble_eq_true rfl) ⟨⟨hw.1.1, fun k q hk => by cases hk⟩, hw.2.1, hw.2.2.1, hw.2.2.2⟩ (show (nI (cntP (fun o => addP st f t o) 480) : Int32) = (nI (if g = 2 then cntP (fun o => addP st f t o) 480 else cntP (fun o => remP st f t o) 480) : Int32) from by first | rw [if_pos c_35] | rw [if_neg c_35])
    ·
      exact absurd c_20 (by omega)
abbrev rmX3_undo : Room := { frames := 3, cells := 0, slots := 0, locals := 121 }
set_option maxHeartbeats 4000000 in
set_option maxRecDepth 100000 in
theorem c_X3_undo (l : Launch) (D : va_G) (sz : Nat) (cI cR cC : ClassId) (x9 : Nat) (q : Nat → Nat) (st : St) (h9 : Nat → Nat) (ad : Nat → Nat → Nat) (sv : Nat → St) (ol n7 n8 : Nat) (t9 : Nat → Nat) (tx : Nat → Nat) (ln po : Nat) (ki rp tg nu : Int32)  (hh : hI ol n7 n8) (h0n : 0 < n7) : MXi l yX3_undo wsX3_undo rmX3_undo [.ref x9] D [(cI, .int), (cR, .object RX1), (cC, .char)] ([(x9, .inr (3, [.ref (q 0), .ref (h9 0), .ref (t9 0)]))] ++ wS cI q st ++ wR cR h9 (fr7 ad n8) ol n7 ++ wT cC t9 tx ln po ki rp tg nu ++ wP cI ad sv n8) sz (fun rz (u9 : Unit) => rz = nI (n7 - 1)) (fun u9 => []) (fun u9 => [(x9, .inr (3, [.ref (q 0), .ref (h9 0), .ref (t9 0)]))] ++ wS cI q (if n7 = 0 then st else sv ((ol + (n7 - 1)) % 6)) ++ wR cR h9 (fr7 ad n8) ol (n7 - 1) ++ wT cC t9 tx ln po ki rp tg nu ++ wP cI ad sv n8) 0 0 := by
  refine met_xu (own := RX3) (cc := cX3_undo) (maxL := 1) (ty := .int) (by decide) rfl rfl (Nat.le_of_ble_eq_true rfl) ?_
  intro p e s m args below meth c Q A hsz S hz hw hA hE ls hl
  obtain ⟨hx, hb, hml, hown, hts⟩ := id S
  have k19 := hts (.fieldLink RX3 19 "CausalTable" "history" "LCausalTable$History;") (by decide +kernel)
  have hin3 := (show ∀ w ∈ wsX30, w ∈ wsX3_undo by decide +kernel)
  have hin0 := (show ∀ w ∈ wsX00, w ∈ wsX3_undo by decide +kernel)
  have k10 := hts (.fieldLink RX3 10 "CausalTable" "state" "LCausalTable$State;") (by decide +kernel)
  have hl : lv_has ls 1 [(0, .ref x9)] := hl
  refine lv_aload_n hx hb dX3_undo_0 rfl (lv_at hl 0 rfl) ?_
  refine r_get hx hb hts hown hw.q 0 1 hin3 rfl rfl (by decide) k19 rfl dX3_undo_1 ?_
  refine r_getN hx hb hts hown hw.q 8 2 hin0 rfl rfl (by decide) (hz.at 2 rfl) rfl dX3_undo_4 ?_
  refine r_if_neN (tgt := 20) hx hb (by omega) dX3_undo_7 (by decide) (fun c_7 => ?_) (fun c_7 => ?_)
  ·
    refine lv_aload_n hx hb dX3_undo_20 rfl (lv_at hl 0 rfl) ?_
    refine r_get hx hb hts hown hw.q 0 1 hin3 rfl rfl (by decide) k19 rfl dX3_undo_21 ?_
    refine lv_aload_n hx hb dX3_undo_24 rfl (lv_at hl 0 rfl) ?_
    refine r_get hx hb hts hown hw.q 0 0 hin3 rfl rfl (by decide) k10 rfl dX3_undo_25 ?_
    refine cp_Vx (w1 := fun (u9 : Unit) => wR cR h9 (fr7 ad n8) ol (n7 - 1) ++ wS cI q (if n7 = 0 then st else sv ((ol + (n7 - 1)) % 6))) (pl := fun (u9 : Unit) => wP cI ad sv n8) (As := [.ref (q 0)]) (rest := []) (wc := wR cR h9 (fr7 ad n8) ol n7 ++ wS cI q st) (wr := [(x9, .inr (3, [.ref (q 0), .ref (h9 0), .ref (t9 0)]))] ++ wT cC t9 tx ln po ki rp tg nu) S hz (c_X0_restore l D (sz := s.heap.size) (cI := cI) (cR := cR) (h9 := h9) (ad := ad) (sv := sv) (ol := ol) (n7 := n7) (m := n8) (q := q) (st := st) (hh := hh)) (cwV 1 hts gX3_undo_X0_restore rfl rfl rfl (by decide +kernel) ⟨Nat.le_of_ble_eq_true rfl, Nat.le_of_ble_eq_true rfl⟩) hw hA [8, 9, 1, 2, 3, 4, 5, 6, 7] [0, 10, 11] [0, 1] rfl rfl (k0 := 12) rfl (by decide) rfl 0 rfl rfl rfl hl.1 (Nat.le_of_ble_eq_true rfl) ⟨Nat.le_of_ble_eq_true rfl, Nat.le_of_ble_eq_true rfl⟩ rfl dX3_undo_28 (fun u_28 H locs e_28 hw => ?_)
    have hw : Wd D A [(cI, .int), (cR, .object RX1), (cC, .char)] (wR cR h9 (fr7 ad n8) ol (n7 - 1) ++ wS cI q (if n7 = 0 then st else sv ((ol + (n7 - 1)) % 6)) ++ [(x9, .inr (3, [.ref (q 0), .ref (h9 0), .ref (t9 0)]))] ++ wT cC t9 tx ln po ki rp tg nu ++ wP cI ad sv n8) s s.heap H locs := hw
    refine lv_aload_n hx hb dX3_undo_31 rfl (lv_at hl 0 rfl) ?_
    refine r_get hx hb hts hown hw.q 9 1 hin3 rfl rfl (by decide) k19 rfl dX3_undo_32 ?_
    refine r_getN hx hb hts hown hw.q 0 2 hin0 rfl rfl (by decide) (hz.at 2 rfl) rfl dX3_undo_35 ?_
    have hw : Wd D A [(cI, .int), (cR, .object RX1), (cC, .char)] ([(x9, .inr (3, [.ref (q 0), .ref (h9 0), .ref (t9 0)]))] ++ wS cI q (if n7 = 0 then st else sv ((ol + (n7 - 1)) % 6)) ++ wR cR h9 (fr7 ad n8) ol (n7 - 1) ++ wT cC t9 tx ln po ki rp tg nu ++ wP cI ad sv n8) s s.heap H locs := hw.ord [9, 2, 3, 4, 5, 6, 7, 8, 0, 1, 10, 11] (k0 := 12) rfl rfl (by decide)
    exact hE () dX3_undo_38 (rfl) (Nat.le_of_ble_eq_true rfl) (Nat.le_of_ble_eq_true rfl) ⟨⟨hw.1.1, fun k q hk => by cases hk⟩, hw.2.1, hw.2.2.1, hw.2.2.2⟩ (show (nI (n7 - 1) : Int32) = (nI (n7 - 1) : Int32) from by first | rfl | (congr <;> omega) | simp_all)
  ·
    exact absurd c_7 (by omega)
