abbrev rmX1_slotOf : Room := { frames := 0, cells := 0, slots := 0, locals := 0 }
set_option maxHeartbeats 4000000 in
set_option maxRecDepth 100000 in
theorem c_X1_slotOf (l : Launch) (D : va_G) (r w g : Nat) : MQi l yX1_slotOf wsX1_slotOf rmX1_slotOf [.int (nI r), .int (nI w), .int (nI g)] D [] ([]) (fun rz => rz = nI (r * 480 + w * 80 + g * 4)) := by
  refine met_q (own := RX1) (cc := cX1_slotOf) (maxL := 3) (ty := .int) (by decide) rfl rfl (Nat.le_of_ble_eq_true rfl) ?_
  intro p e s m args below meth c Q S hq hE ls hl
  obtain ⟨hx, hb, hml, hown, hts⟩ := id S
  have hl : lv_has ls 3 [(0, .int (nI r)), (1, .int (nI w)), (2, .int (nI g))] := hl
  refine lv_iload_n hx hb dX1_slotOf_0 rfl (lv_at hl 0 rfl) ?_
  refine lv_sipush (v := nI 480) hx hb dX1_slotOf_1 kc_sipush_480 ?_
  refine r_mulN hx hb dX1_slotOf_4 ?_
  refine lv_iload_n hx hb dX1_slotOf_5 rfl (lv_at hl 1 rfl) ?_
  refine lv_bipush (v := nI 80) hx hb dX1_slotOf_6 kc_bipush_80 ?_
  refine r_mulN hx hb dX1_slotOf_8 ?_
  refine r_addN hx hb dX1_slotOf_9 ?_
  refine lv_iload_n hx hb dX1_slotOf_10 rfl (lv_at hl 2 rfl) ?_
  refine lv_iconst (v := nI 4) hx hb dX1_slotOf_11 kc_iconst_4 ?_
  refine r_mulN hx hb dX1_slotOf_12 ?_
  refine r_addN hx hb dX1_slotOf_13 ?_
  exact hE dX1_slotOf_14 (rfl) (show nI (((r * 480) + (w * 80)) + (g * 4)) = nI (r * 480 + w * 80 + g * 4) from by first | rfl | (congr <;> omega) | simp_all)
abbrev rmX1_cellStart : Room := { frames := 1, cells := 0, slots := 0, locals := 22 }
set_option maxHeartbeats 4000000 in
set_option maxRecDepth 100000 in
theorem c_X1_cellStart (l : Launch) (D : va_G) (r w g : Nat) : MQi l yX1_cellStart wsX1_cellStart rmX1_cellStart [.int (nI r), .int (nI w), .int (nI g)] D [] ([]) (fun rz => rz = nI (r * 480 + w * 80 + g * 4)) := by
  refine met_q (own := RX1) (cc := cX1_cellStart) (maxL := 3) (ty := .int) (by decide) rfl rfl (Nat.le_of_ble_eq_true rfl) ?_
  intro p e s m args below meth c Q S hq hE ls hl
  obtain ⟨hx, hb, hml, hown, hts⟩ := id S
  have hl : lv_has ls 3 [(0, .int (nI r)), (1, .int (nI w)), (2, .int (nI g))] := hl
  refine lv_iload_n hx hb dX1_cellStart_0 rfl (lv_at hl 0 rfl) ?_
  refine lv_iload_n hx hb dX1_cellStart_1 rfl (lv_at hl 1 rfl) ?_
  refine lv_iload_n hx hb dX1_cellStart_2 rfl (lv_at hl 2 rfl) ?_
  refine cq_S (As := [.int (nI r), .int (nI w), .int (nI g)]) (rest := []) S (c_X1_slotOf l D (r := r) (w := w) (g := g)) (va_cwS 3 hts gX1_cellStart_X1_slotOf rfl rfl rfl (by decide +kernel) ⟨Nat.le_of_ble_eq_true rfl, Nat.le_of_ble_eq_true rfl⟩) (hq.sub [] [] rfl rfl) rfl hl.1 (Nat.le_of_ble_eq_true rfl) ⟨Nat.le_of_ble_eq_true rfl, Nat.le_of_ble_eq_true rfl⟩ rfl dX1_cellStart_3 (fun r_3 e_3 => ?_)
  have e_3 : r_3 = nI (r * 480 + w * 80 + g * 4) := e_3
  subst e_3
  exact hE dX1_cellStart_6 (rfl) (show nI (r * 480 + w * 80 + g * 4) = nI (r * 480 + w * 80 + g * 4) from by first | rfl | (congr <;> omega) | simp_all)
abbrev rmX1_cellEnd : Room := { frames := 1, cells := 0, slots := 0, locals := 22 }
set_option maxHeartbeats 4000000 in
set_option maxRecDepth 100000 in
theorem c_X1_cellEnd (l : Launch) (D : va_G) (r w g : Nat) (hg : g < 5) : MQi l yX1_cellEnd wsX1_cellEnd rmX1_cellEnd [.int (nI r), .int (nI w), .int (nI g)] D [] ([]) (fun rz => rz = nI (r * 480 + w * 80 + cE g * 4)) := by
  refine met_q (own := RX1) (cc := cX1_cellEnd) (maxL := 3) (ty := .int) (by decide) rfl rfl (Nat.le_of_ble_eq_true rfl) ?_
  intro p e s m args below meth c Q S hq hE ls hl
  obtain ⟨hx, hb, hml, hown, hts⟩ := id S
  have hl : lv_has ls 3 [(0, .int (nI r)), (1, .int (nI w)), (2, .int (nI g))] := hl
  refine lv_iload_n hx hb dX1_cellEnd_0 rfl (lv_at hl 0 rfl) ?_
  refine lv_iload_n hx hb dX1_cellEnd_1 rfl (lv_at hl 1 rfl) ?_
  have J15_1 : ∀ ls : Array Slot, lv_has ls 3 [(0, .int (nI r)), (1, .int (nI w)), (2, .int (nI g))] → W p l e rmX1_cellEnd s m args below meth c s.heap [] 0 0 Q (F0 m 15 ls [.int (nI (cE g)), .int (nI w), .int (nI r)]) := by
    intro ls hl
    refine cq_S (As := [.int (nI r), .int (nI w), .int (nI (cE g))]) (rest := []) S (c_X1_slotOf l D (r := r) (w := w) (g := cE g)) (va_cwS 3 hts gX1_cellEnd_X1_slotOf rfl rfl rfl (by decide +kernel) ⟨Nat.le_of_ble_eq_true rfl, Nat.le_of_ble_eq_true rfl⟩) (hq.sub [] [] rfl rfl) rfl hl.1 (Nat.le_of_ble_eq_true rfl) ⟨Nat.le_of_ble_eq_true rfl, Nat.le_of_ble_eq_true rfl⟩ rfl dX1_cellEnd_15 (fun r_15 e_15 => ?_)
    have e_15 : r_15 = nI (r * 480 + w * 80 + (cE g) * 4) := e_15
    subst e_15
    exact hE dX1_cellEnd_18 (rfl) (show nI (r * 480 + w * 80 + (cE g) * 4) = nI (r * 480 + w * 80 + cE g * 4) from by first | rfl | (congr <;> omega) | simp_all)
  refine lv_iload_n hx hb dX1_cellEnd_2 rfl (lv_at hl 2 rfl) ?_
  refine lv_iconst (v := nI 4) hx hb dX1_cellEnd_3 kc_iconst_4 ?_
  refine r_icmp_neN (tgt := 12) hx hb (by omega) (by omega) dX1_cellEnd_4 (by decide) (fun c_4 => ?_) (fun c_4 => ?_)
  ·
    refine lv_iload_n hx hb dX1_cellEnd_12 rfl (lv_at hl 2 rfl) ?_
    refine lv_iconst (v := nI 1) hx hb dX1_cellEnd_13 kc_iconst_1 ?_
    refine r_addN hx hb dX1_cellEnd_14 ?_
    have hl : lv_has ls 3 [(0, .int (nI r)), (1, .int (nI w)), (2, .int (nI g))] := lv_sub hl [0, 1, 2] rfl
    refine r_top hx (show nI (g + 1) = nI (cE g) from by simp [cE, c_4]) ?_
    exact J15_1 ls hl
  ·
    refine lv_bipush (v := nI 20) hx hb dX1_cellEnd_7 kc_bipush_20 ?_
    refine lv_goto (tgt := 15) hx hb dX1_cellEnd_9 (by decide) ?_
    have hl : lv_has ls 3 [(0, .int (nI r)), (1, .int (nI w)), (2, .int (nI g))] := lv_sub hl [0, 1, 2] rfl
    refine r_top hx (show nI 20 = nI (cE g) from by simp [cE, c_4]) ?_
    exact J15_1 ls hl
abbrev rmX1_groupOfElement : Room := { frames := 0, cells := 0, slots := 0, locals := 0 }
set_option maxHeartbeats 4000000 in
set_option maxRecDepth 100000 in
theorem c_X1_groupOfElement (l : Launch) (D : va_G) (e9 : Nat) : MQi l yX1_groupOfElement wsX1_groupOfElement rmX1_groupOfElement [.int (nI e9)] D [] ([]) (fun rz => rz = nI (4 + e9)) := by
  refine met_q (own := RX1) (cc := cX1_groupOfElement) (maxL := 1) (ty := .int) (by decide) rfl rfl (Nat.le_of_ble_eq_true rfl) ?_
  intro p e s m args below meth c Q S hq hE ls hl
  obtain ⟨hx, hb, hml, hown, hts⟩ := id S
  have hl : lv_has ls 1 [(0, .int (nI e9))] := hl
  refine lv_iconst (v := nI 4) hx hb dX1_groupOfElement_0 kc_iconst_4 ?_
  refine lv_iload_n hx hb dX1_groupOfElement_1 rfl (lv_at hl 0 rfl) ?_
  refine r_addN hx hb dX1_groupOfElement_2 ?_
  exact hE dX1_groupOfElement_3 (rfl) (show nI (4 + e9) = nI (4 + e9) from by first | rfl | (congr <;> omega) | simp_all)
abbrev rmX1_countEntries : Room := { frames := 0, cells := 0, slots := 0, locals := 0 }
set_option maxHeartbeats 4000000 in
set_option maxRecDepth 100000 in
theorem c_X1_countEntries (l : Launch) (D : va_G) (cI : ClassId) (q : Nat → Nat) (st : St) (a b : Nat) (hab : a ≤ b) (hb9 : b ≤ 1920) : MQi l yX1_countEntries wsX1_countEntries rmX1_countEntries [.ref (q 0), .int (nI a), .int (nI b)] D [(cI, .int)] (wS cI q st) (fun rz => rz = nI (cntE st.1 a (b - a))) := by
  refine met_q (own := RX1) (cc := cX1_countEntries) (maxL := 5) (ty := .int) (by decide) rfl rfl (Nat.le_of_ble_eq_true rfl) ?_
  intro p e s m args below meth c Q S hq hE ls hl
  obtain ⟨hx, hb, hml, hown, hts⟩ := id S
  have k11 := hts (.fieldLink RX1 11 "CausalTable$State" "numbers" "[I") (by decide +kernel)
  have hin1 := (show ∀ w ∈ wsX10, w ∈ wsX1_countEntries by decide +kernel)
  have hl : lv_has ls 5 [(0, .ref (q 0)), (1, .int (nI a)), (2, .int (nI b))] := hl
  refine lv_iconst (v := nI 0) hx hb dX1_countEntries_0 kc_iconst_0 ?_
  refine lv_istore_n (lv' := [(3, .int (nI 0)), (0, .ref (q 0)), (1, .int (nI a)), (2, .int (nI b))]) hx hb dX1_countEntries_1 rfl hl (by decide) rfl (fun ls hl => ?_)
  refine lv_iload_n hx hb dX1_countEntries_2 rfl (lv_at hl 2 rfl) ?_
  refine lv_istore (lv' := [(4, .int (nI a)), (3, .int (nI 0)), (0, .ref (q 0)), (1, .int (nI a)), (2, .int (nI b))]) hx hb dX1_countEntries_3 hl (by decide) rfl (fun ls hl => ?_)
  have L5_1 : ∀ (fu_2 k : Nat), k ≤ b - a → b - a - k < fu_2 → ∀ ls : Array Slot, lv_has ls 5 [(4, .int (nI (a + k))), (3, .int (nI (cntE st.1 a k))), (0, .ref (q 0)), (1, .int (nI a)), (2, .int (nI b))] → W p l e rmX1_countEntries s m args below meth c s.heap [] 0 0 Q (F0 m 5 ls []) := by
    intro fu_2
    induction fu_2 with
    | zero => intro k _ h9; exact absurd h9 (Nat.not_lt_zero _)
    | succ fu_2 ih_5 =>
      intro k hk_5 hf_5 ls hl
      refine lv_iload hx hb dX1_countEntries_5 (lv_at hl 0 rfl) ?_
      refine lv_iload_n hx hb dX1_countEntries_7 rfl (lv_at hl 4 rfl) ?_
      refine r_icmp_geN (tgt := 30) hx hb (by omega) (by omega) dX1_countEntries_8 (by decide) (fun c_8 => ?_) (fun c_8 => ?_)
      ·
        refine lv_iload_n hx hb dX1_countEntries_30 rfl (lv_at hl 1 rfl) ?_
        exact hE dX1_countEntries_31 (rfl) (show nI (cntE st.1 a k) = nI (cntE st.1 a (b - a)) from by rw [show k = b - a by omega])
      ·
        refine lv_aload_n hx hb dX1_countEntries_11 rfl (lv_at hl 2 rfl) ?_
        refine r_get hx hb hts hown hq 0 0 hin1 rfl rfl (by decide) k11 rfl dX1_countEntries_12 ?_
        refine lv_iload hx hb dX1_countEntries_15 (lv_at hl 0 rfl) ?_
        refine r_ald hx hb hq 1 0 rfl rfl (i := a + k) (by omega) (by decide) dX1_countEntries_17 ?_
        refine lv_if_eq (tgt := 24) hx hb dX1_countEntries_18 (by decide) (fun c_18 => ?_) (fun c_18 => ?_)
        ·
          refine lv_iinc (v := nI ((a + k) + 1)) (lv' := [(4, .int (nI ((a + k) + 1))), (3, .int (nI (cntE st.1 a k))), (0, .ref (q 0)), (1, .int (nI a)), (2, .int (nI b))]) hx hb dX1_countEntries_24 hl (k := 0) rfl (nI_add (a + k) 1) (by decide) rfl (fun ls hl => ?_)
          refine lv_goto (tgt := 5) hx hb dX1_countEntries_27 (by decide) ?_
          have hl : lv_has ls 5 [(4, .int (nI ((a + k) + 1))), (3, .int (nI (cntE st.1 a k))), (0, .ref (q 0)), (1, .int (nI a)), (2, .int (nI b))] := lv_sub hl [0, 1, 2, 3, 4] rfl
          have hl : lv_has ls 5 [(4, .int (nI (a + (k + 1)))), (3, .int (nI (cntE st.1 a k))), (0, .ref (q 0)), (1, .int (nI a)), (2, .int (nI b))] := lv_rep hl 0 rfl (congrArg (fun z => Value.int (nI z)) (show (a + k) + 1 = a + (k + 1) from by first | rfl | omega | simp_all))
          have hl : lv_has ls 5 [(4, .int (nI (a + (k + 1)))), (3, .int (nI (cntE st.1 a (k + 1)))), (0, .ref (q 0)), (1, .int (nI a)), (2, .int (nI b))] := lv_rep hl 1 rfl (congrArg (fun z => Value.int (nI z)) (show cntE st.1 a k = cntE st.1 a (k + 1) from by simp [cntE, c_18]))
          exact ih_5 (k + 1) (by omega) (by omega) ls hl
        ·
          refine lv_iinc (v := nI ((cntE st.1 a k) + 1)) (lv' := [(3, .int (nI ((cntE st.1 a k) + 1))), (4, .int (nI (a + k))), (0, .ref (q 0)), (1, .int (nI a)), (2, .int (nI b))]) hx hb dX1_countEntries_21 hl (k := 1) rfl (nI_add (cntE st.1 a k) 1) (by decide) rfl (fun ls hl => ?_)
          refine lv_iinc (v := nI ((a + k) + 1)) (lv' := [(4, .int (nI ((a + k) + 1))), (3, .int (nI ((cntE st.1 a k) + 1))), (0, .ref (q 0)), (1, .int (nI a)), (2, .int (nI b))]) hx hb dX1_countEntries_24 hl (k := 1) rfl (nI_add (a + k) 1) (by decide) rfl (fun ls hl => ?_)
          refine lv_goto (tgt := 5) hx hb dX1_countEntries_27 (by decide) ?_
          have hl : lv_has ls 5 [(4, .int (nI ((a + k) + 1))), (3, .int (nI ((cntE st.1 a k) + 1))), (0, .ref (q 0)), (1, .int (nI a)), (2, .int (nI b))] := lv_sub hl [0, 1, 2, 3, 4] rfl
          have hl : lv_has ls 5 [(4, .int (nI (a + (k + 1)))), (3, .int (nI ((cntE st.1 a k) + 1))), (0, .ref (q 0)), (1, .int (nI a)), (2, .int (nI b))] := lv_rep hl 0 rfl (congrArg (fun z => Value.int (nI z)) (show (a + k) + 1 = a + (k + 1) from by first | rfl | omega | simp_all))
          have hl : lv_has ls 5 [(4, .int (nI (a + (k + 1)))), (3, .int (nI (cntE st.1 a (k + 1)))), (0, .ref (q 0)), (1, .int (nI a)), (2, .int (nI b))] := lv_rep hl 1 rfl (congrArg (fun z => Value.int (nI z)) (show (cntE st.1 a k) + 1 = cntE st.1 a (k + 1) from by simp [cntE, c_18]))
          exact ih_5 (k + 1) (by omega) (by omega) ls hl
  have hl : lv_has ls 5 [(4, .int (nI a)), (3, .int (nI 0)), (0, .ref (q 0)), (1, .int (nI a)), (2, .int (nI b))] := lv_sub hl [0, 1, 2, 3, 4] rfl
  have hl : lv_has ls 5 [(4, .int (nI (a + 0))), (3, .int (nI 0)), (0, .ref (q 0)), (1, .int (nI a)), (2, .int (nI b))] := lv_rep hl 0 rfl (congrArg (fun z => Value.int (nI z)) (show a = a + 0 from by first | rfl | omega | simp_all))
  have hl : lv_has ls 5 [(4, .int (nI (a + 0))), (3, .int (nI (cntE st.1 a 0))), (0, .ref (q 0)), (1, .int (nI a)), (2, .int (nI b))] := lv_rep hl 1 rfl (congrArg (fun z => Value.int (nI z)) (show 0 = cntE st.1 a 0 from rfl))
  exact L5_1 (b - a + 1) (0) (by omega) (by omega) ls hl
abbrev rmX1_removeEntries : Room := { frames := 1, cells := 0, slots := 0, locals := 24 }
set_option maxHeartbeats 4000000 in
set_option maxRecDepth 100000 in
theorem c_X1_removeEntries (l : Launch) (D : va_G) (sz : Nat) (cI : ClassId) (q : Nat → Nat) (st : St) (a b : Nat) (hab : a ≤ b) (hb9 : b ≤ 1920) : MUi l yX1_removeEntries wsX1_removeEntries rmX1_removeEntries [.ref (q 0), .int (nI a), .int (nI b)] D [(cI, .int)] (wS cI q st) sz (fun rz (_ : Unit) => rz = nI (cntE st.1 a (b - a))) (fun _ => []) (fun _ => wS cI q (clrS st a (b - a))) 0 0 := by
  refine met_u (own := RX1) (cc := cX1_removeEntries) (maxL := 5) (ty := .int) (by decide) rfl rfl (Nat.le_of_ble_eq_true rfl) ?_
  intro p e s m args below meth c Q A hsz S hw hA hE ls hl
  obtain ⟨hx, hb, hml, hown, hts⟩ := id S
  have k11 := hts (.fieldLink RX1 11 "CausalTable$State" "numbers" "[I") (by decide +kernel)
  have hin1 := (show ∀ w ∈ wsX10, w ∈ wsX1_removeEntries by decide +kernel)
  have hl : lv_has ls 5 [(0, .ref (q 0)), (1, .int (nI a)), (2, .int (nI b))] := hl
  refine lv_aload_n hx hb dX1_removeEntries_0 rfl (lv_at hl 0 rfl) ?_
  refine lv_iload_n hx hb dX1_removeEntries_1 rfl (lv_at hl 1 rfl) ?_
  refine lv_iload_n hx hb dX1_removeEntries_2 rfl (lv_at hl 2 rfl) ?_
  refine cq_V (As := [.int (nI a), .int (nI b)]) (rest := []) S (c_X1_countEntries l D (cI := cI) (q := q) (st := st) (a := a) (b := b) (hab := by omega) (hb9 := by omega)) (cwV 2 hts gX1_removeEntries_X1_countEntries rfl rfl rfl (by decide +kernel) ⟨Nat.le_of_ble_eq_true rfl, Nat.le_of_ble_eq_true rfl⟩) (hw.q.sub [0, 1, 2, 3, 4, 5, 6] [0] rfl rfl) 0 rfl rfl rfl hl.1 (Nat.le_of_ble_eq_true rfl) ⟨Nat.le_of_ble_eq_true rfl, Nat.le_of_ble_eq_true rfl⟩ rfl dX1_removeEntries_3 (fun r_3 e_3 => ?_)
  have e_3 : r_3 = nI (cntE st.1 a (b - a)) := e_3
  subst e_3
  refine lv_istore_n (lv' := [(3, .int (nI (cntE st.1 a (b - a)))), (0, .ref (q 0)), (1, .int (nI a)), (2, .int (nI b))]) hx hb dX1_removeEntries_6 rfl hl (by decide) rfl (fun ls hl => ?_)
  refine lv_iload_n hx hb dX1_removeEntries_7 rfl (lv_at hl 2 rfl) ?_
  refine lv_istore (lv' := [(4, .int (nI a)), (3, .int (nI (cntE st.1 a (b - a)))), (0, .ref (q 0)), (1, .int (nI a)), (2, .int (nI b))]) hx hb dX1_removeEntries_8 hl (by decide) rfl (fun ls hl => ?_)
  have L10_1 : ∀ (fu_2 k : Nat), k ≤ b - a → b - a - k < fu_2 → ∀ (H : Heap) (locs : List Loc), Wd D A [(cI, .int)] (wS cI q (clrE st.1 a k, st.2.1, st.2.2.1, st.2.2.2.1, st.2.2.2.2.1, st.2.2.2.2.2)) s s.heap H locs → ∀ ls : Array Slot, lv_has ls 5 [(4, .int (nI (a + k))), (3, .int (nI (cntE st.1 a (b - a)))), (0, .ref (q 0)), (1, .int (nI a)), (2, .int (nI b))] → W p l e rmX1_removeEntries s m args below meth c H locs 0 0 Q (F0 m 10 ls []) := by
    intro fu_2
    induction fu_2 with
    | zero => intro k _ h9; exact absurd h9 (Nat.not_lt_zero _)
    | succ fu_2 ih_10 =>
      intro k hk_10 hf_10 H locs hw ls hl
      refine lv_iload hx hb dX1_removeEntries_10 (lv_at hl 0 rfl) ?_
      refine lv_iload_n hx hb dX1_removeEntries_12 rfl (lv_at hl 4 rfl) ?_
      refine r_icmp_geN (tgt := 30) hx hb (by omega) (by omega) dX1_removeEntries_13 (by decide) (fun c_13 => ?_) (fun c_13 => ?_)
      ·
        refine lv_iload_n hx hb dX1_removeEntries_30 rfl (lv_at hl 1 rfl) ?_
        have ew : (wS cI q (clrE st.1 a k, st.2.1, st.2.2.1, st.2.2.2.1, st.2.2.2.2.1, st.2.2.2.2.2)) = (wS cI q (clrS st a (b - a))) := by rw [show k = b - a by omega]; rfl
        rw [ew] at hw
        exact hE () dX1_removeEntries_31 (rfl) (Nat.le_of_ble_eq_true rfl) (Nat.le_of_ble_eq_true rfl) (hw.sub [0, 1, 2, 3, 4, 5, 6] [] (by decide) rfl rfl) (show nI (cntE st.1 a (b - a)) = nI (cntE st.1 a (b - a)) from rfl)
      ·
        refine lv_aload_n hx hb dX1_removeEntries_16 rfl (lv_at hl 2 rfl) ?_
        refine r_get hx hb hts hown hw.q 0 0 hin1 rfl rfl (by decide) k11 rfl dX1_removeEntries_17 ?_
        refine lv_iload hx hb dX1_removeEntries_20 (lv_at hl 0 rfl) ?_
        refine lv_iconst (v := nI 0) hx hb dX1_removeEntries_22 kc_iconst_0 ?_
        refine r_ast hx hb hw 1 0 rfl rfl (i := a + k) (by omega) (by decide) dX1_removeEntries_23 (fun H locs hw => ?_)
        have hw : Wd D A [(cI, .int)] (wS cI q (upd (clrE st.1 a k) (a + k) (nI 0), st.2.1, st.2.2.1, st.2.2.2.1, st.2.2.2.2.1, st.2.2.2.2.2)) s s.heap H locs := hw
        refine lv_iinc (v := nI ((a + k) + 1)) (lv' := [(4, .int (nI ((a + k) + 1))), (3, .int (nI (cntE st.1 a (b - a)))), (0, .ref (q 0)), (1, .int (nI a)), (2, .int (nI b))]) hx hb dX1_removeEntries_24 hl (k := 0) rfl (nI_add (a + k) 1) (by decide) rfl (fun ls hl => ?_)
        refine lv_goto (tgt := 10) hx hb dX1_removeEntries_27 (by decide) ?_
        have hl : lv_has ls 5 [(4, .int (nI ((a + k) + 1))), (3, .int (nI (cntE st.1 a (b - a)))), (0, .ref (q 0)), (1, .int (nI a)), (2, .int (nI b))] := lv_sub hl [0, 1, 2, 3, 4] rfl
        have hl : lv_has ls 5 [(4, .int (nI (a + (k + 1)))), (3, .int (nI (cntE st.1 a (b - a)))), (0, .ref (q 0)), (1, .int (nI a)), (2, .int (nI b))] := lv_rep hl 0 rfl (congrArg (fun z => Value.int (nI z)) (show (a + k) + 1 = a + (k + 1) from by first | rfl | omega | simp_all))
        have hw : Wd D A [(cI, .int)] (wS cI q (clrE st.1 a (k + 1), st.2.1, st.2.2.1, st.2.2.2.1, st.2.2.2.2.1, st.2.2.2.2.2)) s s.heap H locs := Eq.mp (congrArg (fun z9 => Wd D A [(cI, .int)] (wS cI q (z9, st.2.1, st.2.2.1, st.2.2.2.1, st.2.2.2.2.1, st.2.2.2.2.2)) s s.heap H locs) (show upd (clrE st.1 a k) (a + k) (nI 0) = clrE st.1 a (k + 1) from clrE_s _ _ _)) hw
        exact ih_10 (k + 1) (by omega) (by omega) _ _ hw ls hl
  have hl : lv_has ls 5 [(4, .int (nI a)), (3, .int (nI (cntE st.1 a (b - a)))), (0, .ref (q 0)), (1, .int (nI a)), (2, .int (nI b))] := lv_sub hl [0, 1, 2, 3, 4] rfl
  have hl : lv_has ls 5 [(4, .int (nI (a + 0))), (3, .int (nI (cntE st.1 a (b - a)))), (0, .ref (q 0)), (1, .int (nI a)), (2, .int (nI b))] := lv_rep hl 0 rfl (congrArg (fun z => Value.int (nI z)) (show a = a + 0 from by first | rfl | omega | simp_all))
  have hw : Wd D A [(cI, .int)] (wS cI q (clrE st.1 a 0, st.2.1, st.2.2.1, st.2.2.2.1, st.2.2.2.2.1, st.2.2.2.2.2)) s s.heap s.heap [] := Eq.mp (congrArg (fun z9 => Wd D A [(cI, .int)] (wS cI q (z9, st.2.1, st.2.2.1, st.2.2.2.1, st.2.2.2.2.1, st.2.2.2.2.2)) s s.heap s.heap []) (show st.1 = clrE st.1 a 0 from (clrE_0 _ _).symm)) hw
  exact L10_1 (b - a + 1) (0) (by omega) (by omega) _ _ hw ls hl
abbrev rmX1_removeGroup : Room := { frames := 2, cells := 0, slots := 0, locals := 48 }
set_option maxHeartbeats 4000000 in
set_option maxRecDepth 100000 in
theorem c_X1_removeGroup (l : Launch) (D : va_G) (sz : Nat) (cI : ClassId) (q : Nat → Nat) (st : St) (r w g : Nat) (hr : r < 4) (hw5 : w < 6) (hg : g < 20) : MUi l yX1_removeGroup wsX1_removeGroup rmX1_removeGroup [.ref (q 0), .int (nI r), .int (nI w), .int (nI g)] D [(cI, .int)] (wS cI q st) sz (fun rz (_ : Unit) => rz = nI (cntE st.1 (r * 480 + w * 80 + g * 4) 4)) (fun _ => []) (fun _ => wS cI q (clrS st (r * 480 + w * 80 + g * 4) 4)) 0 0 := by
  refine met_u (own := RX1) (cc := cX1_removeGroup) (maxL := 4) (ty := .int) (by decide) rfl rfl (Nat.le_of_ble_eq_true rfl) ?_
  intro p e s m args below meth c Q A hsz S hw hA hE ls hl
  obtain ⟨hx, hb, hml, hown, hts⟩ := id S
  have hl : lv_has ls 4 [(0, .ref (q 0)), (1, .int (nI r)), (2, .int (nI w)), (3, .int (nI g))] := hl
  refine lv_aload_n hx hb dX1_removeGroup_0 rfl (lv_at hl 0 rfl) ?_
  refine lv_iload_n hx hb dX1_removeGroup_1 rfl (lv_at hl 1 rfl) ?_
  refine lv_iload_n hx hb dX1_removeGroup_2 rfl (lv_at hl 2 rfl) ?_
  refine lv_iload_n hx hb dX1_removeGroup_3 rfl (lv_at hl 3 rfl) ?_
  refine cq_S (As := [.int (nI r), .int (nI w), .int (nI g)]) (rest := [.ref (q 0)]) S (c_X1_slotOf l D (r := r) (w := w) (g := g)) (va_cwS 3 hts gX1_removeGroup_X1_slotOf rfl rfl rfl (by decide +kernel) ⟨Nat.le_of_ble_eq_true rfl, Nat.le_of_ble_eq_true rfl⟩) (hw.q.sub [] [] rfl rfl) rfl hl.1 (Nat.le_of_ble_eq_true rfl) ⟨Nat.le_of_ble_eq_true rfl, Nat.le_of_ble_eq_true rfl⟩ rfl dX1_removeGroup_4 (fun r_4 e_4 => ?_)
  have e_4 : r_4 = nI (r * 480 + w * 80 + g * 4) := e_4
  subst e_4
  refine lv_iload_n hx hb dX1_removeGroup_7 rfl (lv_at hl 1 rfl) ?_
  refine lv_iload_n hx hb dX1_removeGroup_8 rfl (lv_at hl 2 rfl) ?_
  refine lv_iload_n hx hb dX1_removeGroup_9 rfl (lv_at hl 3 rfl) ?_
  refine lv_iconst (v := nI 1) hx hb dX1_removeGroup_10 kc_iconst_1 ?_
  refine r_addN hx hb dX1_removeGroup_11 ?_
  refine cq_S (As := [.int (nI r), .int (nI w), .int (nI (g + 1))]) (rest := [.int (nI (r * 480 + w * 80 + g * 4)), .ref (q 0)]) S (c_X1_slotOf l D (r := r) (w := w) (g := g + 1)) (va_cwS 3 hts gX1_removeGroup_X1_slotOf rfl rfl rfl (by decide +kernel) ⟨Nat.le_of_ble_eq_true rfl, Nat.le_of_ble_eq_true rfl⟩) (hw.q.sub [] [] rfl rfl) rfl hl.1 (Nat.le_of_ble_eq_true rfl) ⟨Nat.le_of_ble_eq_true rfl, Nat.le_of_ble_eq_true rfl⟩ rfl dX1_removeGroup_12 (fun r_12 e_12 => ?_)
  have e_12 : r_12 = nI (r * 480 + w * 80 + (g + 1) * 4) := e_12
  subst e_12
  refine cu_Vi (As := [.int (nI (r * 480 + w * 80 + g * 4)), .int (nI (r * 480 + w * 80 + (g + 1) * 4))]) (rest := []) (wc := wS cI q st) (wr := []) S (c_X1_removeEntries l D (sz := s.heap.size) (cI := cI) (q := q) (st := st) (a := r * 480 + w * 80 + g * 4) (b := r * 480 + w * 80 + (g + 1) * 4) (hab := by omega) (hb9 := by omega)) (cwV 2 hts gX1_removeGroup_X1_removeEntries rfl rfl rfl (by decide +kernel) ⟨Nat.le_of_ble_eq_true rfl, Nat.le_of_ble_eq_true rfl⟩) hw hA [0, 1, 2, 3, 4, 5, 6] [] [0] rfl rfl rfl (by decide) (by decide) (by decide) 0 rfl rfl rfl hl.1 (Nat.le_of_ble_eq_true rfl) ⟨Nat.le_of_ble_eq_true rfl, Nat.le_of_ble_eq_true rfl⟩ rfl dX1_removeGroup_15 (fun r_15 u_15 H locs e_15 hw => ?_)
  have hw : Wd D A [(cI, .int)] (wS cI q (clrS st (r * 480 + w * 80 + g * 4) ((r * 480 + w * 80 + (g + 1) * 4) - (r * 480 + w * 80 + g * 4)))) s s.heap H locs := hw
  have e_15 : r_15 = nI (cntE st.1 (r * 480 + w * 80 + g * 4) ((r * 480 + w * 80 + (g + 1) * 4) - (r * 480 + w * 80 + g * 4))) := e_15
  subst e_15
  have ew : (wS cI q (clrS st (r * 480 + w * 80 + g * 4) ((r * 480 + w * 80 + (g + 1) * 4) - (r * 480 + w * 80 + g * 4)))) = (wS cI q (clrS st (r * 480 + w * 80 + g * 4) 4)) := by rw [show r * 480 + w * 80 + (g + 1) * 4 - (r * 480 + w * 80 + g * 4) = 4 by omega]
  rw [ew] at hw
  exact hE () dX1_removeGroup_18 (rfl) (Nat.le_of_ble_eq_true rfl) (Nat.le_of_ble_eq_true rfl) (hw.sub [0, 1, 2, 3, 4, 5, 6] [] (by decide) rfl rfl) (show nI (cntE st.1 (r * 480 + w * 80 + g * 4) ((r * 480 + w * 80 + (g + 1) * 4) - (r * 480 + w * 80 + g * 4))) = nI (cntE st.1 (r * 480 + w * 80 + g * 4) 4) from by rw [show r * 480 + w * 80 + (g + 1) * 4 - (r * 480 + w * 80 + g * 4) = 4 by omega])
abbrev rmX1_seenNumber : Room := { frames := 0, cells := 0, slots := 0, locals := 0 }
set_option maxHeartbeats 4000000 in
set_option maxRecDepth 100000 in
theorem c_X1_seenNumber (l : Launch) (D : va_G) (cI : ClassId) (q : Nat → Nat) (st : St) (a b : Nat) (ha : a < 4) (hb4 : b < 4) : MQi l yX1_seenNumber wsX1_seenNumber rmX1_seenNumber [.ref (q 0), .int (nI a), .int (nI b)] D [(cI, .int)] (wS cI q st) (fun rz => rz = st.2.2.2.1 (a * 4 + b)) := by
  refine met_q (own := RX1) (cc := cX1_seenNumber) (maxL := 3) (ty := .int) (by decide) rfl rfl (Nat.le_of_ble_eq_true rfl) ?_
  intro p e s m args below meth c Q S hq hE ls hl
  obtain ⟨hx, hb, hml, hown, hts⟩ := id S
  have k21 := hts (.fieldLink RX1 21 "CausalTable$State" "seenNumbers" "[I") (by decide +kernel)
  have hin1 := (show ∀ w ∈ wsX10, w ∈ wsX1_seenNumber by decide +kernel)
  have hl : lv_has ls 3 [(0, .ref (q 0)), (1, .int (nI a)), (2, .int (nI b))] := hl
  refine lv_aload_n hx hb dX1_seenNumber_0 rfl (lv_at hl 0 rfl) ?_
  refine r_get hx hb hts hown hq 0 3 hin1 rfl rfl (by decide) k21 rfl dX1_seenNumber_1 ?_
  refine lv_iload_n hx hb dX1_seenNumber_4 rfl (lv_at hl 1 rfl) ?_
  refine lv_iconst (v := nI 4) hx hb dX1_seenNumber_5 kc_iconst_4 ?_
  refine r_mulN hx hb dX1_seenNumber_6 ?_
  refine lv_iload_n hx hb dX1_seenNumber_7 rfl (lv_at hl 2 rfl) ?_
  refine r_addN hx hb dX1_seenNumber_8 ?_
  refine r_ald hx hb hq 4 0 rfl rfl (i := (a * 4) + b) (by omega) (by decide) dX1_seenNumber_9 ?_
  exact hE dX1_seenNumber_10 (rfl) (show st.2.2.2.1 ((a * 4) + b) = st.2.2.2.1 (a * 4 + b) from by first | rfl | (congr <;> omega) | simp_all)
abbrev rmX1_beginUpdate : Room := { frames := 0, cells := 0, slots := 0, locals := 0 }
set_option maxHeartbeats 4000000 in
set_option maxRecDepth 100000 in
theorem c_X1_beginUpdate (l : Launch) (D : va_G) (sz : Nat) (cI : ClassId) (q : Nat → Nat) (st : St) (r : Nat) (hr : r < 4) : MUv l yX1_beginUpdate wsX1_beginUpdate rmX1_beginUpdate [.ref (q 0), .int (nI r)] D [(cI, .int)] (wS cI q st) sz (fun (_ : Unit) => True) (fun _ => []) (fun _ => wS cI q (begU st r)) 0 0 := by
  refine met_v (own := RX1) (cc := cX1_beginUpdate) (maxL := 2) (by decide) rfl rfl (Nat.le_of_ble_eq_true rfl) ?_
  intro p e s m args below meth c Q A hsz S hmn hw hA hE ls hl
  obtain ⟨hx, hb, hml, hown, hts⟩ := id S
  have k24 := hts (.fieldLink RX1 24 "CausalTable$State" "clocks" "[I") (by decide +kernel)
  have hin1 := (show ∀ w ∈ wsX10, w ∈ wsX1_beginUpdate by decide +kernel)
  have k21 := hts (.fieldLink RX1 21 "CausalTable$State" "seenNumbers" "[I") (by decide +kernel)
  have hl : lv_has ls 2 [(0, .ref (q 0)), (1, .int (nI r))] := hl
  refine lv_aload_n hx hb dX1_beginUpdate_0 rfl (lv_at hl 0 rfl) ?_
  refine r_get hx hb hts hown hw.q 0 4 hin1 rfl rfl (by decide) k24 rfl dX1_beginUpdate_1 ?_
  refine lv_iload_n hx hb dX1_beginUpdate_4 rfl (lv_at hl 1 rfl) ?_
  refine lv_dup2_11 hx hb dX1_beginUpdate_5 rfl rfl ?_
  refine r_ald hx hb hw.q 5 0 rfl rfl (i := r) (by omega) (by decide) dX1_beginUpdate_6 ?_
  refine lv_iconst (v := nI 1) hx hb dX1_beginUpdate_7 kc_iconst_1 ?_
  refine lv_iadd hx hb dX1_beginUpdate_8 ?_
  refine r_ast hx hb hw 5 0 rfl rfl (i := r) (by omega) (by decide) dX1_beginUpdate_9 (fun H locs hw => ?_)
  have hw : Wd D A [(cI, .int)] (wS cI q (st.1, st.2.1, st.2.2.1, st.2.2.2.1, upd st.2.2.2.2.1 r ((st.2.2.2.2.1 r) + (nI 1)), st.2.2.2.2.2)) s s.heap H locs := hw
  refine lv_aload_n hx hb dX1_beginUpdate_10 rfl (lv_at hl 0 rfl) ?_
  refine r_get hx hb hts hown hw.q 0 3 hin1 rfl rfl (by decide) k21 rfl dX1_beginUpdate_11 ?_
  refine lv_iload_n hx hb dX1_beginUpdate_14 rfl (lv_at hl 1 rfl) ?_
  refine lv_iconst (v := nI 4) hx hb dX1_beginUpdate_15 kc_iconst_4 ?_
  refine r_mulN hx hb dX1_beginUpdate_16 ?_
  refine lv_iload_n hx hb dX1_beginUpdate_17 rfl (lv_at hl 1 rfl) ?_
  refine r_addN hx hb dX1_beginUpdate_18 ?_
  refine lv_dup2_11 hx hb dX1_beginUpdate_19 rfl rfl ?_
  refine r_ald hx hb hw.q 4 0 rfl rfl (i := (r * 4) + r) (by omega) (by decide) dX1_beginUpdate_20 ?_
  refine lv_iconst (v := nI 1) hx hb dX1_beginUpdate_21 kc_iconst_1 ?_
  refine lv_iadd hx hb dX1_beginUpdate_22 ?_
  refine r_ast hx hb hw 4 0 rfl rfl (i := (r * 4) + r) (by omega) (by decide) dX1_beginUpdate_23 (fun H locs hw => ?_)
  have hw : Wd D A [(cI, .int)] (wS cI q (st.1, st.2.1, st.2.2.1, upd st.2.2.2.1 ((r * 4) + r) ((st.2.2.2.1 ((r * 4) + r)) + (nI 1)), upd st.2.2.2.2.1 r ((st.2.2.2.2.1 r) + (nI 1)), st.2.2.2.2.2)) s s.heap H locs := hw
  exact hE () dX1_beginUpdate_24 (Nat.le_of_ble_eq_true rfl) (Nat.le_of_ble_eq_true rfl) (hw.sub [0, 1, 2, 3, 4, 5, 6] [] (by decide) rfl rfl) trivial
abbrev rmX1_makeEntry : Room := { frames := 1, cells := 0, slots := 0, locals := 22 }
set_option maxHeartbeats 4000000 in
set_option maxRecDepth 100000 in
theorem c_X1_makeEntry (l : Launch) (D : va_G) (sz : Nat) (cI : ClassId) (q : Nat → Nat) (st : St) (r w g : Nat) (v : Int32) (hr : r < 4) (hw5 : w < 6) (hg : g < 20) : MUv l yX1_makeEntry wsX1_makeEntry rmX1_makeEntry [.ref (q 0), .int (nI r), .int (nI w), .int (nI g), .int v] D [(cI, .int)] (wS cI q st) sz (fun (_ : Unit) => True) (fun _ => []) (fun _ => wS cI q (mkE st r w g v)) 0 0 := by
  refine met_v (own := RX1) (cc := cX1_makeEntry) (maxL := 6) (by decide) rfl rfl (Nat.le_of_ble_eq_true rfl) ?_
  intro p e s m args below meth c Q A hsz S hmn hw hA hE ls hl
  obtain ⟨hx, hb, hml, hown, hts⟩ := id S
  have k11 := hts (.fieldLink RX1 11 "CausalTable$State" "numbers" "[I") (by decide +kernel)
  have hin1 := (show ∀ w ∈ wsX10, w ∈ wsX1_makeEntry by decide +kernel)
  have k15 := hts (.fieldLink RX1 15 "CausalTable$State" "stamps" "[I") (by decide +kernel)
  have k24 := hts (.fieldLink RX1 24 "CausalTable$State" "clocks" "[I") (by decide +kernel)
  have k18 := hts (.fieldLink RX1 18 "CausalTable$State" "values" "[I") (by decide +kernel)
  have hl : lv_has ls 6 [(0, .ref (q 0)), (1, .int (nI r)), (2, .int (nI w)), (3, .int (nI g)), (4, .int v)] := hl
  refine lv_iload_n hx hb dX1_makeEntry_0 rfl (lv_at hl 1 rfl) ?_
  refine lv_iload_n hx hb dX1_makeEntry_1 rfl (lv_at hl 2 rfl) ?_
  refine lv_iload_n hx hb dX1_makeEntry_2 rfl (lv_at hl 3 rfl) ?_
  refine cq_S (As := [.int (nI r), .int (nI w), .int (nI g)]) (rest := []) S (c_X1_slotOf l D (r := r) (w := w) (g := g)) (va_cwS 3 hts gX1_makeEntry_X1_slotOf rfl rfl rfl (by decide +kernel) ⟨Nat.le_of_ble_eq_true rfl, Nat.le_of_ble_eq_true rfl⟩) (hw.q.sub [] [] rfl rfl) rfl hl.1 (Nat.le_of_ble_eq_true rfl) ⟨Nat.le_of_ble_eq_true rfl, Nat.le_of_ble_eq_true rfl⟩ rfl dX1_makeEntry_3 (fun r_3 e_3 => ?_)
  have e_3 : r_3 = nI (r * 480 + w * 80 + g * 4) := e_3
  subst e_3
  refine lv_iload_n hx hb dX1_makeEntry_6 rfl (lv_at hl 1 rfl) ?_
  refine r_addN hx hb dX1_makeEntry_7 ?_
  refine lv_istore (lv' := [(5, .int (nI ((r * 480 + w * 80 + g * 4) + r))), (0, .ref (q 0)), (1, .int (nI r)), (2, .int (nI w)), (3, .int (nI g)), (4, .int v)]) hx hb dX1_makeEntry_8 hl (by decide) rfl (fun ls hl => ?_)
  refine lv_aload_n hx hb dX1_makeEntry_10 rfl (lv_at hl 1 rfl) ?_
  refine r_get hx hb hts hown hw.q 0 0 hin1 rfl rfl (by decide) k11 rfl dX1_makeEntry_11 ?_
  refine lv_iload hx hb dX1_makeEntry_14 (lv_at hl 0 rfl) ?_
  refine lv_aload_n hx hb dX1_makeEntry_16 rfl (lv_at hl 1 rfl) ?_
  refine lv_iload_n hx hb dX1_makeEntry_17 rfl (lv_at hl 2 rfl) ?_
  refine lv_iload_n hx hb dX1_makeEntry_18 rfl (lv_at hl 2 rfl) ?_
  refine cq_V (As := [.int (nI r), .int (nI r)]) (rest := [.int (nI ((r * 480 + w * 80 + g * 4) + r)), .ref (q 1)]) S (c_X1_seenNumber l D (cI := cI) (q := q) (st := st) (a := r) (b := r) (ha := by omega) (hb4 := by omega)) (cwV 2 hts gX1_makeEntry_X1_seenNumber rfl rfl rfl (by decide +kernel) ⟨Nat.le_of_ble_eq_true rfl, Nat.le_of_ble_eq_true rfl⟩) (hw.q.sub [0, 1, 2, 3, 4, 5, 6] [0] rfl rfl) 0 rfl rfl rfl hl.1 (Nat.le_of_ble_eq_true rfl) ⟨Nat.le_of_ble_eq_true rfl, Nat.le_of_ble_eq_true rfl⟩ rfl dX1_makeEntry_19 (fun r_19 e_19 => ?_)
  have e_19 : r_19 = st.2.2.2.1 (r * 4 + r) := e_19
  subst e_19
  refine r_ast hx hb hw 1 0 rfl rfl (i := (r * 480 + w * 80 + g * 4) + r) (by omega) (by decide) dX1_makeEntry_22 (fun H locs hw => ?_)
  have hw : Wd D A [(cI, .int)] (wS cI q (upd st.1 ((r * 480 + w * 80 + g * 4) + r) (st.2.2.2.1 (r * 4 + r)), st.2.1, st.2.2.1, st.2.2.2.1, st.2.2.2.2.1, st.2.2.2.2.2)) s s.heap H locs := hw
  refine lv_aload_n hx hb dX1_makeEntry_23 rfl (lv_at hl 1 rfl) ?_
  refine r_get hx hb hts hown hw.q 0 1 hin1 rfl rfl (by decide) k15 rfl dX1_makeEntry_24 ?_
  refine lv_iload hx hb dX1_makeEntry_27 (lv_at hl 0 rfl) ?_
  refine lv_aload_n hx hb dX1_makeEntry_29 rfl (lv_at hl 1 rfl) ?_
  refine r_get hx hb hts hown hw.q 0 4 hin1 rfl rfl (by decide) k24 rfl dX1_makeEntry_30 ?_
  refine lv_iload_n hx hb dX1_makeEntry_33 rfl (lv_at hl 2 rfl) ?_
  refine r_ald hx hb hw.q 5 0 rfl rfl (i := r) (by omega) (by decide) dX1_makeEntry_34 ?_
  refine r_ast hx hb hw 2 0 rfl rfl (i := (r * 480 + w * 80 + g * 4) + r) (by omega) (by decide) dX1_makeEntry_35 (fun H locs hw => ?_)
  have hw : Wd D A [(cI, .int)] (wS cI q (upd st.1 ((r * 480 + w * 80 + g * 4) + r) (st.2.2.2.1 (r * 4 + r)), upd st.2.1 ((r * 480 + w * 80 + g * 4) + r) (st.2.2.2.2.1 r), st.2.2.1, st.2.2.2.1, st.2.2.2.2.1, st.2.2.2.2.2)) s s.heap H locs := hw
  refine lv_aload_n hx hb dX1_makeEntry_36 rfl (lv_at hl 1 rfl) ?_
  refine r_get hx hb hts hown hw.q 0 2 hin1 rfl rfl (by decide) k18 rfl dX1_makeEntry_37 ?_
  refine lv_iload hx hb dX1_makeEntry_40 (lv_at hl 0 rfl) ?_
  refine lv_iload hx hb dX1_makeEntry_42 (lv_at hl 5 rfl) ?_
  refine r_ast hx hb hw 3 0 rfl rfl (i := (r * 480 + w * 80 + g * 4) + r) (by omega) (by decide) dX1_makeEntry_44 (fun H locs hw => ?_)
  have hw : Wd D A [(cI, .int)] (wS cI q (upd st.1 ((r * 480 + w * 80 + g * 4) + r) (st.2.2.2.1 (r * 4 + r)), upd st.2.1 ((r * 480 + w * 80 + g * 4) + r) (st.2.2.2.2.1 r), upd st.2.2.1 ((r * 480 + w * 80 + g * 4) + r) v, st.2.2.2.1, st.2.2.2.2.1, st.2.2.2.2.2)) s s.heap H locs := hw
  exact hE () dX1_makeEntry_45 (Nat.le_of_ble_eq_true rfl) (Nat.le_of_ble_eq_true rfl) (hw.sub [0, 1, 2, 3, 4, 5, 6] [] (by decide) rfl rfl) trivial
abbrev rmX1_greatestValue : Room := { frames := 2, cells := 0, slots := 0, locals := 44 }
set_option maxHeartbeats 4000000 in
set_option maxRecDepth 100000 in
theorem c_X1_greatestValue (l : Launch) (D : va_G) (cI : ClassId) (q : Nat → Nat) (st : St) (r w : Nat) (hr : r < 4) (hw5 : w < 6) : MQi l yX1_greatestValue wsX1_greatestValue rmX1_greatestValue [.ref (q 0), .int (nI r), .int (nI w)] D [(cI, .int)] (wS cI q st) (fun rz => rz = grE st (r * 480 + w * 80 + 2 * 4) 4) := by
  refine met_q (own := RX1) (cc := cX1_greatestValue) (maxL := 6) (ty := .int) (by decide) rfl rfl (Nat.le_of_ble_eq_true rfl) ?_
  intro p e s m args below meth c Q S hq hE ls hl
  obtain ⟨hx, hb, hml, hown, hts⟩ := id S
  have k11 := hts (.fieldLink RX1 11 "CausalTable$State" "numbers" "[I") (by decide +kernel)
  have hin1 := (show ∀ w ∈ wsX10, w ∈ wsX1_greatestValue by decide +kernel)
  have k18 := hts (.fieldLink RX1 18 "CausalTable$State" "values" "[I") (by decide +kernel)
  have mm0 := hts (.methodLink RX1 57 Lib.Math.max.name) (by decide +kernel)
  have mm1 := hts (.static Lib.Math.max.name) (by decide +kernel)
  have mm2 := hts (.initialized "java/lang/Math") (by decide +kernel)
  have mm3 := hts (.code Lib.Math.max.name Lib.Math.max.code 2 (some .int)) (by decide +kernel)
  have hl : lv_has ls 6 [(0, .ref (q 0)), (1, .int (nI r)), (2, .int (nI w))] := hl
  refine lv_iload_n hx hb dX1_greatestValue_0 rfl (lv_at hl 1 rfl) ?_
  refine lv_iload_n hx hb dX1_greatestValue_1 rfl (lv_at hl 2 rfl) ?_
  refine lv_iconst (v := nI 2) hx hb dX1_greatestValue_2 kc_iconst_2 ?_
  refine cq_S (As := [.int (nI r), .int (nI w), .int (nI 2)]) (rest := []) S (c_X1_cellEnd l D (r := r) (w := w) (g := 2) (hg := by omega)) (va_cwS 3 hts gX1_greatestValue_X1_cellEnd rfl rfl rfl (by decide +kernel) ⟨Nat.le_of_ble_eq_true rfl, Nat.le_of_ble_eq_true rfl⟩) (hq.sub [] [] rfl rfl) rfl hl.1 (Nat.le_of_ble_eq_true rfl) ⟨Nat.le_of_ble_eq_true rfl, Nat.le_of_ble_eq_true rfl⟩ rfl dX1_greatestValue_3 (fun r_3 e_3 => ?_)
  have e_3 : r_3 = nI (r * 480 + w * 80 + 3 * 4) := e_3
  subst e_3
  refine lv_istore_n (lv' := [(3, .int (nI (r * 480 + w * 80 + 3 * 4))), (0, .ref (q 0)), (1, .int (nI r)), (2, .int (nI w))]) hx hb dX1_greatestValue_6 rfl hl (by decide) rfl (fun ls hl => ?_)
  refine lv_iconst (v := (-1)) hx hb dX1_greatestValue_7 kc_iconst_m1 ?_
  refine lv_istore (lv' := [(4, .int (-1)), (3, .int (nI (r * 480 + w * 80 + 3 * 4))), (0, .ref (q 0)), (1, .int (nI r)), (2, .int (nI w))]) hx hb dX1_greatestValue_8 hl (by decide) rfl (fun ls hl => ?_)
  refine lv_iload_n hx hb dX1_greatestValue_10 rfl (lv_at hl 3 rfl) ?_
  refine lv_iload_n hx hb dX1_greatestValue_11 rfl (lv_at hl 4 rfl) ?_
  refine lv_iconst (v := nI 2) hx hb dX1_greatestValue_12 kc_iconst_2 ?_
  refine cq_S (As := [.int (nI r), .int (nI w), .int (nI 2)]) (rest := []) S (c_X1_cellStart l D (r := r) (w := w) (g := 2)) (va_cwS 3 hts gX1_greatestValue_X1_cellStart rfl rfl rfl (by decide +kernel) ⟨Nat.le_of_ble_eq_true rfl, Nat.le_of_ble_eq_true rfl⟩) (hq.sub [] [] rfl rfl) rfl hl.1 (Nat.le_of_ble_eq_true rfl) ⟨Nat.le_of_ble_eq_true rfl, Nat.le_of_ble_eq_true rfl⟩ rfl dX1_greatestValue_13 (fun r_13 e_13 => ?_)
  have e_13 : r_13 = nI (r * 480 + w * 80 + 2 * 4) := e_13
  subst e_13
  refine lv_istore (lv' := [(5, .int (nI (r * 480 + w * 80 + 2 * 4))), (4, .int (-1)), (3, .int (nI (r * 480 + w * 80 + 3 * 4))), (0, .ref (q 0)), (1, .int (nI r)), (2, .int (nI w))]) hx hb dX1_greatestValue_16 hl (by decide) rfl (fun ls hl => ?_)
  have L18_1 : ∀ (fu_2 k : Nat), k ≤ 4 → 4 - k < fu_2 → ∀ ls : Array Slot, lv_has ls 6 [(5, .int (nI (r * 480 + w * 80 + 2 * 4 + k))), (4, .int (grE st (r * 480 + w * 80 + 2 * 4) k)), (3, .int (nI (r * 480 + w * 80 + 3 * 4))), (0, .ref (q 0)), (1, .int (nI r)), (2, .int (nI w))] → W p l e rmX1_greatestValue s m args below meth c s.heap [] 0 0 Q (F0 m 18 ls []) := by
    intro fu_2
    induction fu_2 with
    | zero => intro k _ h9; exact absurd h9 (Nat.not_lt_zero _)
    | succ fu_2 ih_18 =>
      intro k hk_18 hf_18 ls hl
      refine lv_iload hx hb dX1_greatestValue_18 (lv_at hl 0 rfl) ?_
      refine lv_iload_n hx hb dX1_greatestValue_20 rfl (lv_at hl 2 rfl) ?_
      refine r_icmp_geN (tgt := 54) hx hb (by omega) (by omega) dX1_greatestValue_21 (by decide) (fun c_21 => ?_) (fun c_21 => ?_)
      ·
        refine lv_iload hx hb dX1_greatestValue_54 (lv_at hl 1 rfl) ?_
        exact hE dX1_greatestValue_56 (rfl) (show grE st (r * 480 + w * 80 + 2 * 4) k = grE st (r * 480 + w * 80 + 2 * 4) 4 from by rw [show k = 4 by omega])
      ·
        refine lv_aload_n hx hb dX1_greatestValue_24 rfl (lv_at hl 3 rfl) ?_
        refine r_get hx hb hts hown hq 0 0 hin1 rfl rfl (by decide) k11 rfl dX1_greatestValue_25 ?_
        refine lv_iload hx hb dX1_greatestValue_28 (lv_at hl 0 rfl) ?_
        refine r_ald hx hb hq 1 0 rfl rfl (i := r * 480 + w * 80 + 2 * 4 + k) (by omega) (by decide) dX1_greatestValue_30 ?_
        refine lv_if_eq (tgt := 48) hx hb dX1_greatestValue_31 (by decide) (fun c_31 => ?_) (fun c_31 => ?_)
        ·
          refine lv_iinc (v := nI ((r * 480 + w * 80 + 2 * 4 + k) + 1)) (lv' := [(5, .int (nI ((r * 480 + w * 80 + 2 * 4 + k) + 1))), (4, .int (grE st (r * 480 + w * 80 + 2 * 4) k)), (3, .int (nI (r * 480 + w * 80 + 3 * 4))), (0, .ref (q 0)), (1, .int (nI r)), (2, .int (nI w))]) hx hb dX1_greatestValue_48 hl (k := 0) rfl (nI_add (r * 480 + w * 80 + 2 * 4 + k) 1) (by decide) rfl (fun ls hl => ?_)
          refine lv_goto (tgt := 18) hx hb dX1_greatestValue_51 (by decide) ?_
          have hl : lv_has ls 6 [(5, .int (nI ((r * 480 + w * 80 + 2 * 4 + k) + 1))), (4, .int (grE st (r * 480 + w * 80 + 2 * 4) k)), (3, .int (nI (r * 480 + w * 80 + 3 * 4))), (0, .ref (q 0)), (1, .int (nI r)), (2, .int (nI w))] := lv_sub hl [0, 1, 2, 3, 4, 5] rfl
          have hl : lv_has ls 6 [(5, .int (nI (r * 480 + w * 80 + 2 * 4 + (k + 1)))), (4, .int (grE st (r * 480 + w * 80 + 2 * 4) k)), (3, .int (nI (r * 480 + w * 80 + 3 * 4))), (0, .ref (q 0)), (1, .int (nI r)), (2, .int (nI w))] := lv_rep hl 0 rfl (congrArg (fun z => Value.int (nI z)) (show (r * 480 + w * 80 + 2 * 4 + k) + 1 = r * 480 + w * 80 + 2 * 4 + (k + 1) from by first | rfl | omega | simp_all))
          have hl : lv_has ls 6 [(5, .int (nI (r * 480 + w * 80 + 2 * 4 + (k + 1)))), (4, .int (grE st (r * 480 + w * 80 + 2 * 4) (k + 1))), (3, .int (nI (r * 480 + w * 80 + 3 * 4))), (0, .ref (q 0)), (1, .int (nI r)), (2, .int (nI w))] := lv_rep hl 1 rfl (congrArg Value.int (show grE st (r * 480 + w * 80 + 2 * 4) k = grE st (r * 480 + w * 80 + 2 * 4) (k + 1) from by simp only [grE]; first | rw [if_pos c_31] | rw [if_neg c_31]))
          exact ih_18 (k + 1) (by omega) (by omega) ls hl
        ·
          refine lv_iload hx hb dX1_greatestValue_34 (lv_at hl 1 rfl) ?_
          refine lv_aload_n hx hb dX1_greatestValue_36 rfl (lv_at hl 3 rfl) ?_
          refine r_get hx hb hts hown hq 0 2 hin1 rfl rfl (by decide) k18 rfl dX1_greatestValue_37 ?_
          refine lv_iload hx hb dX1_greatestValue_40 (lv_at hl 0 rfl) ?_
          refine r_ald hx hb hq 3 0 rfl rfl (i := r * 480 + w * 80 + 2 * 4 + k) (by omega) (by decide) dX1_greatestValue_42 ?_
          refine va_mmax hx hb (hml.trans hl.1.symm) hown mm0 mm1 mm2 mm3 (Nat.le_of_ble_eq_true rfl) (Nat.le_of_ble_eq_true rfl) (Nat.le_of_ble_eq_true rfl) (Nat.le_of_ble_eq_true rfl) dX1_greatestValue_43 ?_
          refine r_top hx (show (if grE st (r * 480 + w * 80 + 2 * 4) k < st.2.2.1 (r * 480 + w * 80 + 2 * 4 + k) then st.2.2.1 (r * 480 + w * 80 + 2 * 4 + k) else grE st (r * 480 + w * 80 + 2 * 4) k) = mx (grE st (r * 480 + w * 80 + 2 * 4) k) (st.2.2.1 (r * 480 + w * 80 + 2 * 4 + k)) from rfl) ?_
          refine lv_istore (lv' := [(4, .int (mx (grE st (r * 480 + w * 80 + 2 * 4) k) (st.2.2.1 (r * 480 + w * 80 + 2 * 4 + k)))), (5, .int (nI (r * 480 + w * 80 + 2 * 4 + k))), (3, .int (nI (r * 480 + w * 80 + 3 * 4))), (0, .ref (q 0)), (1, .int (nI r)), (2, .int (nI w))]) hx hb dX1_greatestValue_46 hl (by decide) rfl (fun ls hl => ?_)
          refine lv_iinc (v := nI ((r * 480 + w * 80 + 2 * 4 + k) + 1)) (lv' := [(5, .int (nI ((r * 480 + w * 80 + 2 * 4 + k) + 1))), (4, .int (mx (grE st (r * 480 + w * 80 + 2 * 4) k) (st.2.2.1 (r * 480 + w * 80 + 2 * 4 + k)))), (3, .int (nI (r * 480 + w * 80 + 3 * 4))), (0, .ref (q 0)), (1, .int (nI r)), (2, .int (nI w))]) hx hb dX1_greatestValue_48 hl (k := 1) rfl (nI_add (r * 480 + w * 80 + 2 * 4 + k) 1) (by decide) rfl (fun ls hl => ?_)
          refine lv_goto (tgt := 18) hx hb dX1_greatestValue_51 (by decide) ?_
          have hl : lv_has ls 6 [(5, .int (nI ((r * 480 + w * 80 + 2 * 4 + k) + 1))), (4, .int (mx (grE st (r * 480 + w * 80 + 2 * 4) k) (st.2.2.1 (r * 480 + w * 80 + 2 * 4 + k)))), (3, .int (nI (r * 480 + w * 80 + 3 * 4))), (0, .ref (q 0)), (1, .int (nI r)), (2, .int (nI w))] := lv_sub hl [0, 1, 2, 3, 4, 5] rfl
          have hl : lv_has ls 6 [(5, .int (nI (r * 480 + w * 80 + 2 * 4 + (k + 1)))), (4, .int (mx (grE st (r * 480 + w * 80 + 2 * 4) k) (st.2.2.1 (r * 480 + w * 80 + 2 * 4 + k)))), (3, .int (nI (r * 480 + w * 80 + 3 * 4))), (0, .ref (q 0)), (1, .int (nI r)), (2, .int (nI w))] := lv_rep hl 0 rfl (congrArg (fun z => Value.int (nI z)) (show (r * 480 + w * 80 + 2 * 4 + k) + 1 = r * 480 + w * 80 + 2 * 4 + (k + 1) from by first | rfl | omega | simp_all))
          have hl : lv_has ls 6 [(5, .int (nI (r * 480 + w * 80 + 2 * 4 + (k + 1)))), (4, .int (grE st (r * 480 + w * 80 + 2 * 4) (k + 1))), (3, .int (nI (r * 480 + w * 80 + 3 * 4))), (0, .ref (q 0)), (1, .int (nI r)), (2, .int (nI w))] := lv_rep hl 1 rfl (congrArg Value.int (show mx (grE st (r * 480 + w * 80 + 2 * 4) k) (st.2.2.1 (r * 480 + w * 80 + 2 * 4 + k)) = grE st (r * 480 + w * 80 + 2 * 4) (k + 1) from by simp only [grE]; first | rw [if_pos c_31] | rw [if_neg c_31]))
          exact ih_18 (k + 1) (by omega) (by omega) ls hl
  have hl : lv_has ls 6 [(5, .int (nI (r * 480 + w * 80 + 2 * 4))), (4, .int (-1)), (3, .int (nI (r * 480 + w * 80 + 3 * 4))), (0, .ref (q 0)), (1, .int (nI r)), (2, .int (nI w))] := lv_sub hl [0, 1, 2, 3, 4, 5] rfl
  have hl : lv_has ls 6 [(5, .int (nI (r * 480 + w * 80 + 2 * 4 + 0))), (4, .int (-1)), (3, .int (nI (r * 480 + w * 80 + 3 * 4))), (0, .ref (q 0)), (1, .int (nI r)), (2, .int (nI w))] := lv_rep hl 0 rfl (congrArg (fun z => Value.int (nI z)) (show r * 480 + w * 80 + 2 * 4 = r * 480 + w * 80 + 2 * 4 + 0 from by first | rfl | omega | simp_all))
  have hl : lv_has ls 6 [(5, .int (nI (r * 480 + w * 80 + 2 * 4 + 0))), (4, .int (grE st (r * 480 + w * 80 + 2 * 4) 0)), (3, .int (nI (r * 480 + w * 80 + 3 * 4))), (0, .ref (q 0)), (1, .int (nI r)), (2, .int (nI w))] := lv_rep hl 1 rfl (congrArg Value.int (show (-1) = grE st (r * 480 + w * 80 + 2 * 4) 0 from rfl))
  exact L18_1 (4 + 1) (0) (by omega) (by omega) ls hl
abbrev rmX1_putValue : Room := { frames := 3, cells := 0, slots := 0, locals := 71 }
set_option maxHeartbeats 4000000 in
set_option maxRecDepth 100000 in
theorem c_X1_putValue (l : Launch) (D : va_G) (sz : Nat) (cI : ClassId) (q : Nat → Nat) (st : St) (r w g : Nat) (v : Int32) (hr : r < 4) (hw5 : w < 6) (hg : g < 3) : MUi l yX1_putValue wsX1_putValue rmX1_putValue [.ref (q 0), .int (nI r), .int (nI w), .int (nI g), .int v] D [(cI, .int)] (wS cI q st) sz (fun rz (_ : Unit) => rz = nI (cntE st.1 (r * 480 + w * 80 + g * 4) 4)) (fun _ => []) (fun _ => wS cI q (putS st r w g v)) 0 0 := by
  refine met_u (own := RX1) (cc := cX1_putValue) (maxL := 7) (ty := .int) (by decide) rfl rfl (Nat.le_of_ble_eq_true rfl) ?_
  intro p e s m args below meth c Q A hsz S hw hA hE ls hl
  obtain ⟨hx, hb, hml, hown, hts⟩ := id S
  have mm0 := hts (.methodLink RX1 57 Lib.Math.max.name) (by decide +kernel)
  have mm1 := hts (.static Lib.Math.max.name) (by decide +kernel)
  have mm2 := hts (.initialized "java/lang/Math") (by decide +kernel)
  have mm3 := hts (.code Lib.Math.max.name Lib.Math.max.code 2 (some .int)) (by decide +kernel)
  have hl : lv_has ls 7 [(0, .ref (q 0)), (1, .int (nI r)), (2, .int (nI w)), (3, .int (nI g)), (4, .int v)] := hl
  refine lv_aload_n hx hb dX1_putValue_0 rfl (lv_at hl 0 rfl) ?_
  refine lv_iload_n hx hb dX1_putValue_1 rfl (lv_at hl 1 rfl) ?_
  refine cu_Vv (As := [.int (nI r)]) (rest := []) (wc := wS cI q st) (wr := []) S (c_X1_beginUpdate l D (sz := s.heap.size) (cI := cI) (q := q) (st := st) (r := r) (hr := by omega)) (cwV 1 hts gX1_putValue_X1_beginUpdate rfl rfl rfl (by decide +kernel) ⟨Nat.le_of_ble_eq_true rfl, Nat.le_of_ble_eq_true rfl⟩) hw hA [0, 1, 2, 3, 4, 5, 6] [] [0] rfl rfl rfl (by decide) (by decide) (by decide) 0 rfl rfl rfl hl.1 (Nat.le_of_ble_eq_true rfl) ⟨Nat.le_of_ble_eq_true rfl, Nat.le_of_ble_eq_true rfl⟩ rfl dX1_putValue_2 (fun u_2 H locs e_2 hw => ?_)
  have hw : Wd D A [(cI, .int)] (wS cI q (begU st r)) s s.heap H locs := hw
  refine lv_iload hx hb dX1_putValue_5 (lv_at hl 4 rfl) ?_
  refine lv_istore (lv' := [(5, .int v), (0, .ref (q 0)), (1, .int (nI r)), (2, .int (nI w)), (3, .int (nI g)), (4, .int v)]) hx hb dX1_putValue_7 hl (by decide) rfl (fun ls hl => ?_)
  have J27_1 : ∀ ls : Array Slot, lv_has ls 7 [(5, .int (if g = 2 then mx v (grE (begU st r) (r * 480 + w * 80 + 2 * 4) 4) else v)), (0, .ref (q 0)), (1, .int (nI r)), (2, .int (nI w)), (3, .int (nI g)), (4, .int v)] → W p l e rmX1_putValue s m args below meth c H locs 0 0 Q (F0 m 27 ls []) := by
    intro ls hl
    refine lv_aload_n hx hb dX1_putValue_27 rfl (lv_at hl 1 rfl) ?_
    refine lv_iload_n hx hb dX1_putValue_28 rfl (lv_at hl 2 rfl) ?_
    refine lv_iload_n hx hb dX1_putValue_29 rfl (lv_at hl 3 rfl) ?_
    refine lv_iload_n hx hb dX1_putValue_30 rfl (lv_at hl 4 rfl) ?_
    refine cu_Vi (As := [.int (nI r), .int (nI w), .int (nI g)]) (rest := []) (wc := wS cI q (begU st r)) (wr := []) S (c_X1_removeGroup l D (sz := H.size) (cI := cI) (q := q) (st := (begU st r)) (r := r) (w := w) (g := g) (hr := by omega) (hw5 := by omega) (hg := by omega)) (cwV 3 hts gX1_putValue_X1_removeGroup rfl rfl rfl (by decide +kernel) ⟨Nat.le_of_ble_eq_true rfl, Nat.le_of_ble_eq_true rfl⟩) hw hA [0, 1, 2, 3, 4, 5, 6] [] [0] rfl rfl rfl (by decide) (by decide) (by decide) 0 rfl rfl rfl hl.1 (Nat.le_of_ble_eq_true rfl) ⟨Nat.le_of_ble_eq_true rfl, Nat.le_of_ble_eq_true rfl⟩ rfl dX1_putValue_31 (fun r_31 u_31 H locs e_31 hw => ?_)
    have hw : Wd D A [(cI, .int)] (wS cI q (clrS (begU st r) (r * 480 + w * 80 + g * 4) 4)) s s.heap H locs := hw
    have e_31 : r_31 = nI (cntE (begU st r).1 (r * 480 + w * 80 + g * 4) 4) := e_31
    subst e_31
    refine lv_istore (lv' := [(6, .int (nI (cntE (begU st r).1 (r * 480 + w * 80 + g * 4) 4))), (5, .int (if g = 2 then mx v (grE (begU st r) (r * 480 + w * 80 + 2 * 4) 4) else v)), (0, .ref (q 0)), (1, .int (nI r)), (2, .int (nI w)), (3, .int (nI g)), (4, .int v)]) hx hb dX1_putValue_34 hl (by decide) rfl (fun ls hl => ?_)
    refine lv_aload_n hx hb dX1_putValue_36 rfl (lv_at hl 2 rfl) ?_
    refine lv_iload_n hx hb dX1_putValue_37 rfl (lv_at hl 3 rfl) ?_
    refine lv_iload_n hx hb dX1_putValue_38 rfl (lv_at hl 4 rfl) ?_
    refine lv_iload_n hx hb dX1_putValue_39 rfl (lv_at hl 5 rfl) ?_
    refine lv_iload hx hb dX1_putValue_40 (lv_at hl 1 rfl) ?_
    refine cu_Vv (As := [.int (nI r), .int (nI w), .int (nI g), .int (if g = 2 then mx v (grE (begU st r) (r * 480 + w * 80 + 2 * 4) 4) else v)]) (rest := []) (wc := wS cI q (clrS (begU st r) (r * 480 + w * 80 + g * 4) 4)) (wr := []) S (c_X1_makeEntry l D (sz := H.size) (cI := cI) (q := q) (st := (clrS (begU st r) (r * 480 + w * 80 + g * 4) 4)) (r := r) (w := w) (g := g) (v := if g = 2 then mx v (grE (begU st r) (r * 480 + w * 80 + 2 * 4) 4) else v) (hr := by omega) (hw5 := by omega) (hg := by omega)) (cwV 4 hts gX1_putValue_X1_makeEntry rfl rfl rfl (by decide +kernel) ⟨Nat.le_of_ble_eq_true rfl, Nat.le_of_ble_eq_true rfl⟩) hw hA [0, 1, 2, 3, 4, 5, 6] [] [0] rfl rfl rfl (by decide) (by decide) (by decide) 0 rfl rfl rfl hl.1 (Nat.le_of_ble_eq_true rfl) ⟨Nat.le_of_ble_eq_true rfl, Nat.le_of_ble_eq_true rfl⟩ rfl dX1_putValue_42 (fun u_42 H locs e_42 hw => ?_)
    have hw : Wd D A [(cI, .int)] (wS cI q (mkE (clrS (begU st r) (r * 480 + w * 80 + g * 4) 4) r w g (if g = 2 then mx v (grE (begU st r) (r * 480 + w * 80 + 2 * 4) 4) else v))) s s.heap H locs := hw
    refine lv_iload hx hb dX1_putValue_45 (lv_at hl 0 rfl) ?_
    exact hE () dX1_putValue_47 (rfl) (Nat.le_of_ble_eq_true rfl) (Nat.le_of_ble_eq_true rfl) (hw.sub [0, 1, 2, 3, 4, 5, 6] [] (by decide) rfl rfl) (show nI (cntE (begU st r).1 (r * 480 + w * 80 + g * 4) 4) = nI (cntE st.1 (r * 480 + w * 80 + g * 4) 4) from by first | rfl | (congr <;> omega) | simp_all)
  refine lv_iload_n hx hb dX1_putValue_9 rfl (lv_at hl 4 rfl) ?_
  refine lv_iconst (v := nI 2) hx hb dX1_putValue_10 kc_iconst_2 ?_
  refine r_icmp_neN (tgt := 27) hx hb (by omega) (by omega) dX1_putValue_11 (by decide) (fun c_11 => ?_) (fun c_11 => ?_)
  ·
    have hl : lv_has ls 7 [(5, .int v), (0, .ref (q 0)), (1, .int (nI r)), (2, .int (nI w)), (3, .int (nI g)), (4, .int v)] := lv_sub hl [0, 1, 2, 3, 4, 5] rfl
    have hl : lv_has ls 7 [(5, .int (if g = 2 then mx v (grE (begU st r) (r * 480 + w * 80 + 2 * 4) 4) else v)), (0, .ref (q 0)), (1, .int (nI r)), (2, .int (nI w)), (3, .int (nI g)), (4, .int v)] := lv_rep hl 0 rfl (congrArg Value.int (show v = if g = 2 then mx v (grE (begU st r) (r * 480 + w * 80 + 2 * 4) 4) else v from by simp [c_11]))
    exact J27_1 ls hl
  ·
    refine lv_iload hx hb dX1_putValue_14 (lv_at hl 5 rfl) ?_
    refine lv_aload_n hx hb dX1_putValue_16 rfl (lv_at hl 1 rfl) ?_
    refine lv_iload_n hx hb dX1_putValue_17 rfl (lv_at hl 2 rfl) ?_
    refine lv_iload_n hx hb dX1_putValue_18 rfl (lv_at hl 3 rfl) ?_
    refine cq_V (As := [.int (nI r), .int (nI w)]) (rest := [.int v]) S (c_X1_greatestValue l D (cI := cI) (q := q) (st := (begU st r)) (r := r) (w := w) (hr := by omega) (hw5 := by omega)) (cwV 2 hts gX1_putValue_X1_greatestValue rfl rfl rfl (by decide +kernel) ⟨Nat.le_of_ble_eq_true rfl, Nat.le_of_ble_eq_true rfl⟩) (hw.q.sub [0, 1, 2, 3, 4, 5, 6] [0] rfl rfl) 0 rfl rfl rfl hl.1 (Nat.le_of_ble_eq_true rfl) ⟨Nat.le_of_ble_eq_true rfl, Nat.le_of_ble_eq_true rfl⟩ rfl dX1_putValue_19 (fun r_19 e_19 => ?_)
    have e_19 : r_19 = grE (begU st r) (r * 480 + w * 80 + 2 * 4) 4 := e_19
    subst e_19
    refine va_mmax hx hb (hml.trans hl.1.symm) hown mm0 mm1 mm2 mm3 (Nat.le_of_ble_eq_true rfl) (Nat.le_of_ble_eq_true rfl) (Nat.le_of_ble_eq_true rfl) (Nat.le_of_ble_eq_true rfl) dX1_putValue_22 ?_
    refine r_top hx (show (if v < grE (begU st r) (r * 480 + w * 80 + 2 * 4) 4 then grE (begU st r) (r * 480 + w * 80 + 2 * 4) 4 else v) = mx v (grE (begU st r) (r * 480 + w * 80 + 2 * 4) 4) from rfl) ?_
    refine lv_istore (lv' := [(5, .int (mx v (grE (begU st r) (r * 480 + w * 80 + 2 * 4) 4))), (0, .ref (q 0)), (1, .int (nI r)), (2, .int (nI w)), (3, .int (nI g)), (4, .int v)]) hx hb dX1_putValue_25 hl (by decide) rfl (fun ls hl => ?_)
    have hl : lv_has ls 7 [(5, .int (mx v (grE (begU st r) (r * 480 + w * 80 + 2 * 4) 4))), (0, .ref (q 0)), (1, .int (nI r)), (2, .int (nI w)), (3, .int (nI g)), (4, .int v)] := lv_sub hl [0, 1, 2, 3, 4, 5] rfl
    have hl : lv_has ls 7 [(5, .int (if g = 2 then mx v (grE (begU st r) (r * 480 + w * 80 + 2 * 4) 4) else v)), (0, .ref (q 0)), (1, .int (nI r)), (2, .int (nI w)), (3, .int (nI g)), (4, .int v)] := lv_rep hl 0 rfl (congrArg Value.int (show mx v (grE (begU st r) (r * 480 + w * 80 + 2 * 4) 4) = if g = 2 then mx v (grE (begU st r) (r * 480 + w * 80 + 2 * 4) 4) else v from by simp [c_11]))
    exact J27_1 ls hl
abbrev rmX1_addAmount : Room := { frames := 2, cells := 0, slots := 0, locals := 47 }
set_option maxHeartbeats 4000000 in
set_option maxRecDepth 100000 in
theorem c_X1_addAmount (l : Launch) (D : va_G) (sz : Nat) (cI : ClassId) (q : Nat → Nat) (st : St) (r w : Nat) (v : Int32) (hr : r < 4) (hw5 : w < 6) : MUv l yX1_addAmount wsX1_addAmount rmX1_addAmount [.ref (q 0), .int (nI r), .int (nI w), .int v] D [(cI, .int)] (wS cI q st) sz (fun (_ : Unit) => True) (fun _ => []) (fun _ => wS cI q (addS st r w v)) 0 0 := by
  refine met_v (own := RX1) (cc := cX1_addAmount) (maxL := 6) (by decide) rfl rfl (Nat.le_of_ble_eq_true rfl) ?_
  intro p e s m args below meth c Q A hsz S hmn hw hA hE ls hl
  obtain ⟨hx, hb, hml, hown, hts⟩ := id S
  have k11 := hts (.fieldLink RX1 11 "CausalTable$State" "numbers" "[I") (by decide +kernel)
  have hin1 := (show ∀ w ∈ wsX10, w ∈ wsX1_addAmount by decide +kernel)
  have k18 := hts (.fieldLink RX1 18 "CausalTable$State" "values" "[I") (by decide +kernel)
  have hl : lv_has ls 6 [(0, .ref (q 0)), (1, .int (nI r)), (2, .int (nI w)), (3, .int v)] := hl
  refine lv_aload_n hx hb dX1_addAmount_0 rfl (lv_at hl 0 rfl) ?_
  refine lv_iload_n hx hb dX1_addAmount_1 rfl (lv_at hl 1 rfl) ?_
  refine cu_Vv (As := [.int (nI r)]) (rest := []) (wc := wS cI q st) (wr := []) S (c_X1_beginUpdate l D (sz := s.heap.size) (cI := cI) (q := q) (st := st) (r := r) (hr := by omega)) (cwV 1 hts gX1_addAmount_X1_beginUpdate rfl rfl rfl (by decide +kernel) ⟨Nat.le_of_ble_eq_true rfl, Nat.le_of_ble_eq_true rfl⟩) hw hA [0, 1, 2, 3, 4, 5, 6] [] [0] rfl rfl rfl (by decide) (by decide) (by decide) 0 rfl rfl rfl hl.1 (Nat.le_of_ble_eq_true rfl) ⟨Nat.le_of_ble_eq_true rfl, Nat.le_of_ble_eq_true rfl⟩ rfl dX1_addAmount_2 (fun u_2 H locs e_2 hw => ?_)
  have hw : Wd D A [(cI, .int)] (wS cI q (begU st r)) s s.heap H locs := hw
  refine lv_iload_n hx hb dX1_addAmount_5 rfl (lv_at hl 1 rfl) ?_
  refine lv_iload_n hx hb dX1_addAmount_6 rfl (lv_at hl 2 rfl) ?_
  refine lv_iconst (v := nI 3) hx hb dX1_addAmount_7 kc_iconst_3 ?_
  refine cq_S (As := [.int (nI r), .int (nI w), .int (nI 3)]) (rest := []) S (c_X1_slotOf l D (r := r) (w := w) (g := 3)) (va_cwS 3 hts gX1_addAmount_X1_slotOf rfl rfl rfl (by decide +kernel) ⟨Nat.le_of_ble_eq_true rfl, Nat.le_of_ble_eq_true rfl⟩) (hw.q.sub [] [] rfl rfl) rfl hl.1 (Nat.le_of_ble_eq_true rfl) ⟨Nat.le_of_ble_eq_true rfl, Nat.le_of_ble_eq_true rfl⟩ rfl dX1_addAmount_8 (fun r_8 e_8 => ?_)
  have e_8 : r_8 = nI (r * 480 + w * 80 + 3 * 4) := e_8
  subst e_8
  refine lv_iload_n hx hb dX1_addAmount_11 rfl (lv_at hl 1 rfl) ?_
  refine r_addN hx hb dX1_addAmount_12 ?_
  refine lv_istore (lv' := [(4, .int (nI ((r * 480 + w * 80 + 3 * 4) + r))), (0, .ref (q 0)), (1, .int (nI r)), (2, .int (nI w)), (3, .int v)]) hx hb dX1_addAmount_13 hl (by decide) rfl (fun ls hl => ?_)
  have J36_1 : ∀ ls : Array Slot, lv_has ls 6 [(4, .int (nI ((r * 480 + w * 80 + 3 * 4) + r))), (0, .ref (q 0)), (1, .int (nI r)), (2, .int (nI w)), (3, .int v)] → W p l e rmX1_addAmount s m args below meth c H locs 0 0 Q (F0 m 36 ls [.int (if (begU st r).1 (r * 480 + w * 80 + 3 * 4 + r) = 0 then nI 0 else (begU st r).2.2.1 (r * 480 + w * 80 + 3 * 4 + r))]) := by
    intro ls hl
    refine lv_istore (lv' := [(5, .int (if (begU st r).1 (r * 480 + w * 80 + 3 * 4 + r) = 0 then nI 0 else (begU st r).2.2.1 (r * 480 + w * 80 + 3 * 4 + r))), (4, .int (nI ((r * 480 + w * 80 + 3 * 4) + r))), (0, .ref (q 0)), (1, .int (nI r)), (2, .int (nI w)), (3, .int v)]) hx hb dX1_addAmount_36 hl (by decide) rfl (fun ls hl => ?_)
    refine lv_aload_n hx hb dX1_addAmount_38 rfl (lv_at hl 2 rfl) ?_
    refine lv_iload_n hx hb dX1_addAmount_39 rfl (lv_at hl 3 rfl) ?_
    refine lv_iload_n hx hb dX1_addAmount_40 rfl (lv_at hl 4 rfl) ?_
    refine lv_iconst (v := nI 3) hx hb dX1_addAmount_41 kc_iconst_3 ?_
    refine lv_iload hx hb dX1_addAmount_42 (lv_at hl 0 rfl) ?_
    refine lv_iload_n hx hb dX1_addAmount_44 rfl (lv_at hl 5 rfl) ?_
    refine lv_iadd hx hb dX1_addAmount_45 ?_
    refine cu_Vv (As := [.int (nI r), .int (nI w), .int (nI 3), .int ((if (begU st r).1 (r * 480 + w * 80 + 3 * 4 + r) = 0 then nI 0 else (begU st r).2.2.1 (r * 480 + w * 80 + 3 * 4 + r)) + v)]) (rest := []) (wc := wS cI q (begU st r)) (wr := []) S (c_X1_makeEntry l D (sz := H.size) (cI := cI) (q := q) (st := (begU st r)) (r := r) (w := w) (g := 3) (v := (if (begU st r).1 (r * 480 + w * 80 + 3 * 4 + r) = 0 then nI 0 else (begU st r).2.2.1 (r * 480 + w * 80 + 3 * 4 + r)) + v) (hr := by omega) (hw5 := by omega) (hg := by omega)) (cwV 4 hts gX1_addAmount_X1_makeEntry rfl rfl rfl (by decide +kernel) ⟨Nat.le_of_ble_eq_true rfl, Nat.le_of_ble_eq_true rfl⟩) hw hA [0, 1, 2, 3, 4, 5, 6] [] [0] rfl rfl rfl (by decide) (by decide) (by decide) 0 rfl rfl rfl hl.1 (Nat.le_of_ble_eq_true rfl) ⟨Nat.le_of_ble_eq_true rfl, Nat.le_of_ble_eq_true rfl⟩ rfl dX1_addAmount_46 (fun u_46 H locs e_46 hw => ?_)
    have hw : Wd D A [(cI, .int)] (wS cI q (mkE (begU st r) r w 3 ((if (begU st r).1 (r * 480 + w * 80 + 3 * 4 + r) = 0 then nI 0 else (begU st r).2.2.1 (r * 480 + w * 80 + 3 * 4 + r)) + v))) s s.heap H locs := hw
    exact hE () dX1_addAmount_49 (Nat.le_of_ble_eq_true rfl) (Nat.le_of_ble_eq_true rfl) (hw.sub [0, 1, 2, 3, 4, 5, 6] [] (by decide) rfl rfl) trivial
  refine lv_aload_n hx hb dX1_addAmount_15 rfl (lv_at hl 1 rfl) ?_
  refine r_get hx hb hts hown hw.q 0 0 hin1 rfl rfl (by decide) k11 rfl dX1_addAmount_16 ?_
  refine lv_iload hx hb dX1_addAmount_19 (lv_at hl 0 rfl) ?_
  refine r_ald hx hb hw.q 1 0 rfl rfl (i := (r * 480 + w * 80 + 3 * 4) + r) (by omega) (by decide) dX1_addAmount_21 ?_
  refine lv_if_eq (tgt := 35) hx hb dX1_addAmount_22 (by decide) (fun c_22 => ?_) (fun c_22 => ?_)
  ·
    refine lv_iconst (v := nI 0) hx hb dX1_addAmount_35 kc_iconst_0 ?_
    have hl : lv_has ls 6 [(4, .int (nI ((r * 480 + w * 80 + 3 * 4) + r))), (0, .ref (q 0)), (1, .int (nI r)), (2, .int (nI w)), (3, .int v)] := lv_sub hl [0, 1, 2, 3, 4] rfl
    refine r_top hx (show nI 0 = if (begU st r).1 (r * 480 + w * 80 + 3 * 4 + r) = 0 then nI 0 else (begU st r).2.2.1 (r * 480 + w * 80 + 3 * 4 + r) from by simp [c_22]) ?_
    exact J36_1 ls hl
  ·
    refine lv_aload_n hx hb dX1_addAmount_25 rfl (lv_at hl 1 rfl) ?_
    refine r_get hx hb hts hown hw.q 0 2 hin1 rfl rfl (by decide) k18 rfl dX1_addAmount_26 ?_
    refine lv_iload hx hb dX1_addAmount_29 (lv_at hl 0 rfl) ?_
    refine r_ald hx hb hw.q 3 0 rfl rfl (i := (r * 480 + w * 80 + 3 * 4) + r) (by omega) (by decide) dX1_addAmount_31 ?_
    refine lv_goto (tgt := 36) hx hb dX1_addAmount_32 (by decide) ?_
    have hl : lv_has ls 6 [(4, .int (nI ((r * 480 + w * 80 + 3 * 4) + r))), (0, .ref (q 0)), (1, .int (nI r)), (2, .int (nI w)), (3, .int v)] := lv_sub hl [0, 1, 2, 3, 4] rfl
    refine r_top hx (show ((begU st r).2.2.1) ((r * 480 + w * 80 + 3 * 4) + r) = if (begU st r).1 (r * 480 + w * 80 + 3 * 4 + r) = 0 then nI 0 else (begU st r).2.2.1 (r * 480 + w * 80 + 3 * 4 + r) from by simp [c_22]) ?_
    exact J36_1 ls hl
abbrev rmX1_includeElement : Room := { frames := 3, cells := 0, slots := 0, locals := 71 }
set_option maxHeartbeats 4000000 in
set_option maxRecDepth 100000 in
theorem c_X1_includeElement (l : Launch) (D : va_G) (sz : Nat) (cI : ClassId) (q : Nat → Nat) (st : St) (r w e9 : Nat) (hr : r < 4) (hw5 : w < 6) (he : e9 < 16) : MUi l yX1_includeElement wsX1_includeElement rmX1_includeElement [.ref (q 0), .int (nI r), .int (nI w), .int (nI e9)] D [(cI, .int)] (wS cI q st) sz (fun rz (_ : Unit) => rz = nI (cntE st.1 (r * 480 + w * 80 + (4 + e9) * 4) 4)) (fun _ => []) (fun _ => wS cI q (incS st r w e9)) 0 0 := by
  refine met_u (own := RX1) (cc := cX1_includeElement) (maxL := 5) (ty := .int) (by decide) rfl rfl (Nat.le_of_ble_eq_true rfl) ?_
  intro p e s m args below meth c Q A hsz S hw hA hE ls hl
  obtain ⟨hx, hb, hml, hown, hts⟩ := id S
  have hl : lv_has ls 5 [(0, .ref (q 0)), (1, .int (nI r)), (2, .int (nI w)), (3, .int (nI e9))] := hl
  refine lv_aload_n hx hb dX1_includeElement_0 rfl (lv_at hl 0 rfl) ?_
  refine lv_iload_n hx hb dX1_includeElement_1 rfl (lv_at hl 1 rfl) ?_
  refine cu_Vv (As := [.int (nI r)]) (rest := []) (wc := wS cI q st) (wr := []) S (c_X1_beginUpdate l D (sz := s.heap.size) (cI := cI) (q := q) (st := st) (r := r) (hr := by omega)) (cwV 1 hts gX1_includeElement_X1_beginUpdate rfl rfl rfl (by decide +kernel) ⟨Nat.le_of_ble_eq_true rfl, Nat.le_of_ble_eq_true rfl⟩) hw hA [0, 1, 2, 3, 4, 5, 6] [] [0] rfl rfl rfl (by decide) (by decide) (by decide) 0 rfl rfl rfl hl.1 (Nat.le_of_ble_eq_true rfl) ⟨Nat.le_of_ble_eq_true rfl, Nat.le_of_ble_eq_true rfl⟩ rfl dX1_includeElement_2 (fun u_2 H locs e_2 hw => ?_)
  have hw : Wd D A [(cI, .int)] (wS cI q (begU st r)) s s.heap H locs := hw
  refine lv_aload_n hx hb dX1_includeElement_5 rfl (lv_at hl 0 rfl) ?_
  refine lv_iload_n hx hb dX1_includeElement_6 rfl (lv_at hl 1 rfl) ?_
  refine lv_iload_n hx hb dX1_includeElement_7 rfl (lv_at hl 2 rfl) ?_
  refine lv_iload_n hx hb dX1_includeElement_8 rfl (lv_at hl 3 rfl) ?_
  refine cq_S (As := [.int (nI e9)]) (rest := [.int (nI w), .int (nI r), .ref (q 0)]) S (c_X1_groupOfElement l D (e9 := e9)) (va_cwS 1 hts gX1_includeElement_X1_groupOfElement rfl rfl rfl (by decide +kernel) ⟨Nat.le_of_ble_eq_true rfl, Nat.le_of_ble_eq_true rfl⟩) (hw.q.sub [] [] rfl rfl) rfl hl.1 (Nat.le_of_ble_eq_true rfl) ⟨Nat.le_of_ble_eq_true rfl, Nat.le_of_ble_eq_true rfl⟩ rfl dX1_includeElement_9 (fun r_9 e_9 => ?_)
  have e_9 : r_9 = nI (4 + e9) := e_9
  subst e_9
  refine cu_Vi (As := [.int (nI r), .int (nI w), .int (nI (4 + e9))]) (rest := []) (wc := wS cI q (begU st r)) (wr := []) S (c_X1_removeGroup l D (sz := H.size) (cI := cI) (q := q) (st := (begU st r)) (r := r) (w := w) (g := 4 + e9) (hr := by omega) (hw5 := by omega) (hg := by omega)) (cwV 3 hts gX1_includeElement_X1_removeGroup rfl rfl rfl (by decide +kernel) ⟨Nat.le_of_ble_eq_true rfl, Nat.le_of_ble_eq_true rfl⟩) hw hA [0, 1, 2, 3, 4, 5, 6] [] [0] rfl rfl rfl (by decide) (by decide) (by decide) 0 rfl rfl rfl hl.1 (Nat.le_of_ble_eq_true rfl) ⟨Nat.le_of_ble_eq_true rfl, Nat.le_of_ble_eq_true rfl⟩ rfl dX1_includeElement_12 (fun r_12 u_12 H locs e_12 hw => ?_)
  have hw : Wd D A [(cI, .int)] (wS cI q (clrS (begU st r) (r * 480 + w * 80 + (4 + e9) * 4) 4)) s s.heap H locs := hw
  have e_12 : r_12 = nI (cntE (begU st r).1 (r * 480 + w * 80 + (4 + e9) * 4) 4) := e_12
  subst e_12
  refine lv_istore (lv' := [(4, .int (nI (cntE (begU st r).1 (r * 480 + w * 80 + (4 + e9) * 4) 4))), (0, .ref (q 0)), (1, .int (nI r)), (2, .int (nI w)), (3, .int (nI e9))]) hx hb dX1_includeElement_15 hl (by decide) rfl (fun ls hl => ?_)
  refine lv_aload_n hx hb dX1_includeElement_17 rfl (lv_at hl 1 rfl) ?_
  refine lv_iload_n hx hb dX1_includeElement_18 rfl (lv_at hl 2 rfl) ?_
  refine lv_iload_n hx hb dX1_includeElement_19 rfl (lv_at hl 3 rfl) ?_
  refine lv_iload_n hx hb dX1_includeElement_20 rfl (lv_at hl 4 rfl) ?_
  refine cq_S (As := [.int (nI e9)]) (rest := [.int (nI w), .int (nI r), .ref (q 0)]) S (c_X1_groupOfElement l D (e9 := e9)) (va_cwS 1 hts gX1_includeElement_X1_groupOfElement rfl rfl rfl (by decide +kernel) ⟨Nat.le_of_ble_eq_true rfl, Nat.le_of_ble_eq_true rfl⟩) (hw.q.sub [] [] rfl rfl) rfl hl.1 (Nat.le_of_ble_eq_true rfl) ⟨Nat.le_of_ble_eq_true rfl, Nat.le_of_ble_eq_true rfl⟩ rfl dX1_includeElement_21 (fun r_21 e_21 => ?_)
  have e_21 : r_21 = nI (4 + e9) := e_21
  subst e_21
  refine lv_iload_n hx hb dX1_includeElement_24 rfl (lv_at hl 4 rfl) ?_
  refine cu_Vv (As := [.int (nI r), .int (nI w), .int (nI (4 + e9)), .int (nI e9)]) (rest := []) (wc := wS cI q (clrS (begU st r) (r * 480 + w * 80 + (4 + e9) * 4) 4)) (wr := []) S (c_X1_makeEntry l D (sz := H.size) (cI := cI) (q := q) (st := (clrS (begU st r) (r * 480 + w * 80 + (4 + e9) * 4) 4)) (r := r) (w := w) (g := 4 + e9) (v := nI e9) (hr := by omega) (hw5 := by omega) (hg := by omega)) (cwV 4 hts gX1_includeElement_X1_makeEntry rfl rfl rfl (by decide +kernel) ⟨Nat.le_of_ble_eq_true rfl, Nat.le_of_ble_eq_true rfl⟩) hw hA [0, 1, 2, 3, 4, 5, 6] [] [0] rfl rfl rfl (by decide) (by decide) (by decide) 0 rfl rfl rfl hl.1 (Nat.le_of_ble_eq_true rfl) ⟨Nat.le_of_ble_eq_true rfl, Nat.le_of_ble_eq_true rfl⟩ rfl dX1_includeElement_25 (fun u_25 H locs e_25 hw => ?_)
  have hw : Wd D A [(cI, .int)] (wS cI q (mkE (clrS (begU st r) (r * 480 + w * 80 + (4 + e9) * 4) 4) r w (4 + e9) (nI e9))) s s.heap H locs := hw
  refine lv_iload hx hb dX1_includeElement_28 (lv_at hl 0 rfl) ?_
  exact hE () dX1_includeElement_30 (rfl) (Nat.le_of_ble_eq_true rfl) (Nat.le_of_ble_eq_true rfl) (hw.sub [0, 1, 2, 3, 4, 5, 6] [] (by decide) rfl rfl) (show nI (cntE (begU st r).1 (r * 480 + w * 80 + (4 + e9) * 4) 4) = nI (cntE st.1 (r * 480 + w * 80 + (4 + e9) * 4) 4) from by first | rfl | (congr <;> omega) | simp_all)
abbrev rmX1_excludeElement : Room := { frames := 3, cells := 0, slots := 0, locals := 71 }
set_option maxHeartbeats 4000000 in
set_option maxRecDepth 100000 in
theorem c_X1_excludeElement (l : Launch) (D : va_G) (sz : Nat) (cI : ClassId) (q : Nat → Nat) (st : St) (r w e9 : Nat) (hr : r < 4) (hw5 : w < 6) (he : e9 < 16) : MUi l yX1_excludeElement wsX1_excludeElement rmX1_excludeElement [.ref (q 0), .int (nI r), .int (nI w), .int (nI e9)] D [(cI, .int)] (wS cI q st) sz (fun rz (_ : Unit) => rz = nI (cntE st.1 (r * 480 + w * 80 + (4 + e9) * 4) 4)) (fun _ => []) (fun _ => wS cI q (excS st r w e9)) 0 0 := by
  refine met_u (own := RX1) (cc := cX1_excludeElement) (maxL := 4) (ty := .int) (by decide) rfl rfl (Nat.le_of_ble_eq_true rfl) ?_
  intro p e s m args below meth c Q A hsz S hw hA hE ls hl
  obtain ⟨hx, hb, hml, hown, hts⟩ := id S
  have hl : lv_has ls 4 [(0, .ref (q 0)), (1, .int (nI r)), (2, .int (nI w)), (3, .int (nI e9))] := hl
  refine lv_aload_n hx hb dX1_excludeElement_0 rfl (lv_at hl 0 rfl) ?_
  refine lv_iload_n hx hb dX1_excludeElement_1 rfl (lv_at hl 1 rfl) ?_
  refine cu_Vv (As := [.int (nI r)]) (rest := []) (wc := wS cI q st) (wr := []) S (c_X1_beginUpdate l D (sz := s.heap.size) (cI := cI) (q := q) (st := st) (r := r) (hr := by omega)) (cwV 1 hts gX1_excludeElement_X1_beginUpdate rfl rfl rfl (by decide +kernel) ⟨Nat.le_of_ble_eq_true rfl, Nat.le_of_ble_eq_true rfl⟩) hw hA [0, 1, 2, 3, 4, 5, 6] [] [0] rfl rfl rfl (by decide) (by decide) (by decide) 0 rfl rfl rfl hl.1 (Nat.le_of_ble_eq_true rfl) ⟨Nat.le_of_ble_eq_true rfl, Nat.le_of_ble_eq_true rfl⟩ rfl dX1_excludeElement_2 (fun u_2 H locs e_2 hw => ?_)
  have hw : Wd D A [(cI, .int)] (wS cI q (begU st r)) s s.heap H locs := hw
  refine lv_aload_n hx hb dX1_excludeElement_5 rfl (lv_at hl 0 rfl) ?_
  refine lv_iload_n hx hb dX1_excludeElement_6 rfl (lv_at hl 1 rfl) ?_
  refine lv_iload_n hx hb dX1_excludeElement_7 rfl (lv_at hl 2 rfl) ?_
  refine lv_iload_n hx hb dX1_excludeElement_8 rfl (lv_at hl 3 rfl) ?_
  refine cq_S (As := [.int (nI e9)]) (rest := [.int (nI w), .int (nI r), .ref (q 0)]) S (c_X1_groupOfElement l D (e9 := e9)) (va_cwS 1 hts gX1_excludeElement_X1_groupOfElement rfl rfl rfl (by decide +kernel) ⟨Nat.le_of_ble_eq_true rfl, Nat.le_of_ble_eq_true rfl⟩) (hw.q.sub [] [] rfl rfl) rfl hl.1 (Nat.le_of_ble_eq_true rfl) ⟨Nat.le_of_ble_eq_true rfl, Nat.le_of_ble_eq_true rfl⟩ rfl dX1_excludeElement_9 (fun r_9 e_9 => ?_)
  have e_9 : r_9 = nI (4 + e9) := e_9
  subst e_9
  refine cu_Vi (As := [.int (nI r), .int (nI w), .int (nI (4 + e9))]) (rest := []) (wc := wS cI q (begU st r)) (wr := []) S (c_X1_removeGroup l D (sz := H.size) (cI := cI) (q := q) (st := (begU st r)) (r := r) (w := w) (g := 4 + e9) (hr := by omega) (hw5 := by omega) (hg := by omega)) (cwV 3 hts gX1_excludeElement_X1_removeGroup rfl rfl rfl (by decide +kernel) ⟨Nat.le_of_ble_eq_true rfl, Nat.le_of_ble_eq_true rfl⟩) hw hA [0, 1, 2, 3, 4, 5, 6] [] [0] rfl rfl rfl (by decide) (by decide) (by decide) 0 rfl rfl rfl hl.1 (Nat.le_of_ble_eq_true rfl) ⟨Nat.le_of_ble_eq_true rfl, Nat.le_of_ble_eq_true rfl⟩ rfl dX1_excludeElement_12 (fun r_12 u_12 H locs e_12 hw => ?_)
  have hw : Wd D A [(cI, .int)] (wS cI q (clrS (begU st r) (r * 480 + w * 80 + (4 + e9) * 4) 4)) s s.heap H locs := hw
  have e_12 : r_12 = nI (cntE (begU st r).1 (r * 480 + w * 80 + (4 + e9) * 4) 4) := e_12
  subst e_12
  exact hE () dX1_excludeElement_15 (rfl) (Nat.le_of_ble_eq_true rfl) (Nat.le_of_ble_eq_true rfl) (hw.sub [0, 1, 2, 3, 4, 5, 6] [] (by decide) rfl rfl) (show nI (cntE (begU st r).1 (r * 480 + w * 80 + (4 + e9) * 4) 4) = nI (cntE st.1 (r * 480 + w * 80 + (4 + e9) * 4) 4) from by first | rfl | (congr <;> omega) | simp_all)
abbrev rmX1_deleteRow : Room := { frames := 2, cells := 0, slots := 0, locals := 48 }
set_option maxHeartbeats 4000000 in
set_option maxRecDepth 100000 in
theorem c_X1_deleteRow (l : Launch) (D : va_G) (sz : Nat) (cI : ClassId) (q : Nat → Nat) (st : St) (r w : Nat) (hr : r < 4) (hw5 : w < 6) : MUi l yX1_deleteRow wsX1_deleteRow rmX1_deleteRow [.ref (q 0), .int (nI r), .int (nI w)] D [(cI, .int)] (wS cI q st) sz (fun rz (_ : Unit) => rz = nI (cntE st.1 (r * 480 + w * 80 + 0 * 4) 80)) (fun _ => []) (fun _ => wS cI q (delS st r w)) 0 0 := by
  refine met_u (own := RX1) (cc := cX1_deleteRow) (maxL := 3) (ty := .int) (by decide) rfl rfl (Nat.le_of_ble_eq_true rfl) ?_
  intro p e s m args below meth c Q A hsz S hw hA hE ls hl
  obtain ⟨hx, hb, hml, hown, hts⟩ := id S
  have hl : lv_has ls 3 [(0, .ref (q 0)), (1, .int (nI r)), (2, .int (nI w))] := hl
  refine lv_aload_n hx hb dX1_deleteRow_0 rfl (lv_at hl 0 rfl) ?_
  refine lv_iload_n hx hb dX1_deleteRow_1 rfl (lv_at hl 1 rfl) ?_
  refine cu_Vv (As := [.int (nI r)]) (rest := []) (wc := wS cI q st) (wr := []) S (c_X1_beginUpdate l D (sz := s.heap.size) (cI := cI) (q := q) (st := st) (r := r) (hr := by omega)) (cwV 1 hts gX1_deleteRow_X1_beginUpdate rfl rfl rfl (by decide +kernel) ⟨Nat.le_of_ble_eq_true rfl, Nat.le_of_ble_eq_true rfl⟩) hw hA [0, 1, 2, 3, 4, 5, 6] [] [0] rfl rfl rfl (by decide) (by decide) (by decide) 0 rfl rfl rfl hl.1 (Nat.le_of_ble_eq_true rfl) ⟨Nat.le_of_ble_eq_true rfl, Nat.le_of_ble_eq_true rfl⟩ rfl dX1_deleteRow_2 (fun u_2 H locs e_2 hw => ?_)
  have hw : Wd D A [(cI, .int)] (wS cI q (begU st r)) s s.heap H locs := hw
  refine lv_aload_n hx hb dX1_deleteRow_5 rfl (lv_at hl 0 rfl) ?_
  refine lv_iload_n hx hb dX1_deleteRow_6 rfl (lv_at hl 1 rfl) ?_
  refine lv_iload_n hx hb dX1_deleteRow_7 rfl (lv_at hl 2 rfl) ?_
  refine lv_iconst (v := nI 0) hx hb dX1_deleteRow_8 kc_iconst_0 ?_
  refine cq_S (As := [.int (nI r), .int (nI w), .int (nI 0)]) (rest := [.ref (q 0)]) S (c_X1_slotOf l D (r := r) (w := w) (g := 0)) (va_cwS 3 hts gX1_deleteRow_X1_slotOf rfl rfl rfl (by decide +kernel) ⟨Nat.le_of_ble_eq_true rfl, Nat.le_of_ble_eq_true rfl⟩) (hw.q.sub [] [] rfl rfl) rfl hl.1 (Nat.le_of_ble_eq_true rfl) ⟨Nat.le_of_ble_eq_true rfl, Nat.le_of_ble_eq_true rfl⟩ rfl dX1_deleteRow_9 (fun r_9 e_9 => ?_)
  have e_9 : r_9 = nI (r * 480 + w * 80 + 0 * 4) := e_9
  subst e_9
  refine lv_iload_n hx hb dX1_deleteRow_12 rfl (lv_at hl 1 rfl) ?_
  refine lv_iload_n hx hb dX1_deleteRow_13 rfl (lv_at hl 2 rfl) ?_
  refine lv_bipush (v := nI 20) hx hb dX1_deleteRow_14 kc_bipush_20 ?_
  refine cq_S (As := [.int (nI r), .int (nI w), .int (nI 20)]) (rest := [.int (nI (r * 480 + w * 80 + 0 * 4)), .ref (q 0)]) S (c_X1_slotOf l D (r := r) (w := w) (g := 20)) (va_cwS 3 hts gX1_deleteRow_X1_slotOf rfl rfl rfl (by decide +kernel) ⟨Nat.le_of_ble_eq_true rfl, Nat.le_of_ble_eq_true rfl⟩) (hw.q.sub [] [] rfl rfl) rfl hl.1 (Nat.le_of_ble_eq_true rfl) ⟨Nat.le_of_ble_eq_true rfl, Nat.le_of_ble_eq_true rfl⟩ rfl dX1_deleteRow_16 (fun r_16 e_16 => ?_)
  have e_16 : r_16 = nI (r * 480 + w * 80 + 20 * 4) := e_16
  subst e_16
  refine cu_Vi (As := [.int (nI (r * 480 + w * 80 + 0 * 4)), .int (nI (r * 480 + w * 80 + 20 * 4))]) (rest := []) (wc := wS cI q (begU st r)) (wr := []) S (c_X1_removeEntries l D (sz := H.size) (cI := cI) (q := q) (st := (begU st r)) (a := r * 480 + w * 80 + 0 * 4) (b := r * 480 + w * 80 + 20 * 4) (hab := by omega) (hb9 := by omega)) (cwV 2 hts gX1_deleteRow_X1_removeEntries rfl rfl rfl (by decide +kernel) ⟨Nat.le_of_ble_eq_true rfl, Nat.le_of_ble_eq_true rfl⟩) hw hA [0, 1, 2, 3, 4, 5, 6] [] [0] rfl rfl rfl (by decide) (by decide) (by decide) 0 rfl rfl rfl hl.1 (Nat.le_of_ble_eq_true rfl) ⟨Nat.le_of_ble_eq_true rfl, Nat.le_of_ble_eq_true rfl⟩ rfl dX1_deleteRow_19 (fun r_19 u_19 H locs e_19 hw => ?_)
  have hw : Wd D A [(cI, .int)] (wS cI q (clrS (begU st r) (r * 480 + w * 80 + 0 * 4) ((r * 480 + w * 80 + 20 * 4) - (r * 480 + w * 80 + 0 * 4)))) s s.heap H locs := hw
  have e_19 : r_19 = nI (cntE (begU st r).1 (r * 480 + w * 80 + 0 * 4) ((r * 480 + w * 80 + 20 * 4) - (r * 480 + w * 80 + 0 * 4))) := e_19
  subst e_19
  have ew : (wS cI q (clrS (begU st r) (r * 480 + w * 80 + 0 * 4) ((r * 480 + w * 80 + 20 * 4) - (r * 480 + w * 80 + 0 * 4)))) = (wS cI q (delS st r w)) := by rw [show r * 480 + w * 80 + 20 * 4 - (r * 480 + w * 80 + 0 * 4) = 80 by omega]; rfl
  rw [ew] at hw
  exact hE () dX1_deleteRow_22 (rfl) (Nat.le_of_ble_eq_true rfl) (Nat.le_of_ble_eq_true rfl) (hw.sub [0, 1, 2, 3, 4, 5, 6] [] (by decide) rfl rfl) (show nI (cntE (begU st r).1 (r * 480 + w * 80 + 0 * 4) ((r * 480 + w * 80 + 20 * 4) - (r * 480 + w * 80 + 0 * 4))) = nI (cntE st.1 (r * 480 + w * 80 + 0 * 4) 80) from by rw [show r * 480 + w * 80 + 20 * 4 - (r * 480 + w * 80 + 0 * 4) = 80 by omega]; rfl)
abbrev rmX1_isAdded : Room := { frames := 1, cells := 0, slots := 0, locals := 22 }
set_option maxHeartbeats 4000000 in
set_option maxRecDepth 100000 in
theorem c_X1_isAdded (l : Launch) (D : va_G) (cI : ClassId) (q : Nat → Nat) (st : St) (f t o : Nat) (hf4 : f < 4) (ht4 : t < 4) (ho : o < 480) : MQi l yX1_isAdded wsX1_isAdded rmX1_isAdded [.ref (q 0), .int (nI f), .int (nI t), .int (nI o)] D [(cI, .int)] (wS cI q st) (fun rz => rz = b2 (addP st f t o)) := by
  refine met_q (own := RX1) (cc := cX1_isAdded) (maxL := 5) (ty := .boolean) (by decide) rfl rfl (Nat.le_of_ble_eq_true rfl) ?_
  intro p e s m args below meth c Q S hq hE ls hl
  obtain ⟨hx, hb, hml, hown, hts⟩ := id S
  have k11 := hts (.fieldLink RX1 11 "CausalTable$State" "numbers" "[I") (by decide +kernel)
  have hin1 := (show ∀ w ∈ wsX10, w ∈ wsX1_isAdded by decide +kernel)
  have hl : lv_has ls 5 [(0, .ref (q 0)), (1, .int (nI f)), (2, .int (nI t)), (3, .int (nI o))] := hl
  refine lv_aload_n hx hb dX1_isAdded_0 rfl (lv_at hl 0 rfl) ?_
  refine r_get hx hb hts hown hq 0 0 hin1 rfl rfl (by decide) k11 rfl dX1_isAdded_1 ?_
  refine lv_iload_n hx hb dX1_isAdded_4 rfl (lv_at hl 1 rfl) ?_
  refine lv_sipush (v := nI 480) hx hb dX1_isAdded_5 kc_sipush_480 ?_
  refine r_mulN hx hb dX1_isAdded_8 ?_
  refine lv_iload_n hx hb dX1_isAdded_9 rfl (lv_at hl 3 rfl) ?_
  refine r_addN hx hb dX1_isAdded_10 ?_
  refine r_ald hx hb hq 1 0 rfl rfl (i := (f * 480) + o) (by omega) (by decide) dX1_isAdded_11 ?_
  refine lv_istore (lv' := [(4, .int (st.1 ((f * 480) + o))), (0, .ref (q 0)), (1, .int (nI f)), (2, .int (nI t)), (3, .int (nI o))]) hx hb dX1_isAdded_12 hl (by decide) rfl (fun ls hl => ?_)
  refine lv_iload hx hb dX1_isAdded_14 (lv_at hl 0 rfl) ?_
  refine lv_if_eq (tgt := 53) hx hb dX1_isAdded_16 (by decide) (fun c_16 => ?_) (fun c_16 => ?_)
  ·
    refine lv_iconst (v := nI 0) hx hb dX1_isAdded_53 kc_iconst_0 ?_
    exact hE dX1_isAdded_54 (by first | rfl | exact b2_nz) (ret0 (fun hP => by first | exact hP.1 c_16 | exact hP.2.1 c_33 | exact absurd hP.2.2 (Int32.not_lt.mpr c_46)))
  ·
    refine lv_iload hx hb dX1_isAdded_19 (lv_at hl 0 rfl) ?_
    refine lv_aload_n hx hb dX1_isAdded_21 rfl (lv_at hl 1 rfl) ?_
    refine r_get hx hb hts hown hq 0 0 hin1 rfl rfl (by decide) k11 rfl dX1_isAdded_22 ?_
    refine lv_iload_n hx hb dX1_isAdded_25 rfl (lv_at hl 3 rfl) ?_
    refine lv_sipush (v := nI 480) hx hb dX1_isAdded_26 kc_sipush_480 ?_
    refine r_mulN hx hb dX1_isAdded_29 ?_
    refine lv_iload_n hx hb dX1_isAdded_30 rfl (lv_at hl 4 rfl) ?_
    refine r_addN hx hb dX1_isAdded_31 ?_
    refine r_ald hx hb hq 1 0 rfl rfl (i := (t * 480) + o) (by omega) (by decide) dX1_isAdded_32 ?_
    refine lv_icmp_eq (tgt := 53) hx hb dX1_isAdded_33 (by decide) (fun c_33 => ?_) (fun c_33 => ?_)
    ·
      refine lv_iconst (v := nI 0) hx hb dX1_isAdded_53 kc_iconst_0 ?_
      exact hE dX1_isAdded_54 (by first | rfl | exact b2_nz) (ret0 (fun hP => by first | exact hP.1 c_16 | exact hP.2.1 c_33 | exact absurd hP.2.2 (Int32.not_lt.mpr c_46)))
    ·
      refine lv_iload hx hb dX1_isAdded_36 (lv_at hl 0 rfl) ?_
      refine lv_aload_n hx hb dX1_isAdded_38 rfl (lv_at hl 1 rfl) ?_
      refine lv_iload_n hx hb dX1_isAdded_39 rfl (lv_at hl 3 rfl) ?_
      refine lv_iload_n hx hb dX1_isAdded_40 rfl (lv_at hl 4 rfl) ?_
      refine lv_iconst (v := nI 4) hx hb dX1_isAdded_41 kc_iconst_4 ?_
      refine r_remN hx hb (by omega) (by omega) (by omega) dX1_isAdded_42 ?_
      refine cq_V (As := [.int (nI t), .int (nI (o % 4))]) (rest := [.int (st.1 ((f * 480) + o))]) S (c_X1_seenNumber l D (cI := cI) (q := q) (st := st) (a := t) (b := o % 4) (ha := by omega) (hb4 := by omega)) (cwV 2 hts gX1_isAdded_X1_seenNumber rfl rfl rfl (by decide +kernel) ⟨Nat.le_of_ble_eq_true rfl, Nat.le_of_ble_eq_true rfl⟩) (hq.sub [0, 1, 2, 3, 4, 5, 6] [0] rfl rfl) 0 rfl rfl rfl hl.1 (Nat.le_of_ble_eq_true rfl) ⟨Nat.le_of_ble_eq_true rfl, Nat.le_of_ble_eq_true rfl⟩ rfl dX1_isAdded_43 (fun r_43 e_43 => ?_)
      have e_43 : r_43 = st.2.2.2.1 (t * 4 + (o % 4)) := e_43
      subst e_43
      refine lv_icmp_le (tgt := 53) hx hb dX1_isAdded_46 (by decide) (fun c_46 => ?_) (fun c_46 => ?_)
      ·
        refine lv_iconst (v := nI 0) hx hb dX1_isAdded_53 kc_iconst_0 ?_
        exact hE dX1_isAdded_54 (by first | rfl | exact b2_nz) (ret0 (fun hP => by first | exact hP.1 c_16 | exact hP.2.1 c_33 | exact absurd hP.2.2 (Int32.not_lt.mpr c_46)))
      ·
        refine lv_iconst (v := nI 1) hx hb dX1_isAdded_49 kc_iconst_1 ?_
        refine lv_goto (tgt := 54) hx hb dX1_isAdded_50 (by decide) ?_
        exact hE dX1_isAdded_54 (by first | rfl | exact b2_nz) (ret1 (⟨c_16, c_33, Int32.not_le.mp c_46⟩))
abbrev rmX1_isRemoved : Room := { frames := 1, cells := 0, slots := 0, locals := 22 }
set_option maxHeartbeats 4000000 in
set_option maxRecDepth 100000 in
theorem c_X1_isRemoved (l : Launch) (D : va_G) (cI : ClassId) (q : Nat → Nat) (st : St) (f t o : Nat) (hf4 : f < 4) (ht4 : t < 4) (ho : o < 480) : MQi l yX1_isRemoved wsX1_isRemoved rmX1_isRemoved [.ref (q 0), .int (nI f), .int (nI t), .int (nI o)] D [(cI, .int)] (wS cI q st) (fun rz => rz = b2 (remP st f t o)) := by
  refine met_q (own := RX1) (cc := cX1_isRemoved) (maxL := 5) (ty := .boolean) (by decide) rfl rfl (Nat.le_of_ble_eq_true rfl) ?_
  intro p e s m args below meth c Q S hq hE ls hl
  obtain ⟨hx, hb, hml, hown, hts⟩ := id S
  have k11 := hts (.fieldLink RX1 11 "CausalTable$State" "numbers" "[I") (by decide +kernel)
  have hin1 := (show ∀ w ∈ wsX10, w ∈ wsX1_isRemoved by decide +kernel)
  have hl : lv_has ls 5 [(0, .ref (q 0)), (1, .int (nI f)), (2, .int (nI t)), (3, .int (nI o))] := hl
  refine lv_aload_n hx hb dX1_isRemoved_0 rfl (lv_at hl 0 rfl) ?_
  refine r_get hx hb hts hown hq 0 0 hin1 rfl rfl (by decide) k11 rfl dX1_isRemoved_1 ?_
  refine lv_iload_n hx hb dX1_isRemoved_4 rfl (lv_at hl 2 rfl) ?_
  refine lv_sipush (v := nI 480) hx hb dX1_isRemoved_5 kc_sipush_480 ?_
  refine r_mulN hx hb dX1_isRemoved_8 ?_
  refine lv_iload_n hx hb dX1_isRemoved_9 rfl (lv_at hl 3 rfl) ?_
  refine r_addN hx hb dX1_isRemoved_10 ?_
  refine r_ald hx hb hq 1 0 rfl rfl (i := (t * 480) + o) (by omega) (by decide) dX1_isRemoved_11 ?_
  refine lv_istore (lv' := [(4, .int (st.1 ((t * 480) + o))), (0, .ref (q 0)), (1, .int (nI f)), (2, .int (nI t)), (3, .int (nI o))]) hx hb dX1_isRemoved_12 hl (by decide) rfl (fun ls hl => ?_)
  refine lv_iload hx hb dX1_isRemoved_14 (lv_at hl 0 rfl) ?_
  refine lv_if_eq (tgt := 53) hx hb dX1_isRemoved_16 (by decide) (fun c_16 => ?_) (fun c_16 => ?_)
  ·
    refine lv_iconst (v := nI 0) hx hb dX1_isRemoved_53 kc_iconst_0 ?_
    exact hE dX1_isRemoved_54 (by first | rfl | exact b2_nz) (ret0 (fun hP => by first | exact hP.1 c_16 | exact hP.2.1 c_33 | exact absurd hP.2.2 (Int32.not_le.mpr c_46)))
  ·
    refine lv_iload hx hb dX1_isRemoved_19 (lv_at hl 0 rfl) ?_
    refine lv_aload_n hx hb dX1_isRemoved_21 rfl (lv_at hl 1 rfl) ?_
    refine r_get hx hb hts hown hq 0 0 hin1 rfl rfl (by decide) k11 rfl dX1_isRemoved_22 ?_
    refine lv_iload_n hx hb dX1_isRemoved_25 rfl (lv_at hl 2 rfl) ?_
    refine lv_sipush (v := nI 480) hx hb dX1_isRemoved_26 kc_sipush_480 ?_
    refine r_mulN hx hb dX1_isRemoved_29 ?_
    refine lv_iload_n hx hb dX1_isRemoved_30 rfl (lv_at hl 4 rfl) ?_
    refine r_addN hx hb dX1_isRemoved_31 ?_
    refine r_ald hx hb hq 1 0 rfl rfl (i := (f * 480) + o) (by omega) (by decide) dX1_isRemoved_32 ?_
    refine lv_icmp_eq (tgt := 53) hx hb dX1_isRemoved_33 (by decide) (fun c_33 => ?_) (fun c_33 => ?_)
    ·
      refine lv_iconst (v := nI 0) hx hb dX1_isRemoved_53 kc_iconst_0 ?_
      exact hE dX1_isRemoved_54 (by first | rfl | exact b2_nz) (ret0 (fun hP => by first | exact hP.1 c_16 | exact hP.2.1 c_33 | exact absurd hP.2.2 (Int32.not_le.mpr c_46)))
    ·
      refine lv_iload hx hb dX1_isRemoved_36 (lv_at hl 0 rfl) ?_
      refine lv_aload_n hx hb dX1_isRemoved_38 rfl (lv_at hl 1 rfl) ?_
      refine lv_iload_n hx hb dX1_isRemoved_39 rfl (lv_at hl 2 rfl) ?_
      refine lv_iload_n hx hb dX1_isRemoved_40 rfl (lv_at hl 4 rfl) ?_
      refine lv_iconst (v := nI 4) hx hb dX1_isRemoved_41 kc_iconst_4 ?_
      refine r_remN hx hb (by omega) (by omega) (by omega) dX1_isRemoved_42 ?_
      refine cq_V (As := [.int (nI f), .int (nI (o % 4))]) (rest := [.int (st.1 ((t * 480) + o))]) S (c_X1_seenNumber l D (cI := cI) (q := q) (st := st) (a := f) (b := o % 4) (ha := by omega) (hb4 := by omega)) (cwV 2 hts gX1_isRemoved_X1_seenNumber rfl rfl rfl (by decide +kernel) ⟨Nat.le_of_ble_eq_true rfl, Nat.le_of_ble_eq_true rfl⟩) (hq.sub [0, 1, 2, 3, 4, 5, 6] [0] rfl rfl) 0 rfl rfl rfl hl.1 (Nat.le_of_ble_eq_true rfl) ⟨Nat.le_of_ble_eq_true rfl, Nat.le_of_ble_eq_true rfl⟩ rfl dX1_isRemoved_43 (fun r_43 e_43 => ?_)
      have e_43 : r_43 = st.2.2.2.1 (f * 4 + (o % 4)) := e_43
      subst e_43
      refine lv_icmp_gt (tgt := 53) hx hb dX1_isRemoved_46 (by decide) (fun c_46 => ?_) (fun c_46 => ?_)
      ·
        refine lv_iconst (v := nI 0) hx hb dX1_isRemoved_53 kc_iconst_0 ?_
        exact hE dX1_isRemoved_54 (by first | rfl | exact b2_nz) (ret0 (fun hP => by first | exact hP.1 c_16 | exact hP.2.1 c_33 | exact absurd hP.2.2 (Int32.not_le.mpr c_46)))
      ·
        refine lv_iconst (v := nI 1) hx hb dX1_isRemoved_49 kc_iconst_1 ?_
        refine lv_goto (tgt := 54) hx hb dX1_isRemoved_50 (by decide) ?_
        exact hE dX1_isRemoved_54 (by first | rfl | exact b2_nz) (ret1 (⟨c_16, c_33, Int32.not_lt.mp c_46⟩))
abbrev rmX1_countAdded : Room := { frames := 2, cells := 0, slots := 0, locals := 46 }
set_option maxHeartbeats 4000000 in
set_option maxRecDepth 100000 in
theorem c_X1_countAdded (l : Launch) (D : va_G) (cI : ClassId) (q : Nat → Nat) (st : St) (f t : Nat) (hf4 : f < 4) (ht4 : t < 4) : MQi l yX1_countAdded wsX1_countAdded rmX1_countAdded [.ref (q 0), .int (nI f), .int (nI t)] D [(cI, .int)] (wS cI q st) (fun rz => rz = nI (cntP (fun o => addP st f t o) 480)) := by
  refine met_q (own := RX1) (cc := cX1_countAdded) (maxL := 5) (ty := .int) (by decide) rfl rfl (Nat.le_of_ble_eq_true rfl) ?_
  intro p e s m args below meth c Q S hq hE ls hl
  obtain ⟨hx, hb, hml, hown, hts⟩ := id S
  have hl : lv_has ls 5 [(0, .ref (q 0)), (1, .int (nI f)), (2, .int (nI t))] := hl
  refine lv_iconst (v := nI 0) hx hb dX1_countAdded_0 kc_iconst_0 ?_
  refine lv_istore_n (lv' := [(3, .int (nI 0)), (0, .ref (q 0)), (1, .int (nI f)), (2, .int (nI t))]) hx hb dX1_countAdded_1 rfl hl (by decide) rfl (fun ls hl => ?_)
  refine lv_iconst (v := nI 0) hx hb dX1_countAdded_2 kc_iconst_0 ?_
  refine lv_istore (lv' := [(4, .int (nI 0)), (3, .int (nI 0)), (0, .ref (q 0)), (1, .int (nI f)), (2, .int (nI t))]) hx hb dX1_countAdded_3 hl (by decide) rfl (fun ls hl => ?_)
  have L5_1 : ∀ (fu_2 k : Nat), k ≤ 480 → 480 - k < fu_2 → ∀ ls : Array Slot, lv_has ls 5 [(4, .int (nI k)), (3, .int (nI (cntP (fun o => addP st f t o) k))), (0, .ref (q 0)), (1, .int (nI f)), (2, .int (nI t))] → W p l e rmX1_countAdded s m args below meth c s.heap [] 0 0 Q (F0 m 5 ls []) := by
    intro fu_2
    induction fu_2 with
    | zero => intro k _ h9; exact absurd h9 (Nat.not_lt_zero _)
    | succ fu_2 ih_5 =>
      intro k hk_5 hf_5 ls hl
      refine lv_iload hx hb dX1_countAdded_5 (lv_at hl 0 rfl) ?_
      refine lv_sipush (v := nI 480) hx hb dX1_countAdded_7 kc_sipush_480 ?_
      refine r_icmp_geN (tgt := 33) hx hb (by omega) (by omega) dX1_countAdded_10 (by decide) (fun c_10 => ?_) (fun c_10 => ?_)
      ·
        refine lv_iload_n hx hb dX1_countAdded_33 rfl (lv_at hl 1 rfl) ?_
        exact hE dX1_countAdded_34 (rfl) (show nI (cntP (fun o => addP st f t o) k) = nI (cntP (fun o => addP st f t o) 480) from by rw [show k = 480 by omega])
      ·
        refine lv_aload_n hx hb dX1_countAdded_13 rfl (lv_at hl 2 rfl) ?_
        refine lv_iload_n hx hb dX1_countAdded_14 rfl (lv_at hl 3 rfl) ?_
        refine lv_iload_n hx hb dX1_countAdded_15 rfl (lv_at hl 4 rfl) ?_
        refine lv_iload hx hb dX1_countAdded_16 (lv_at hl 0 rfl) ?_
        refine cq_V (As := [.int (nI f), .int (nI t), .int (nI k)]) (rest := []) S (c_X1_isAdded l D (cI := cI) (q := q) (st := st) (f := f) (t := t) (o := k) (hf4 := by omega) (ht4 := by omega) (ho := by omega)) (cwV 3 hts gX1_countAdded_X1_isAdded rfl rfl rfl (by decide +kernel) ⟨Nat.le_of_ble_eq_true rfl, Nat.le_of_ble_eq_true rfl⟩) (hq.sub [0, 1, 2, 3, 4, 5, 6] [0] rfl rfl) 0 rfl rfl rfl hl.1 (Nat.le_of_ble_eq_true rfl) ⟨Nat.le_of_ble_eq_true rfl, Nat.le_of_ble_eq_true rfl⟩ rfl dX1_countAdded_18 (fun r_18 e_18 => ?_)
        have e_18 : r_18 = b2 (addP st f t k) := e_18
        subst e_18
        refine r_if_eqB (tgt := 27) hx hb dX1_countAdded_21 (by decide) (fun c_21 => ?_) (fun c_21 => ?_)
        ·
          refine lv_iinc (v := nI (k + 1)) (lv' := [(4, .int (nI (k + 1))), (3, .int (nI (cntP (fun o => addP st f t o) k))), (0, .ref (q 0)), (1, .int (nI f)), (2, .int (nI t))]) hx hb dX1_countAdded_27 hl (k := 0) rfl (nI_add k 1) (by decide) rfl (fun ls hl => ?_)
          refine lv_goto (tgt := 5) hx hb dX1_countAdded_30 (by decide) ?_
          have hl : lv_has ls 5 [(4, .int (nI (k + 1))), (3, .int (nI (cntP (fun o => addP st f t o) k))), (0, .ref (q 0)), (1, .int (nI f)), (2, .int (nI t))] := lv_sub hl [0, 1, 2, 3, 4] rfl
          have hl : lv_has ls 5 [(4, .int (nI (k + 1))), (3, .int (nI (cntP (fun o => addP st f t o) (k + 1)))), (0, .ref (q 0)), (1, .int (nI f)), (2, .int (nI t))] := lv_rep hl 1 rfl (congrArg (fun z => Value.int (nI z)) (show cntP (fun o => addP st f t o) k = cntP (fun o => addP st f t o) (k + 1) from by simp only [cntP]; first | rw [if_pos c_21] | rw [if_neg c_21, Nat.add_zero]))
          exact ih_5 (k + 1) (by omega) (by omega) ls hl
        ·
          refine lv_iinc (v := nI ((cntP (fun o => addP st f t o) k) + 1)) (lv' := [(3, .int (nI ((cntP (fun o => addP st f t o) k) + 1))), (4, .int (nI k)), (0, .ref (q 0)), (1, .int (nI f)), (2, .int (nI t))]) hx hb dX1_countAdded_24 hl (k := 1) rfl (nI_add (cntP (fun o => addP st f t o) k) 1) (by decide) rfl (fun ls hl => ?_)
          refine lv_iinc (v := nI (k + 1)) (lv' := [(4, .int (nI (k + 1))), (3, .int (nI ((cntP (fun o => addP st f t o) k) + 1))), (0, .ref (q 0)), (1, .int (nI f)), (2, .int (nI t))]) hx hb dX1_countAdded_27 hl (k := 1) rfl (nI_add k 1) (by decide) rfl (fun ls hl => ?_)
          refine lv_goto (tgt := 5) hx hb dX1_countAdded_30 (by decide) ?_
          have hl : lv_has ls 5 [(4, .int (nI (k + 1))), (3, .int (nI ((cntP (fun o => addP st f t o) k) + 1))), (0, .ref (q 0)), (1, .int (nI f)), (2, .int (nI t))] := lv_sub hl [0, 1, 2, 3, 4] rfl
          have hl : lv_has ls 5 [(4, .int (nI (k + 1))), (3, .int (nI (cntP (fun o => addP st f t o) (k + 1)))), (0, .ref (q 0)), (1, .int (nI f)), (2, .int (nI t))] := lv_rep hl 1 rfl (congrArg (fun z => Value.int (nI z)) (show (cntP (fun o => addP st f t o) k) + 1 = cntP (fun o => addP st f t o) (k + 1) from by simp only [cntP]; first | rw [if_pos c_21] | rw [if_neg c_21, Nat.add_zero]))
          exact ih_5 (k + 1) (by omega) (by omega) ls hl
  have hl : lv_has ls 5 [(4, .int (nI 0)), (3, .int (nI 0)), (0, .ref (q 0)), (1, .int (nI f)), (2, .int (nI t))] := lv_sub hl [0, 1, 2, 3, 4] rfl
  have hl : lv_has ls 5 [(4, .int (nI 0)), (3, .int (nI (cntP (fun o => addP st f t o) 0))), (0, .ref (q 0)), (1, .int (nI f)), (2, .int (nI t))] := lv_rep hl 1 rfl (congrArg (fun z => Value.int (nI z)) (show 0 = cntP (fun o => addP st f t o) 0 from rfl))
  exact L5_1 (480 + 1) (0) (by omega) (by omega) ls hl
abbrev rmX1_countRemoved : Room := { frames := 2, cells := 0, slots := 0, locals := 46 }
set_option maxHeartbeats 4000000 in
set_option maxRecDepth 100000 in
theorem c_X1_countRemoved (l : Launch) (D : va_G) (cI : ClassId) (q : Nat → Nat) (st : St) (f t : Nat) (hf4 : f < 4) (ht4 : t < 4) : MQi l yX1_countRemoved wsX1_countRemoved rmX1_countRemoved [.ref (q 0), .int (nI f), .int (nI t)] D [(cI, .int)] (wS cI q st) (fun rz => rz = nI (cntP (fun o => remP st f t o) 480)) := by
  refine met_q (own := RX1) (cc := cX1_countRemoved) (maxL := 5) (ty := .int) (by decide) rfl rfl (Nat.le_of_ble_eq_true rfl) ?_
  intro p e s m args below meth c Q S hq hE ls hl
  obtain ⟨hx, hb, hml, hown, hts⟩ := id S
  have hl : lv_has ls 5 [(0, .ref (q 0)), (1, .int (nI f)), (2, .int (nI t))] := hl
  refine lv_iconst (v := nI 0) hx hb dX1_countRemoved_0 kc_iconst_0 ?_
  refine lv_istore_n (lv' := [(3, .int (nI 0)), (0, .ref (q 0)), (1, .int (nI f)), (2, .int (nI t))]) hx hb dX1_countRemoved_1 rfl hl (by decide) rfl (fun ls hl => ?_)
  refine lv_iconst (v := nI 0) hx hb dX1_countRemoved_2 kc_iconst_0 ?_
  refine lv_istore (lv' := [(4, .int (nI 0)), (3, .int (nI 0)), (0, .ref (q 0)), (1, .int (nI f)), (2, .int (nI t))]) hx hb dX1_countRemoved_3 hl (by decide) rfl (fun ls hl => ?_)
  have L5_1 : ∀ (fu_2 k : Nat), k ≤ 480 → 480 - k < fu_2 → ∀ ls : Array Slot, lv_has ls 5 [(4, .int (nI k)), (3, .int (nI (cntP (fun o => remP st f t o) k))), (0, .ref (q 0)), (1, .int (nI f)), (2, .int (nI t))] → W p l e rmX1_countRemoved s m args below meth c s.heap [] 0 0 Q (F0 m 5 ls []) := by
    intro fu_2
    induction fu_2 with
    | zero => intro k _ h9; exact absurd h9 (Nat.not_lt_zero _)
    | succ fu_2 ih_5 =>
      intro k hk_5 hf_5 ls hl
      refine lv_iload hx hb dX1_countRemoved_5 (lv_at hl 0 rfl) ?_
      refine lv_sipush (v := nI 480) hx hb dX1_countRemoved_7 kc_sipush_480 ?_
      refine r_icmp_geN (tgt := 33) hx hb (by omega) (by omega) dX1_countRemoved_10 (by decide) (fun c_10 => ?_) (fun c_10 => ?_)
      ·
        refine lv_iload_n hx hb dX1_countRemoved_33 rfl (lv_at hl 1 rfl) ?_
        exact hE dX1_countRemoved_34 (rfl) (show nI (cntP (fun o => remP st f t o) k) = nI (cntP (fun o => remP st f t o) 480) from by rw [show k = 480 by omega])
      ·
        refine lv_aload_n hx hb dX1_countRemoved_13 rfl (lv_at hl 2 rfl) ?_
        refine lv_iload_n hx hb dX1_countRemoved_14 rfl (lv_at hl 3 rfl) ?_
        refine lv_iload_n hx hb dX1_countRemoved_15 rfl (lv_at hl 4 rfl) ?_
        refine lv_iload hx hb dX1_countRemoved_16 (lv_at hl 0 rfl) ?_
        refine cq_V (As := [.int (nI f), .int (nI t), .int (nI k)]) (rest := []) S (c_X1_isRemoved l D (cI := cI) (q := q) (st := st) (f := f) (t := t) (o := k) (hf4 := by omega) (ht4 := by omega) (ho := by omega)) (cwV 3 hts gX1_countRemoved_X1_isRemoved rfl rfl rfl (by decide +kernel) ⟨Nat.le_of_ble_eq_true rfl, Nat.le_of_ble_eq_true rfl⟩) (hq.sub [0, 1, 2, 3, 4, 5, 6] [0] rfl rfl) 0 rfl rfl rfl hl.1 (Nat.le_of_ble_eq_true rfl) ⟨Nat.le_of_ble_eq_true rfl, Nat.le_of_ble_eq_true rfl⟩ rfl dX1_countRemoved_18 (fun r_18 e_18 => ?_)
        have e_18 : r_18 = b2 (remP st f t k) := e_18
        subst e_18
        refine r_if_eqB (tgt := 27) hx hb dX1_countRemoved_21 (by decide) (fun c_21 => ?_) (fun c_21 => ?_)
        ·
          refine lv_iinc (v := nI (k + 1)) (lv' := [(4, .int (nI (k + 1))), (3, .int (nI (cntP (fun o => remP st f t o) k))), (0, .ref (q 0)), (1, .int (nI f)), (2, .int (nI t))]) hx hb dX1_countRemoved_27 hl (k := 0) rfl (nI_add k 1) (by decide) rfl (fun ls hl => ?_)
          refine lv_goto (tgt := 5) hx hb dX1_countRemoved_30 (by decide) ?_
          have hl : lv_has ls 5 [(4, .int (nI (k + 1))), (3, .int (nI (cntP (fun o => remP st f t o) k))), (0, .ref (q 0)), (1, .int (nI f)), (2, .int (nI t))] := lv_sub hl [0, 1, 2, 3, 4] rfl
          have hl : lv_has ls 5 [(4, .int (nI (k + 1))), (3, .int (nI (cntP (fun o => remP st f t o) (k + 1)))), (0, .ref (q 0)), (1, .int (nI f)), (2, .int (nI t))] := lv_rep hl 1 rfl (congrArg (fun z => Value.int (nI z)) (show cntP (fun o => remP st f t o) k = cntP (fun o => remP st f t o) (k + 1) from by simp only [cntP]; first | rw [if_pos c_21] | rw [if_neg c_21, Nat.add_zero]))
          exact ih_5 (k + 1) (by omega) (by omega) ls hl
        ·
          refine lv_iinc (v := nI ((cntP (fun o => remP st f t o) k) + 1)) (lv' := [(3, .int (nI ((cntP (fun o => remP st f t o) k) + 1))), (4, .int (nI k)), (0, .ref (q 0)), (1, .int (nI f)), (2, .int (nI t))]) hx hb dX1_countRemoved_24 hl (k := 1) rfl (nI_add (cntP (fun o => remP st f t o) k) 1) (by decide) rfl (fun ls hl => ?_)
          refine lv_iinc (v := nI (k + 1)) (lv' := [(4, .int (nI (k + 1))), (3, .int (nI ((cntP (fun o => remP st f t o) k) + 1))), (0, .ref (q 0)), (1, .int (nI f)), (2, .int (nI t))]) hx hb dX1_countRemoved_27 hl (k := 1) rfl (nI_add k 1) (by decide) rfl (fun ls hl => ?_)
          refine lv_goto (tgt := 5) hx hb dX1_countRemoved_30 (by decide) ?_
          have hl : lv_has ls 5 [(4, .int (nI (k + 1))), (3, .int (nI ((cntP (fun o => remP st f t o) k) + 1))), (0, .ref (q 0)), (1, .int (nI f)), (2, .int (nI t))] := lv_sub hl [0, 1, 2, 3, 4] rfl
          have hl : lv_has ls 5 [(4, .int (nI (k + 1))), (3, .int (nI (cntP (fun o => remP st f t o) (k + 1)))), (0, .ref (q 0)), (1, .int (nI f)), (2, .int (nI t))] := lv_rep hl 1 rfl (congrArg (fun z => Value.int (nI z)) (show (cntP (fun o => remP st f t o) k) + 1 = cntP (fun o => remP st f t o) (k + 1) from by simp only [cntP]; first | rw [if_pos c_21] | rw [if_neg c_21, Nat.add_zero]))
          exact ih_5 (k + 1) (by omega) (by omega) ls hl
  have hl : lv_has ls 5 [(4, .int (nI 0)), (3, .int (nI 0)), (0, .ref (q 0)), (1, .int (nI f)), (2, .int (nI t))] := lv_sub hl [0, 1, 2, 3, 4] rfl
  have hl : lv_has ls 5 [(4, .int (nI 0)), (3, .int (nI (cntP (fun o => remP st f t o) 0))), (0, .ref (q 0)), (1, .int (nI f)), (2, .int (nI t))] := lv_rep hl 1 rfl (congrArg (fun z => Value.int (nI z)) (show 0 = cntP (fun o => remP st f t o) 0 from rfl))
  exact L5_1 (480 + 1) (0) (by omega) (by omega) ls hl
abbrev rmX1_mergeSlot : Room := { frames := 2, cells := 0, slots := 0, locals := 46 }
set_option maxHeartbeats 4000000 in
set_option maxRecDepth 100000 in
theorem c_X1_mergeSlot (l : Launch) (D : va_G) (sz : Nat) (cI : ClassId) (q : Nat → Nat) (st : St) (f t o : Nat) (hf4 : f < 4) (ht4 : t < 4) (ho : o < 480) : MUv l yX1_mergeSlot wsX1_mergeSlot rmX1_mergeSlot [.ref (q 0), .int (nI f), .int (nI t), .int (nI o)] D [(cI, .int)] (wS cI q st) sz (fun (_ : Unit) => True) (fun _ => []) (fun _ => wS cI q (mSlot st f t o)) 0 0 := by
  refine met_v (own := RX1) (cc := cX1_mergeSlot) (maxL := 6) (by decide) rfl rfl (Nat.le_of_ble_eq_true rfl) ?_
  intro p e s m args below meth c Q A hsz S hmn hw hA hE ls hl
  obtain ⟨hx, hb, hml, hown, hts⟩ := id S
  have k11 := hts (.fieldLink RX1 11 "CausalTable$State" "numbers" "[I") (by decide +kernel)
  have hin1 := (show ∀ w ∈ wsX10, w ∈ wsX1_mergeSlot by decide +kernel)
  have k15 := hts (.fieldLink RX1 15 "CausalTable$State" "stamps" "[I") (by decide +kernel)
  have k18 := hts (.fieldLink RX1 18 "CausalTable$State" "values" "[I") (by decide +kernel)
  have hl : lv_has ls 6 [(0, .ref (q 0)), (1, .int (nI f)), (2, .int (nI t)), (3, .int (nI o))] := hl
  refine lv_iload_n hx hb dX1_mergeSlot_0 rfl (lv_at hl 1 rfl) ?_
  refine lv_sipush (v := nI 480) hx hb dX1_mergeSlot_1 kc_sipush_480 ?_
  refine r_mulN hx hb dX1_mergeSlot_4 ?_
  refine lv_iload_n hx hb dX1_mergeSlot_5 rfl (lv_at hl 3 rfl) ?_
  refine r_addN hx hb dX1_mergeSlot_6 ?_
  refine lv_istore (lv' := [(4, .int (nI ((f * 480) + o))), (0, .ref (q 0)), (1, .int (nI f)), (2, .int (nI t)), (3, .int (nI o))]) hx hb dX1_mergeSlot_7 hl (by decide) rfl (fun ls hl => ?_)
  refine lv_iload_n hx hb dX1_mergeSlot_9 rfl (lv_at hl 3 rfl) ?_
  refine lv_sipush (v := nI 480) hx hb dX1_mergeSlot_10 kc_sipush_480 ?_
  refine r_mulN hx hb dX1_mergeSlot_13 ?_
  refine lv_iload_n hx hb dX1_mergeSlot_14 rfl (lv_at hl 4 rfl) ?_
  refine r_addN hx hb dX1_mergeSlot_15 ?_
  refine lv_istore (lv' := [(5, .int (nI ((t * 480) + o))), (4, .int (nI ((f * 480) + o))), (0, .ref (q 0)), (1, .int (nI f)), (2, .int (nI t)), (3, .int (nI o))]) hx hb dX1_mergeSlot_16 hl (by decide) rfl (fun ls hl => ?_)
  refine lv_aload_n hx hb dX1_mergeSlot_18 rfl (lv_at hl 2 rfl) ?_
  refine lv_iload_n hx hb dX1_mergeSlot_19 rfl (lv_at hl 3 rfl) ?_
  refine lv_iload_n hx hb dX1_mergeSlot_20 rfl (lv_at hl 4 rfl) ?_
  refine lv_iload_n hx hb dX1_mergeSlot_21 rfl (lv_at hl 5 rfl) ?_
  refine cq_V (As := [.int (nI f), .int (nI t), .int (nI o)]) (rest := []) S (c_X1_isAdded l D (cI := cI) (q := q) (st := st) (f := f) (t := t) (o := o) (hf4 := by omega) (ht4 := by omega) (ho := by omega)) (cwV 3 hts gX1_mergeSlot_X1_isAdded rfl rfl rfl (by decide +kernel) ⟨Nat.le_of_ble_eq_true rfl, Nat.le_of_ble_eq_true rfl⟩) (hw.q.sub [0, 1, 2, 3, 4, 5, 6] [0] rfl rfl) 0 rfl rfl rfl hl.1 (Nat.le_of_ble_eq_true rfl) ⟨Nat.le_of_ble_eq_true rfl, Nat.le_of_ble_eq_true rfl⟩ rfl dX1_mergeSlot_22 (fun r_22 e_22 => ?_)
  have e_22 : r_22 = b2 (addP st f t o) := e_22
  subst e_22
  refine r_if_eqB (tgt := 73) hx hb dX1_mergeSlot_25 (by decide) (fun c_25 => ?_) (fun c_25 => ?_)
  ·
    refine lv_aload_n hx hb dX1_mergeSlot_73 rfl (lv_at hl 2 rfl) ?_
    refine lv_iload_n hx hb dX1_mergeSlot_74 rfl (lv_at hl 3 rfl) ?_
    refine lv_iload_n hx hb dX1_mergeSlot_75 rfl (lv_at hl 4 rfl) ?_
    refine lv_iload_n hx hb dX1_mergeSlot_76 rfl (lv_at hl 5 rfl) ?_
    refine cq_V (As := [.int (nI f), .int (nI t), .int (nI o)]) (rest := []) S (c_X1_isRemoved l D (cI := cI) (q := q) (st := st) (f := f) (t := t) (o := o) (hf4 := by omega) (ht4 := by omega) (ho := by omega)) (cwV 3 hts gX1_mergeSlot_X1_isRemoved rfl rfl rfl (by decide +kernel) ⟨Nat.le_of_ble_eq_true rfl, Nat.le_of_ble_eq_true rfl⟩) (hw.q.sub [0, 1, 2, 3, 4, 5, 6] [0] rfl rfl) 0 rfl rfl rfl hl.1 (Nat.le_of_ble_eq_true rfl) ⟨Nat.le_of_ble_eq_true rfl, Nat.le_of_ble_eq_true rfl⟩ rfl dX1_mergeSlot_77 (fun r_77 e_77 => ?_)
    have e_77 : r_77 = b2 (remP st f t o) := e_77
    subst e_77
    refine r_if_eqB (tgt := 91) hx hb dX1_mergeSlot_80 (by decide) (fun c_80 => ?_) (fun c_80 => ?_)
    ·
      have ew : (wS cI q st) = (wS cI q (mSlot st f t o)) := by first | rw [mSlot, if_pos c_25] | rw [mSlot, if_neg c_25, if_pos c_80] | rw [mSlot, if_neg c_25, if_neg c_80]
      rw [ew] at hw
      exact hE () dX1_mergeSlot_91 (Nat.le_of_ble_eq_true rfl) (Nat.le_of_ble_eq_true rfl) (hw.sub [0, 1, 2, 3, 4, 5, 6] [] (by decide) rfl rfl) trivial
    ·
      refine lv_aload_n hx hb dX1_mergeSlot_83 rfl (lv_at hl 2 rfl) ?_
      refine r_get hx hb hts hown hw.q 0 0 hin1 rfl rfl (by decide) k11 rfl dX1_mergeSlot_84 ?_
      refine lv_iload hx hb dX1_mergeSlot_87 (lv_at hl 0 rfl) ?_
      refine lv_iconst (v := nI 0) hx hb dX1_mergeSlot_89 kc_iconst_0 ?_
      refine r_ast hx hb hw 1 0 rfl rfl (i := (t * 480) + o) (by omega) (by decide) dX1_mergeSlot_90 (fun H locs hw => ?_)
      have hw : Wd D A [(cI, .int)] (wS cI q (upd st.1 ((t * 480) + o) (nI 0), st.2.1, st.2.2.1, st.2.2.2.1, st.2.2.2.2.1, st.2.2.2.2.2)) s s.heap H locs := hw
      have ew : (wS cI q (upd st.1 ((t * 480) + o) (nI 0), st.2.1, st.2.2.1, st.2.2.2.1, st.2.2.2.2.1, st.2.2.2.2.2)) = (wS cI q (mSlot st f t o)) := by first | rw [mSlot, if_pos c_25] | rw [mSlot, if_neg c_25, if_pos c_80] | rw [mSlot, if_neg c_25, if_neg c_80]
      rw [ew] at hw
      exact hE () dX1_mergeSlot_91 (Nat.le_of_ble_eq_true rfl) (Nat.le_of_ble_eq_true rfl) (hw.sub [0, 1, 2, 3, 4, 5, 6] [] (by decide) rfl rfl) trivial
  ·
    refine lv_aload_n hx hb dX1_mergeSlot_28 rfl (lv_at hl 2 rfl) ?_
    refine r_get hx hb hts hown hw.q 0 0 hin1 rfl rfl (by decide) k11 rfl dX1_mergeSlot_29 ?_
    refine lv_iload hx hb dX1_mergeSlot_32 (lv_at hl 0 rfl) ?_
    refine lv_aload_n hx hb dX1_mergeSlot_34 rfl (lv_at hl 2 rfl) ?_
    refine r_get hx hb hts hown hw.q 0 0 hin1 rfl rfl (by decide) k11 rfl dX1_mergeSlot_35 ?_
    refine lv_iload hx hb dX1_mergeSlot_38 (lv_at hl 1 rfl) ?_
    refine r_ald hx hb hw.q 1 0 rfl rfl (i := (f * 480) + o) (by omega) (by decide) dX1_mergeSlot_40 ?_
    refine r_ast hx hb hw 1 0 rfl rfl (i := (t * 480) + o) (by omega) (by decide) dX1_mergeSlot_41 (fun H locs hw => ?_)
    have hw : Wd D A [(cI, .int)] (wS cI q (upd st.1 ((t * 480) + o) (st.1 ((f * 480) + o)), st.2.1, st.2.2.1, st.2.2.2.1, st.2.2.2.2.1, st.2.2.2.2.2)) s s.heap H locs := hw
    refine lv_aload_n hx hb dX1_mergeSlot_42 rfl (lv_at hl 2 rfl) ?_
    refine r_get hx hb hts hown hw.q 0 1 hin1 rfl rfl (by decide) k15 rfl dX1_mergeSlot_43 ?_
    refine lv_iload hx hb dX1_mergeSlot_46 (lv_at hl 0 rfl) ?_
    refine lv_aload_n hx hb dX1_mergeSlot_48 rfl (lv_at hl 2 rfl) ?_
    refine r_get hx hb hts hown hw.q 0 1 hin1 rfl rfl (by decide) k15 rfl dX1_mergeSlot_49 ?_
    refine lv_iload hx hb dX1_mergeSlot_52 (lv_at hl 1 rfl) ?_
    refine r_ald hx hb hw.q 2 0 rfl rfl (i := (f * 480) + o) (by omega) (by decide) dX1_mergeSlot_54 ?_
    refine r_ast hx hb hw 2 0 rfl rfl (i := (t * 480) + o) (by omega) (by decide) dX1_mergeSlot_55 (fun H locs hw => ?_)
    have hw : Wd D A [(cI, .int)] (wS cI q (upd st.1 ((t * 480) + o) (st.1 ((f * 480) + o)), upd st.2.1 ((t * 480) + o) (st.2.1 ((f * 480) + o)), st.2.2.1, st.2.2.2.1, st.2.2.2.2.1, st.2.2.2.2.2)) s s.heap H locs := hw
    refine lv_aload_n hx hb dX1_mergeSlot_56 rfl (lv_at hl 2 rfl) ?_
    refine r_get hx hb hts hown hw.q 0 2 hin1 rfl rfl (by decide) k18 rfl dX1_mergeSlot_57 ?_
    refine lv_iload hx hb dX1_mergeSlot_60 (lv_at hl 0 rfl) ?_
    refine lv_aload_n hx hb dX1_mergeSlot_62 rfl (lv_at hl 2 rfl) ?_
    refine r_get hx hb hts hown hw.q 0 2 hin1 rfl rfl (by decide) k18 rfl dX1_mergeSlot_63 ?_
    refine lv_iload hx hb dX1_mergeSlot_66 (lv_at hl 1 rfl) ?_
    refine r_ald hx hb hw.q 3 0 rfl rfl (i := (f * 480) + o) (by omega) (by decide) dX1_mergeSlot_68 ?_
    refine r_ast hx hb hw 3 0 rfl rfl (i := (t * 480) + o) (by omega) (by decide) dX1_mergeSlot_69 (fun H locs hw => ?_)
    have hw : Wd D A [(cI, .int)] (wS cI q (upd st.1 ((t * 480) + o) (st.1 ((f * 480) + o)), upd st.2.1 ((t * 480) + o) (st.2.1 ((f * 480) + o)), upd st.2.2.1 ((t * 480) + o) (st.2.2.1 ((f * 480) + o)), st.2.2.2.1, st.2.2.2.2.1, st.2.2.2.2.2)) s s.heap H locs := hw
    refine lv_goto (tgt := 91) hx hb dX1_mergeSlot_70 (by decide) ?_
    have ew : (wS cI q (upd st.1 ((t * 480) + o) (st.1 ((f * 480) + o)), upd st.2.1 ((t * 480) + o) (st.2.1 ((f * 480) + o)), upd st.2.2.1 ((t * 480) + o) (st.2.2.1 ((f * 480) + o)), st.2.2.2.1, st.2.2.2.2.1, st.2.2.2.2.2)) = (wS cI q (mSlot st f t o)) := by first | rw [mSlot, if_pos c_25] | rw [mSlot, if_neg c_25, if_pos c_80] | rw [mSlot, if_neg c_25, if_neg c_80]
    rw [ew] at hw
    exact hE () dX1_mergeSlot_91 (Nat.le_of_ble_eq_true rfl) (Nat.le_of_ble_eq_true rfl) (hw.sub [0, 1, 2, 3, 4, 5, 6] [] (by decide) rfl rfl) trivial
abbrev rmX1_mergeKnowledge : Room := { frames := 1, cells := 0, slots := 0, locals := 22 }
set_option maxHeartbeats 4000000 in
set_option maxRecDepth 100000 in
theorem c_X1_mergeKnowledge (l : Launch) (D : va_G) (sz : Nat) (cI : ClassId) (q : Nat → Nat) (st : St) (f t : Nat) (hf4 : f < 4) (ht4 : t < 4) : MUv l yX1_mergeKnowledge wsX1_mergeKnowledge rmX1_mergeKnowledge [.ref (q 0), .int (nI f), .int (nI t)] D [(cI, .int)] (wS cI q st) sz (fun (_ : Unit) => True) (fun _ => []) (fun _ => wS cI q (mKn st f t)) 0 0 := by
  refine met_v (own := RX1) (cc := cX1_mergeKnowledge) (maxL := 4) (by decide) rfl rfl (Nat.le_of_ble_eq_true rfl) ?_
  intro p e s m args below meth c Q A hsz S hmn hw hA hE ls hl
  obtain ⟨hx, hb, hml, hown, hts⟩ := id S
  have k24 := hts (.fieldLink RX1 24 "CausalTable$State" "clocks" "[I") (by decide +kernel)
  have hin1 := (show ∀ w ∈ wsX10, w ∈ wsX1_mergeKnowledge by decide +kernel)
  have mm0 := hts (.methodLink RX1 57 Lib.Math.max.name) (by decide +kernel)
  have mm1 := hts (.static Lib.Math.max.name) (by decide +kernel)
  have mm2 := hts (.initialized "java/lang/Math") (by decide +kernel)
  have mm3 := hts (.code Lib.Math.max.name Lib.Math.max.code 2 (some .int)) (by decide +kernel)
  have k21 := hts (.fieldLink RX1 21 "CausalTable$State" "seenNumbers" "[I") (by decide +kernel)
  have hl : lv_has ls 4 [(0, .ref (q 0)), (1, .int (nI f)), (2, .int (nI t))] := hl
  refine lv_iconst (v := nI 0) hx hb dX1_mergeKnowledge_0 kc_iconst_0 ?_
  refine lv_istore_n (lv' := [(3, .int (nI 0)), (0, .ref (q 0)), (1, .int (nI f)), (2, .int (nI t))]) hx hb dX1_mergeKnowledge_1 rfl hl (by decide) rfl (fun ls hl => ?_)
  have L2_1 : ∀ (fu_2 k : Nat), k ≤ 4 → 4 - k < fu_2 → ∀ (H : Heap) (locs : List Loc), Wd D A [(cI, .int)] (wS cI q (st.1, st.2.1, st.2.2.1, knE st.2.2.2.1 f t k, st.2.2.2.2.1, st.2.2.2.2.2)) s s.heap H locs → ∀ ls : Array Slot, lv_has ls 4 [(3, .int (nI k)), (0, .ref (q 0)), (1, .int (nI f)), (2, .int (nI t))] → W p l e rmX1_mergeKnowledge s m args below meth c H locs 0 0 Q (F0 m 2 ls []) := by
    intro fu_2
    induction fu_2 with
    | zero => intro k _ h9; exact absurd h9 (Nat.not_lt_zero _)
    | succ fu_2 ih_2 =>
      intro k hk_2 hf_2 H locs hw ls hl
      refine lv_iload_n hx hb dX1_mergeKnowledge_2 rfl (lv_at hl 0 rfl) ?_
      refine lv_iconst (v := nI 4) hx hb dX1_mergeKnowledge_3 kc_iconst_4 ?_
      refine r_icmp_geN (tgt := 38) hx hb (by omega) (by omega) dX1_mergeKnowledge_4 (by decide) (fun c_4 => ?_) (fun c_4 => ?_)
      ·
        refine lv_aload_n hx hb dX1_mergeKnowledge_38 rfl (lv_at hl 1 rfl) ?_
        refine r_get hx hb hts hown hw.q 0 4 hin1 rfl rfl (by decide) k24 rfl dX1_mergeKnowledge_39 ?_
        refine lv_iload_n hx hb dX1_mergeKnowledge_42 rfl (lv_at hl 3 rfl) ?_
        refine lv_aload_n hx hb dX1_mergeKnowledge_43 rfl (lv_at hl 1 rfl) ?_
        refine r_get hx hb hts hown hw.q 0 4 hin1 rfl rfl (by decide) k24 rfl dX1_mergeKnowledge_44 ?_
        refine lv_iload_n hx hb dX1_mergeKnowledge_47 rfl (lv_at hl 2 rfl) ?_
        refine r_ald hx hb hw.q 5 0 rfl rfl (i := f) (by omega) (by decide) dX1_mergeKnowledge_48 ?_
        refine lv_aload_n hx hb dX1_mergeKnowledge_49 rfl (lv_at hl 1 rfl) ?_
        refine r_get hx hb hts hown hw.q 0 4 hin1 rfl rfl (by decide) k24 rfl dX1_mergeKnowledge_50 ?_
        refine lv_iload_n hx hb dX1_mergeKnowledge_53 rfl (lv_at hl 3 rfl) ?_
        refine r_ald hx hb hw.q 5 0 rfl rfl (i := t) (by omega) (by decide) dX1_mergeKnowledge_54 ?_
        refine va_mmax hx hb (hml.trans hl.1.symm) hown mm0 mm1 mm2 mm3 (Nat.le_of_ble_eq_true rfl) (Nat.le_of_ble_eq_true rfl) (Nat.le_of_ble_eq_true rfl) (Nat.le_of_ble_eq_true rfl) dX1_mergeKnowledge_55 ?_
        refine r_top hx (show (if st.2.2.2.2.1 f < st.2.2.2.2.1 t then st.2.2.2.2.1 t else st.2.2.2.2.1 f) = mx (st.2.2.2.2.1 f) (st.2.2.2.2.1 t) from rfl) ?_
        refine r_ast hx hb hw 5 0 rfl rfl (i := t) (by omega) (by decide) dX1_mergeKnowledge_58 (fun H locs hw => ?_)
        have hw : Wd D A [(cI, .int)] (wS cI q (st.1, st.2.1, st.2.2.1, knE st.2.2.2.1 f t k, upd st.2.2.2.2.1 t (mx (st.2.2.2.2.1 f) (st.2.2.2.2.1 t)), st.2.2.2.2.2)) s s.heap H locs := hw
        have ew : (wS cI q (st.1, st.2.1, st.2.2.1, knE st.2.2.2.1 f t k, upd st.2.2.2.2.1 t (mx (st.2.2.2.2.1 f) (st.2.2.2.2.1 t)), st.2.2.2.2.2)) = (wS cI q (mKn st f t)) := by rw [show k = 4 by omega]; rfl
        rw [ew] at hw
        exact hE () dX1_mergeKnowledge_59 (Nat.le_of_ble_eq_true rfl) (Nat.le_of_ble_eq_true rfl) (hw.sub [0, 1, 2, 3, 4, 5, 6] [] (by decide) rfl rfl) trivial
      ·
        refine lv_aload_n hx hb dX1_mergeKnowledge_7 rfl (lv_at hl 1 rfl) ?_
        refine r_get hx hb hts hown hw.q 0 3 hin1 rfl rfl (by decide) k21 rfl dX1_mergeKnowledge_8 ?_
        refine lv_iload_n hx hb dX1_mergeKnowledge_11 rfl (lv_at hl 3 rfl) ?_
        refine lv_iconst (v := nI 4) hx hb dX1_mergeKnowledge_12 kc_iconst_4 ?_
        refine r_mulN hx hb dX1_mergeKnowledge_13 ?_
        refine lv_iload_n hx hb dX1_mergeKnowledge_14 rfl (lv_at hl 0 rfl) ?_
        refine r_addN hx hb dX1_mergeKnowledge_15 ?_
        refine lv_aload_n hx hb dX1_mergeKnowledge_16 rfl (lv_at hl 1 rfl) ?_
        refine lv_iload_n hx hb dX1_mergeKnowledge_17 rfl (lv_at hl 2 rfl) ?_
        refine lv_iload_n hx hb dX1_mergeKnowledge_18 rfl (lv_at hl 0 rfl) ?_
        refine cq_V (As := [.int (nI f), .int (nI k)]) (rest := [.int (nI ((t * 4) + k)), .ref (q 4)]) S (c_X1_seenNumber l D (cI := cI) (q := q) (st := (st.1, st.2.1, st.2.2.1, knE st.2.2.2.1 f t k, st.2.2.2.2.1, st.2.2.2.2.2)) (a := f) (b := k) (ha := by omega) (hb4 := by omega)) (cwV 2 hts gX1_mergeKnowledge_X1_seenNumber rfl rfl rfl (by decide +kernel) ⟨Nat.le_of_ble_eq_true rfl, Nat.le_of_ble_eq_true rfl⟩) (hw.q.sub [0, 1, 2, 3, 4, 5, 6] [0] rfl rfl) 0 rfl rfl rfl hl.1 (Nat.le_of_ble_eq_true rfl) ⟨Nat.le_of_ble_eq_true rfl, Nat.le_of_ble_eq_true rfl⟩ rfl dX1_mergeKnowledge_19 (fun r_19 e_19 => ?_)
        have e_19 : r_19 = (st.1, st.2.1, st.2.2.1, knE st.2.2.2.1 f t k, st.2.2.2.2.1, st.2.2.2.2.2).2.2.2.1 (f * 4 + k) := e_19
        subst e_19
        refine lv_aload_n hx hb dX1_mergeKnowledge_22 rfl (lv_at hl 1 rfl) ?_
        refine lv_iload_n hx hb dX1_mergeKnowledge_23 rfl (lv_at hl 3 rfl) ?_
        refine lv_iload_n hx hb dX1_mergeKnowledge_24 rfl (lv_at hl 0 rfl) ?_
        refine cq_V (As := [.int (nI t), .int (nI k)]) (rest := [.int ((st.1, st.2.1, st.2.2.1, knE st.2.2.2.1 f t k, st.2.2.2.2.1, st.2.2.2.2.2).2.2.2.1 (f * 4 + k)), .int (nI ((t * 4) + k)), .ref (q 4)]) S (c_X1_seenNumber l D (cI := cI) (q := q) (st := (st.1, st.2.1, st.2.2.1, knE st.2.2.2.1 f t k, st.2.2.2.2.1, st.2.2.2.2.2)) (a := t) (b := k) (ha := by omega) (hb4 := by omega)) (cwV 2 hts gX1_mergeKnowledge_X1_seenNumber rfl rfl rfl (by decide +kernel) ⟨Nat.le_of_ble_eq_true rfl, Nat.le_of_ble_eq_true rfl⟩) (hw.q.sub [0, 1, 2, 3, 4, 5, 6] [0] rfl rfl) 0 rfl rfl rfl hl.1 (Nat.le_of_ble_eq_true rfl) ⟨Nat.le_of_ble_eq_true rfl, Nat.le_of_ble_eq_true rfl⟩ rfl dX1_mergeKnowledge_25 (fun r_25 e_25 => ?_)
        have e_25 : r_25 = (st.1, st.2.1, st.2.2.1, knE st.2.2.2.1 f t k, st.2.2.2.2.1, st.2.2.2.2.2).2.2.2.1 (t * 4 + k) := e_25
        subst e_25
        refine va_mmax hx hb (hml.trans hl.1.symm) hown mm0 mm1 mm2 mm3 (Nat.le_of_ble_eq_true rfl) (Nat.le_of_ble_eq_true rfl) (Nat.le_of_ble_eq_true rfl) (Nat.le_of_ble_eq_true rfl) dX1_mergeKnowledge_28 ?_
        refine r_top hx (show (if (st.1, st.2.1, st.2.2.1, knE st.2.2.2.1 f t k, st.2.2.2.2.1, st.2.2.2.2.2).2.2.2.1 (f * 4 + k) < (st.1, st.2.1, st.2.2.1, knE st.2.2.2.1 f t k, st.2.2.2.2.1, st.2.2.2.2.2).2.2.2.1 (t * 4 + k) then (st.1, st.2.1, st.2.2.1, knE st.2.2.2.1 f t k, st.2.2.2.2.1, st.2.2.2.2.2).2.2.2.1 (t * 4 + k) else (st.1, st.2.1, st.2.2.1, knE st.2.2.2.1 f t k, st.2.2.2.2.1, st.2.2.2.2.2).2.2.2.1 (f * 4 + k)) = mx ((st.1, st.2.1, st.2.2.1, knE st.2.2.2.1 f t k, st.2.2.2.2.1, st.2.2.2.2.2).2.2.2.1 (f * 4 + k)) ((st.1, st.2.1, st.2.2.1, knE st.2.2.2.1 f t k, st.2.2.2.2.1, st.2.2.2.2.2).2.2.2.1 (t * 4 + k)) from rfl) ?_
        refine r_ast hx hb hw 4 0 rfl rfl (i := (t * 4) + k) (by omega) (by decide) dX1_mergeKnowledge_31 (fun H locs hw => ?_)
        have hw : Wd D A [(cI, .int)] (wS cI q (st.1, st.2.1, st.2.2.1, upd (knE st.2.2.2.1 f t k) ((t * 4) + k) (mx ((st.1, st.2.1, st.2.2.1, knE st.2.2.2.1 f t k, st.2.2.2.2.1, st.2.2.2.2.2).2.2.2.1 (f * 4 + k)) ((st.1, st.2.1, st.2.2.1, knE st.2.2.2.1 f t k, st.2.2.2.2.1, st.2.2.2.2.2).2.2.2.1 (t * 4 + k))), st.2.2.2.2.1, st.2.2.2.2.2)) s s.heap H locs := hw
        refine lv_iinc (v := nI (k + 1)) (lv' := [(3, .int (nI (k + 1))), (0, .ref (q 0)), (1, .int (nI f)), (2, .int (nI t))]) hx hb dX1_mergeKnowledge_32 hl (k := 0) rfl (nI_add k 1) (by decide) rfl (fun ls hl => ?_)
        refine lv_goto (tgt := 2) hx hb dX1_mergeKnowledge_35 (by decide) ?_
        have hl : lv_has ls 4 [(3, .int (nI (k + 1))), (0, .ref (q 0)), (1, .int (nI f)), (2, .int (nI t))] := lv_sub hl [0, 1, 2, 3] rfl
        have hw : Wd D A [(cI, .int)] (wS cI q (st.1, st.2.1, st.2.2.1, knE st.2.2.2.1 f t (k + 1), st.2.2.2.2.1, st.2.2.2.2.2)) s s.heap H locs := Eq.mp (congrArg (fun z9 => Wd D A [(cI, .int)] (wS cI q (st.1, st.2.1, st.2.2.1, z9, st.2.2.2.2.1, st.2.2.2.2.2)) s s.heap H locs) (show upd (knE st.2.2.2.1 f t k) ((t * 4) + k) (mx ((st.1, st.2.1, st.2.2.1, knE st.2.2.2.1 f t k, st.2.2.2.2.1, st.2.2.2.2.2).2.2.2.1 (f * 4 + k)) ((st.1, st.2.1, st.2.2.1, knE st.2.2.2.1 f t k, st.2.2.2.2.1, st.2.2.2.2.2).2.2.2.1 (t * 4 + k))) = knE st.2.2.2.1 f t (k + 1) from rfl)) hw
        exact ih_2 (k + 1) (by omega) (by omega) _ _ hw ls hl
  have hl : lv_has ls 4 [(3, .int (nI 0)), (0, .ref (q 0)), (1, .int (nI f)), (2, .int (nI t))] := lv_sub hl [0, 1, 2, 3] rfl
  have hw : Wd D A [(cI, .int)] (wS cI q (st.1, st.2.1, st.2.2.1, knE st.2.2.2.1 f t 0, st.2.2.2.2.1, st.2.2.2.2.2)) s s.heap s.heap [] := Eq.mp (congrArg (fun z9 => Wd D A [(cI, .int)] (wS cI q (st.1, st.2.1, st.2.2.1, z9, st.2.2.2.2.1, st.2.2.2.2.2)) s s.heap s.heap []) (show st.2.2.2.1 = knE st.2.2.2.1 f t 0 from rfl)) hw
  exact L2_1 (4 + 1) (0) (by omega) (by omega) _ _ hw ls hl
abbrev rmX1_mergeReplica : Room := { frames := 3, cells := 0, slots := 0, locals := 71 }
set_option maxHeartbeats 4000000 in
set_option maxRecDepth 100000 in
theorem c_X1_mergeReplica (l : Launch) (D : va_G) (sz : Nat) (cI : ClassId) (q : Nat → Nat) (st : St) (f t : Nat) (hf4 : f < 4) (ht4 : t < 4) : MUi l yX1_mergeReplica wsX1_mergeReplica rmX1_mergeReplica [.ref (q 0), .int (nI f), .int (nI t)] D [(cI, .int)] (wS cI q st) sz (fun rz (_ : Unit) => rz = nI (cntP (fun o => addP st f t o) 480 + cntP (fun o => remP st f t o) 480)) (fun _ => []) (fun _ => wS cI q (mgS st f t)) 0 0 := by
  refine met_u (own := RX1) (cc := cX1_mergeReplica) (maxL := 6) (ty := .int) (by decide) rfl rfl (Nat.le_of_ble_eq_true rfl) ?_
  intro p e s m args below meth c Q A hsz S hw hA hE ls hl
  obtain ⟨hx, hb, hml, hown, hts⟩ := id S
  have k27 := hts (.fieldLink RX1 27 "CausalTable$State" "mergeResult" "[I") (by decide +kernel)
  have hin1 := (show ∀ w ∈ wsX10, w ∈ wsX1_mergeReplica by decide +kernel)
  have hl : lv_has ls 6 [(0, .ref (q 0)), (1, .int (nI f)), (2, .int (nI t))] := hl
  refine lv_aload_n hx hb dX1_mergeReplica_0 rfl (lv_at hl 0 rfl) ?_
  refine lv_iload_n hx hb dX1_mergeReplica_1 rfl (lv_at hl 1 rfl) ?_
  refine lv_iload_n hx hb dX1_mergeReplica_2 rfl (lv_at hl 2 rfl) ?_
  refine cq_V (As := [.int (nI f), .int (nI t)]) (rest := []) S (c_X1_countAdded l D (cI := cI) (q := q) (st := st) (f := f) (t := t) (hf4 := by omega) (ht4 := by omega)) (cwV 2 hts gX1_mergeReplica_X1_countAdded rfl rfl rfl (by decide +kernel) ⟨Nat.le_of_ble_eq_true rfl, Nat.le_of_ble_eq_true rfl⟩) (hw.q.sub [0, 1, 2, 3, 4, 5, 6] [0] rfl rfl) 0 rfl rfl rfl hl.1 (Nat.le_of_ble_eq_true rfl) ⟨Nat.le_of_ble_eq_true rfl, Nat.le_of_ble_eq_true rfl⟩ rfl dX1_mergeReplica_3 (fun r_3 e_3 => ?_)
  have e_3 : r_3 = nI (cntP (fun o => addP st f t o) 480) := e_3
  subst e_3
  refine lv_istore_n (lv' := [(3, .int (nI (cntP (fun o => addP st f t o) 480))), (0, .ref (q 0)), (1, .int (nI f)), (2, .int (nI t))]) hx hb dX1_mergeReplica_6 rfl hl (by decide) rfl (fun ls hl => ?_)
  refine lv_aload_n hx hb dX1_mergeReplica_7 rfl (lv_at hl 1 rfl) ?_
  refine lv_iload_n hx hb dX1_mergeReplica_8 rfl (lv_at hl 2 rfl) ?_
  refine lv_iload_n hx hb dX1_mergeReplica_9 rfl (lv_at hl 3 rfl) ?_
  refine cq_V (As := [.int (nI f), .int (nI t)]) (rest := []) S (c_X1_countRemoved l D (cI := cI) (q := q) (st := st) (f := f) (t := t) (hf4 := by omega) (ht4 := by omega)) (cwV 2 hts gX1_mergeReplica_X1_countRemoved rfl rfl rfl (by decide +kernel) ⟨Nat.le_of_ble_eq_true rfl, Nat.le_of_ble_eq_true rfl⟩) (hw.q.sub [0, 1, 2, 3, 4, 5, 6] [0] rfl rfl) 0 rfl rfl rfl hl.1 (Nat.le_of_ble_eq_true rfl) ⟨Nat.le_of_ble_eq_true rfl, Nat.le_of_ble_eq_true rfl⟩ rfl dX1_mergeReplica_10 (fun r_10 e_10 => ?_)
  have e_10 : r_10 = nI (cntP (fun o => remP st f t o) 480) := e_10
  subst e_10
  refine lv_istore (lv' := [(4, .int (nI (cntP (fun o => remP st f t o) 480))), (3, .int (nI (cntP (fun o => addP st f t o) 480))), (0, .ref (q 0)), (1, .int (nI f)), (2, .int (nI t))]) hx hb dX1_mergeReplica_13 hl (by decide) rfl (fun ls hl => ?_)
  refine lv_iconst (v := nI 0) hx hb dX1_mergeReplica_15 kc_iconst_0 ?_
  refine lv_istore (lv' := [(5, .int (nI 0)), (4, .int (nI (cntP (fun o => remP st f t o) 480))), (3, .int (nI (cntP (fun o => addP st f t o) 480))), (0, .ref (q 0)), (1, .int (nI f)), (2, .int (nI t))]) hx hb dX1_mergeReplica_16 hl (by decide) rfl (fun ls hl => ?_)
  have L18_1 : ∀ (fu_2 k : Nat), k ≤ 480 → 480 - k < fu_2 → ∀ (H : Heap) (locs : List Loc), Wd D A [(cI, .int)] (wS cI q (mIt st f t k)) s s.heap H locs → ∀ ls : Array Slot, lv_has ls 6 [(5, .int (nI k)), (4, .int (nI (cntP (fun o => remP st f t o) 480))), (3, .int (nI (cntP (fun o => addP st f t o) 480))), (0, .ref (q 0)), (1, .int (nI f)), (2, .int (nI t))] → W p l e rmX1_mergeReplica s m args below meth c H locs 0 0 Q (F0 m 18 ls []) := by
    intro fu_2
    induction fu_2 with
    | zero => intro k _ h9; exact absurd h9 (Nat.not_lt_zero _)
    | succ fu_2 ih_18 =>
      intro k hk_18 hf_18 H locs hw ls hl
      refine lv_iload hx hb dX1_mergeReplica_18 (lv_at hl 0 rfl) ?_
      refine lv_sipush (v := nI 480) hx hb dX1_mergeReplica_20 kc_sipush_480 ?_
      refine r_icmp_geN (tgt := 40) hx hb (by omega) (by omega) dX1_mergeReplica_23 (by decide) (fun c_23 => ?_) (fun c_23 => ?_)
      ·
        refine lv_aload_n hx hb dX1_mergeReplica_40 rfl (lv_at hl 3 rfl) ?_
        refine lv_iload_n hx hb dX1_mergeReplica_41 rfl (lv_at hl 4 rfl) ?_
        refine lv_iload_n hx hb dX1_mergeReplica_42 rfl (lv_at hl 5 rfl) ?_
        refine cu_Vv (As := [.int (nI f), .int (nI t)]) (rest := []) (wc := wS cI q (mIt st f t k)) (wr := []) S (c_X1_mergeKnowledge l D (sz := H.size) (cI := cI) (q := q) (st := (mIt st f t k)) (f := f) (t := t) (hf4 := by omega) (ht4 := by omega)) (cwV 2 hts gX1_mergeReplica_X1_mergeKnowledge rfl rfl rfl (by decide +kernel) ⟨Nat.le_of_ble_eq_true rfl, Nat.le_of_ble_eq_true rfl⟩) hw hA [0, 1, 2, 3, 4, 5, 6] [] [0] rfl rfl rfl (by decide) (by decide) (by decide) 0 rfl rfl rfl hl.1 (Nat.le_of_ble_eq_true rfl) ⟨Nat.le_of_ble_eq_true rfl, Nat.le_of_ble_eq_true rfl⟩ rfl dX1_mergeReplica_43 (fun u_43 H locs e_43 hw => ?_)
        have hw : Wd D A [(cI, .int)] (wS cI q (mKn (mIt st f t k) f t)) s s.heap H locs := hw
        refine lv_aload_n hx hb dX1_mergeReplica_46 rfl (lv_at hl 3 rfl) ?_
        refine r_get hx hb hts hown hw.q 0 5 hin1 rfl rfl (by decide) k27 rfl dX1_mergeReplica_47 ?_
        refine lv_iconst (v := nI 0) hx hb dX1_mergeReplica_50 kc_iconst_0 ?_
        refine lv_iload_n hx hb dX1_mergeReplica_51 rfl (lv_at hl 4 rfl) ?_
        refine r_ast hx hb hw 6 0 rfl rfl (i := 0) (by omega) (by decide) dX1_mergeReplica_52 (fun H locs hw => ?_)
        have hw : Wd D A [(cI, .int)] (wS cI q ((mKn (mIt st f t k) f t).1, (mKn (mIt st f t k) f t).2.1, (mKn (mIt st f t k) f t).2.2.1, (mKn (mIt st f t k) f t).2.2.2.1, (mKn (mIt st f t k) f t).2.2.2.2.1, upd ((mKn (mIt st f t k) f t).2.2.2.2.2) 0 (nI f))) s s.heap H locs := hw
        refine lv_aload_n hx hb dX1_mergeReplica_53 rfl (lv_at hl 3 rfl) ?_
        refine r_get hx hb hts hown hw.q 0 5 hin1 rfl rfl (by decide) k27 rfl dX1_mergeReplica_54 ?_
        refine lv_iconst (v := nI 1) hx hb dX1_mergeReplica_57 kc_iconst_1 ?_
        refine lv_iload_n hx hb dX1_mergeReplica_58 rfl (lv_at hl 5 rfl) ?_
        refine r_ast hx hb hw 6 0 rfl rfl (i := 1) (by omega) (by decide) dX1_mergeReplica_59 (fun H locs hw => ?_)
        have hw : Wd D A [(cI, .int)] (wS cI q ((mKn (mIt st f t k) f t).1, (mKn (mIt st f t k) f t).2.1, (mKn (mIt st f t k) f t).2.2.1, (mKn (mIt st f t k) f t).2.2.2.1, (mKn (mIt st f t k) f t).2.2.2.2.1, upd (upd ((mKn (mIt st f t k) f t).2.2.2.2.2) 0 (nI f)) 1 (nI t))) s s.heap H locs := hw
        refine lv_aload_n hx hb dX1_mergeReplica_60 rfl (lv_at hl 3 rfl) ?_
        refine r_get hx hb hts hown hw.q 0 5 hin1 rfl rfl (by decide) k27 rfl dX1_mergeReplica_61 ?_
        refine lv_iconst (v := nI 2) hx hb dX1_mergeReplica_64 kc_iconst_2 ?_
        refine lv_iload_n hx hb dX1_mergeReplica_65 rfl (lv_at hl 2 rfl) ?_
        refine r_ast hx hb hw 6 0 rfl rfl (i := 2) (by omega) (by decide) dX1_mergeReplica_66 (fun H locs hw => ?_)
        have hw : Wd D A [(cI, .int)] (wS cI q ((mKn (mIt st f t k) f t).1, (mKn (mIt st f t k) f t).2.1, (mKn (mIt st f t k) f t).2.2.1, (mKn (mIt st f t k) f t).2.2.2.1, (mKn (mIt st f t k) f t).2.2.2.2.1, upd (upd (upd ((mKn (mIt st f t k) f t).2.2.2.2.2) 0 (nI f)) 1 (nI t)) 2 (nI (cntP (fun o => addP st f t o) 480)))) s s.heap H locs := hw
        refine lv_aload_n hx hb dX1_mergeReplica_67 rfl (lv_at hl 3 rfl) ?_
        refine r_get hx hb hts hown hw.q 0 5 hin1 rfl rfl (by decide) k27 rfl dX1_mergeReplica_68 ?_
        refine lv_iconst (v := nI 3) hx hb dX1_mergeReplica_71 kc_iconst_3 ?_
        refine lv_iload hx hb dX1_mergeReplica_72 (lv_at hl 1 rfl) ?_
        refine r_ast hx hb hw 6 0 rfl rfl (i := 3) (by omega) (by decide) dX1_mergeReplica_74 (fun H locs hw => ?_)
        have hw : Wd D A [(cI, .int)] (wS cI q ((mKn (mIt st f t k) f t).1, (mKn (mIt st f t k) f t).2.1, (mKn (mIt st f t k) f t).2.2.1, (mKn (mIt st f t k) f t).2.2.2.1, (mKn (mIt st f t k) f t).2.2.2.2.1, upd (upd (upd (upd ((mKn (mIt st f t k) f t).2.2.2.2.2) 0 (nI f)) 1 (nI t)) 2 (nI (cntP (fun o => addP st f t o) 480))) 3 (nI (cntP (fun o => remP st f t o) 480)))) s s.heap H locs := hw
        refine lv_iload_n hx hb dX1_mergeReplica_75 rfl (lv_at hl 2 rfl) ?_
        refine lv_iload hx hb dX1_mergeReplica_76 (lv_at hl 1 rfl) ?_
        refine r_addN hx hb dX1_mergeReplica_78 ?_
        have ew : (wS cI q ((mKn (mIt st f t k) f t).1, (mKn (mIt st f t k) f t).2.1, (mKn (mIt st f t k) f t).2.2.1, (mKn (mIt st f t k) f t).2.2.2.1, (mKn (mIt st f t k) f t).2.2.2.2.1, upd (upd (upd (upd ((mKn (mIt st f t k) f t).2.2.2.2.2) 0 (nI f)) 1 (nI t)) 2 (nI (cntP (fun o => addP st f t o) 480))) 3 (nI (cntP (fun o => remP st f t o) 480)))) = (wS cI q (mgS st f t)) := by rw [show k = 480 by omega]; rfl
        rw [ew] at hw
        exact hE () dX1_mergeReplica_79 (rfl) (Nat.le_of_ble_eq_true rfl) (Nat.le_of_ble_eq_true rfl) (hw.sub [0, 1, 2, 3, 4, 5, 6] [] (by decide) rfl rfl) (show nI ((cntP (fun o => addP st f t o) 480) + (cntP (fun o => remP st f t o) 480)) = nI (cntP (fun o => addP st f t o) 480 + cntP (fun o => remP st f t o) 480) from by first | rfl | (congr <;> omega) | simp_all)
      ·
        refine lv_aload_n hx hb dX1_mergeReplica_26 rfl (lv_at hl 3 rfl) ?_
        refine lv_iload_n hx hb dX1_mergeReplica_27 rfl (lv_at hl 4 rfl) ?_
        refine lv_iload_n hx hb dX1_mergeReplica_28 rfl (lv_at hl 5 rfl) ?_
        refine lv_iload hx hb dX1_mergeReplica_29 (lv_at hl 0 rfl) ?_
        refine cu_Vv (As := [.int (nI f), .int (nI t), .int (nI k)]) (rest := []) (wc := wS cI q (mIt st f t k)) (wr := []) S (c_X1_mergeSlot l D (sz := H.size) (cI := cI) (q := q) (st := (mIt st f t k)) (f := f) (t := t) (o := k) (hf4 := by omega) (ht4 := by omega) (ho := by omega)) (cwV 3 hts gX1_mergeReplica_X1_mergeSlot rfl rfl rfl (by decide +kernel) ⟨Nat.le_of_ble_eq_true rfl, Nat.le_of_ble_eq_true rfl⟩) hw hA [0, 1, 2, 3, 4, 5, 6] [] [0] rfl rfl rfl (by decide) (by decide) (by decide) 0 rfl rfl rfl hl.1 (Nat.le_of_ble_eq_true rfl) ⟨Nat.le_of_ble_eq_true rfl, Nat.le_of_ble_eq_true rfl⟩ rfl dX1_mergeReplica_31 (fun u_31 H locs e_31 hw => ?_)
        have hw : Wd D A [(cI, .int)] (wS cI q (mSlot (mIt st f t k) f t k)) s s.heap H locs := hw
        refine lv_iinc (v := nI (k + 1)) (lv' := [(5, .int (nI (k + 1))), (4, .int (nI (cntP (fun o => remP st f t o) 480))), (3, .int (nI (cntP (fun o => addP st f t o) 480))), (0, .ref (q 0)), (1, .int (nI f)), (2, .int (nI t))]) hx hb dX1_mergeReplica_34 hl (k := 0) rfl (nI_add k 1) (by decide) rfl (fun ls hl => ?_)
        refine lv_goto (tgt := 18) hx hb dX1_mergeReplica_37 (by decide) ?_
        have hl : lv_has ls 6 [(5, .int (nI (k + 1))), (4, .int (nI (cntP (fun o => remP st f t o) 480))), (3, .int (nI (cntP (fun o => addP st f t o) 480))), (0, .ref (q 0)), (1, .int (nI f)), (2, .int (nI t))] := lv_sub hl [0, 1, 2, 3, 4, 5] rfl
        have hw : Wd D A [(cI, .int)] (wS cI q ((mIt st f t (k + 1)).1, (mSlot (mIt st f t k) f t k).2.1, (mSlot (mIt st f t k) f t k).2.2.1, (mSlot (mIt st f t k) f t k).2.2.2.1, (mSlot (mIt st f t k) f t k).2.2.2.2.1, (mSlot (mIt st f t k) f t k).2.2.2.2.2)) s s.heap H locs := Eq.mp (congrArg (fun z9 => Wd D A [(cI, .int)] (wS cI q (z9, (mSlot (mIt st f t k) f t k).2.1, (mSlot (mIt st f t k) f t k).2.2.1, (mSlot (mIt st f t k) f t k).2.2.2.1, (mSlot (mIt st f t k) f t k).2.2.2.2.1, (mSlot (mIt st f t k) f t k).2.2.2.2.2)) s s.heap H locs) (show (mSlot (mIt st f t k) f t k).1 = (mIt st f t (k + 1)).1 from rfl)) hw
        have hw : Wd D A [(cI, .int)] (wS cI q ((mIt st f t (k + 1)).1, (mIt st f t (k + 1)).2.1, (mSlot (mIt st f t k) f t k).2.2.1, (mSlot (mIt st f t k) f t k).2.2.2.1, (mSlot (mIt st f t k) f t k).2.2.2.2.1, (mSlot (mIt st f t k) f t k).2.2.2.2.2)) s s.heap H locs := Eq.mp (congrArg (fun z9 => Wd D A [(cI, .int)] (wS cI q ((mIt st f t (k + 1)).1, z9, (mSlot (mIt st f t k) f t k).2.2.1, (mSlot (mIt st f t k) f t k).2.2.2.1, (mSlot (mIt st f t k) f t k).2.2.2.2.1, (mSlot (mIt st f t k) f t k).2.2.2.2.2)) s s.heap H locs) (show (mSlot (mIt st f t k) f t k).2.1 = (mIt st f t (k + 1)).2.1 from rfl)) hw
        have hw : Wd D A [(cI, .int)] (wS cI q ((mIt st f t (k + 1)).1, (mIt st f t (k + 1)).2.1, (mIt st f t (k + 1)).2.2.1, (mSlot (mIt st f t k) f t k).2.2.2.1, (mSlot (mIt st f t k) f t k).2.2.2.2.1, (mSlot (mIt st f t k) f t k).2.2.2.2.2)) s s.heap H locs := Eq.mp (congrArg (fun z9 => Wd D A [(cI, .int)] (wS cI q ((mIt st f t (k + 1)).1, (mIt st f t (k + 1)).2.1, z9, (mSlot (mIt st f t k) f t k).2.2.2.1, (mSlot (mIt st f t k) f t k).2.2.2.2.1, (mSlot (mIt st f t k) f t k).2.2.2.2.2)) s s.heap H locs) (show (mSlot (mIt st f t k) f t k).2.2.1 = (mIt st f t (k + 1)).2.2.1 from rfl)) hw
        have hw : Wd D A [(cI, .int)] (wS cI q ((mIt st f t (k + 1)).1, (mIt st f t (k + 1)).2.1, (mIt st f t (k + 1)).2.2.1, (mIt st f t (k + 1)).2.2.2.1, (mSlot (mIt st f t k) f t k).2.2.2.2.1, (mSlot (mIt st f t k) f t k).2.2.2.2.2)) s s.heap H locs := Eq.mp (congrArg (fun z9 => Wd D A [(cI, .int)] (wS cI q ((mIt st f t (k + 1)).1, (mIt st f t (k + 1)).2.1, (mIt st f t (k + 1)).2.2.1, z9, (mSlot (mIt st f t k) f t k).2.2.2.2.1, (mSlot (mIt st f t k) f t k).2.2.2.2.2)) s s.heap H locs) (show (mSlot (mIt st f t k) f t k).2.2.2.1 = (mIt st f t (k + 1)).2.2.2.1 from rfl)) hw
        have hw : Wd D A [(cI, .int)] (wS cI q ((mIt st f t (k + 1)).1, (mIt st f t (k + 1)).2.1, (mIt st f t (k + 1)).2.2.1, (mIt st f t (k + 1)).2.2.2.1, (mIt st f t (k + 1)).2.2.2.2.1, (mSlot (mIt st f t k) f t k).2.2.2.2.2)) s s.heap H locs := Eq.mp (congrArg (fun z9 => Wd D A [(cI, .int)] (wS cI q ((mIt st f t (k + 1)).1, (mIt st f t (k + 1)).2.1, (mIt st f t (k + 1)).2.2.1, (mIt st f t (k + 1)).2.2.2.1, z9, (mSlot (mIt st f t k) f t k).2.2.2.2.2)) s s.heap H locs) (show (mSlot (mIt st f t k) f t k).2.2.2.2.1 = (mIt st f t (k + 1)).2.2.2.2.1 from rfl)) hw
        have hw : Wd D A [(cI, .int)] (wS cI q (mIt st f t (k + 1))) s s.heap H locs := Eq.mp (congrArg (fun z9 => Wd D A [(cI, .int)] (wS cI q ((mIt st f t (k + 1)).1, (mIt st f t (k + 1)).2.1, (mIt st f t (k + 1)).2.2.1, (mIt st f t (k + 1)).2.2.2.1, (mIt st f t (k + 1)).2.2.2.2.1, z9)) s s.heap H locs) (show (mSlot (mIt st f t k) f t k).2.2.2.2.2 = (mIt st f t (k + 1)).2.2.2.2.2 from rfl)) hw
        exact ih_18 (k + 1) (by omega) (by omega) _ _ hw ls hl
  have hl : lv_has ls 6 [(5, .int (nI 0)), (4, .int (nI (cntP (fun o => remP st f t o) 480))), (3, .int (nI (cntP (fun o => addP st f t o) 480))), (0, .ref (q 0)), (1, .int (nI f)), (2, .int (nI t))] := lv_sub hl [0, 1, 2, 3, 4, 5] rfl
  have hw : Wd D A [(cI, .int)] (wS cI q ((mIt st f t 0).1, st.2.1, st.2.2.1, st.2.2.2.1, st.2.2.2.2.1, st.2.2.2.2.2)) s s.heap s.heap [] := Eq.mp (congrArg (fun z9 => Wd D A [(cI, .int)] (wS cI q (z9, st.2.1, st.2.2.1, st.2.2.2.1, st.2.2.2.2.1, st.2.2.2.2.2)) s s.heap s.heap []) (show st.1 = (mIt st f t 0).1 from rfl)) hw
  have hw : Wd D A [(cI, .int)] (wS cI q ((mIt st f t 0).1, (mIt st f t 0).2.1, st.2.2.1, st.2.2.2.1, st.2.2.2.2.1, st.2.2.2.2.2)) s s.heap s.heap [] := Eq.mp (congrArg (fun z9 => Wd D A [(cI, .int)] (wS cI q ((mIt st f t 0).1, z9, st.2.2.1, st.2.2.2.1, st.2.2.2.2.1, st.2.2.2.2.2)) s s.heap s.heap []) (show st.2.1 = (mIt st f t 0).2.1 from rfl)) hw
  have hw : Wd D A [(cI, .int)] (wS cI q ((mIt st f t 0).1, (mIt st f t 0).2.1, (mIt st f t 0).2.2.1, st.2.2.2.1, st.2.2.2.2.1, st.2.2.2.2.2)) s s.heap s.heap [] := Eq.mp (congrArg (fun z9 => Wd D A [(cI, .int)] (wS cI q ((mIt st f t 0).1, (mIt st f t 0).2.1, z9, st.2.2.2.1, st.2.2.2.2.1, st.2.2.2.2.2)) s s.heap s.heap []) (show st.2.2.1 = (mIt st f t 0).2.2.1 from rfl)) hw
  have hw : Wd D A [(cI, .int)] (wS cI q ((mIt st f t 0).1, (mIt st f t 0).2.1, (mIt st f t 0).2.2.1, (mIt st f t 0).2.2.2.1, st.2.2.2.2.1, st.2.2.2.2.2)) s s.heap s.heap [] := Eq.mp (congrArg (fun z9 => Wd D A [(cI, .int)] (wS cI q ((mIt st f t 0).1, (mIt st f t 0).2.1, (mIt st f t 0).2.2.1, z9, st.2.2.2.2.1, st.2.2.2.2.2)) s s.heap s.heap []) (show st.2.2.2.1 = (mIt st f t 0).2.2.2.1 from rfl)) hw
  have hw : Wd D A [(cI, .int)] (wS cI q ((mIt st f t 0).1, (mIt st f t 0).2.1, (mIt st f t 0).2.2.1, (mIt st f t 0).2.2.2.1, (mIt st f t 0).2.2.2.2.1, st.2.2.2.2.2)) s s.heap s.heap [] := Eq.mp (congrArg (fun z9 => Wd D A [(cI, .int)] (wS cI q ((mIt st f t 0).1, (mIt st f t 0).2.1, (mIt st f t 0).2.2.1, (mIt st f t 0).2.2.2.1, z9, st.2.2.2.2.2)) s s.heap s.heap []) (show st.2.2.2.2.1 = (mIt st f t 0).2.2.2.2.1 from rfl)) hw
  have hw : Wd D A [(cI, .int)] (wS cI q (mIt st f t 0)) s s.heap s.heap [] := Eq.mp (congrArg (fun z9 => Wd D A [(cI, .int)] (wS cI q ((mIt st f t 0).1, (mIt st f t 0).2.1, (mIt st f t 0).2.2.1, (mIt st f t 0).2.2.2.1, (mIt st f t 0).2.2.2.2.1, z9)) s s.heap s.heap []) (show st.2.2.2.2.2 = (mIt st f t 0).2.2.2.2.2 from rfl)) hw
  exact L18_1 (480 + 1) (0) (by omega) (by omega) _ _ hw ls hl
abbrev rmX1_latestValue : Room := { frames := 2, cells := 0, slots := 0, locals := 44 }
set_option maxHeartbeats 4000000 in
set_option maxRecDepth 100000 in
theorem c_X1_latestValue (l : Launch) (D : va_G) (cI : ClassId) (q : Nat → Nat) (st : St) (r w : Nat) (hr : r < 4) (hw5 : w < 6) : MQi l yX1_latestValue wsX1_latestValue rmX1_latestValue [.ref (q 0), .int (nI r), .int (nI w)] D [(cI, .int)] (wS cI q st) (fun rz => rz = (ltE st (r * 480 + w * 80 + 0 * 4) 4).2) := by
  refine met_q (own := RX1) (cc := cX1_latestValue) (maxL := 8) (ty := .int) (by decide) rfl rfl (Nat.le_of_ble_eq_true rfl) ?_
  intro p e s m args below meth c Q S hq hE ls hl
  obtain ⟨hx, hb, hml, hown, hts⟩ := id S
  have k11 := hts (.fieldLink RX1 11 "CausalTable$State" "numbers" "[I") (by decide +kernel)
  have hin1 := (show ∀ w ∈ wsX10, w ∈ wsX1_latestValue by decide +kernel)
  have k15 := hts (.fieldLink RX1 15 "CausalTable$State" "stamps" "[I") (by decide +kernel)
  have k18 := hts (.fieldLink RX1 18 "CausalTable$State" "values" "[I") (by decide +kernel)
  have hl : lv_has ls 8 [(0, .ref (q 0)), (1, .int (nI r)), (2, .int (nI w))] := hl
  refine lv_iload_n hx hb dX1_latestValue_0 rfl (lv_at hl 1 rfl) ?_
  refine lv_iload_n hx hb dX1_latestValue_1 rfl (lv_at hl 2 rfl) ?_
  refine lv_iconst (v := nI 0) hx hb dX1_latestValue_2 kc_iconst_0 ?_
  refine cq_S (As := [.int (nI r), .int (nI w), .int (nI 0)]) (rest := []) S (c_X1_cellStart l D (r := r) (w := w) (g := 0)) (va_cwS 3 hts gX1_latestValue_X1_cellStart rfl rfl rfl (by decide +kernel) ⟨Nat.le_of_ble_eq_true rfl, Nat.le_of_ble_eq_true rfl⟩) (hq.sub [] [] rfl rfl) rfl hl.1 (Nat.le_of_ble_eq_true rfl) ⟨Nat.le_of_ble_eq_true rfl, Nat.le_of_ble_eq_true rfl⟩ rfl dX1_latestValue_3 (fun r_3 e_3 => ?_)
  have e_3 : r_3 = nI (r * 480 + w * 80 + 0 * 4) := e_3
  subst e_3
  refine lv_istore_n (lv' := [(3, .int (nI (r * 480 + w * 80 + 0 * 4))), (0, .ref (q 0)), (1, .int (nI r)), (2, .int (nI w))]) hx hb dX1_latestValue_6 rfl hl (by decide) rfl (fun ls hl => ?_)
  refine lv_iload_n hx hb dX1_latestValue_7 rfl (lv_at hl 2 rfl) ?_
  refine lv_iload_n hx hb dX1_latestValue_8 rfl (lv_at hl 3 rfl) ?_
  refine lv_iconst (v := nI 0) hx hb dX1_latestValue_9 kc_iconst_0 ?_
  refine cq_S (As := [.int (nI r), .int (nI w), .int (nI 0)]) (rest := []) S (c_X1_cellEnd l D (r := r) (w := w) (g := 0) (hg := by omega)) (va_cwS 3 hts gX1_latestValue_X1_cellEnd rfl rfl rfl (by decide +kernel) ⟨Nat.le_of_ble_eq_true rfl, Nat.le_of_ble_eq_true rfl⟩) (hq.sub [] [] rfl rfl) rfl hl.1 (Nat.le_of_ble_eq_true rfl) ⟨Nat.le_of_ble_eq_true rfl, Nat.le_of_ble_eq_true rfl⟩ rfl dX1_latestValue_10 (fun r_10 e_10 => ?_)
  have e_10 : r_10 = nI (r * 480 + w * 80 + 1 * 4) := e_10
  subst e_10
  refine lv_istore (lv' := [(4, .int (nI (r * 480 + w * 80 + 1 * 4))), (3, .int (nI (r * 480 + w * 80 + 0 * 4))), (0, .ref (q 0)), (1, .int (nI r)), (2, .int (nI w))]) hx hb dX1_latestValue_13 hl (by decide) rfl (fun ls hl => ?_)
  refine lv_iconst (v := nI 0) hx hb dX1_latestValue_15 kc_iconst_0 ?_
  refine lv_istore (lv' := [(5, .int (nI 0)), (4, .int (nI (r * 480 + w * 80 + 1 * 4))), (3, .int (nI (r * 480 + w * 80 + 0 * 4))), (0, .ref (q 0)), (1, .int (nI r)), (2, .int (nI w))]) hx hb dX1_latestValue_16 hl (by decide) rfl (fun ls hl => ?_)
  refine lv_iconst (v := (-1)) hx hb dX1_latestValue_18 kc_iconst_m1 ?_
  refine lv_istore (lv' := [(6, .int (-1)), (5, .int (nI 0)), (4, .int (nI (r * 480 + w * 80 + 1 * 4))), (3, .int (nI (r * 480 + w * 80 + 0 * 4))), (0, .ref (q 0)), (1, .int (nI r)), (2, .int (nI w))]) hx hb dX1_latestValue_19 hl (by decide) rfl (fun ls hl => ?_)
  refine lv_iload_n hx hb dX1_latestValue_21 rfl (lv_at hl 3 rfl) ?_
  refine lv_istore (lv' := [(7, .int (nI (r * 480 + w * 80 + 0 * 4))), (6, .int (-1)), (5, .int (nI 0)), (4, .int (nI (r * 480 + w * 80 + 1 * 4))), (3, .int (nI (r * 480 + w * 80 + 0 * 4))), (0, .ref (q 0)), (1, .int (nI r)), (2, .int (nI w))]) hx hb dX1_latestValue_22 hl (by decide) rfl (fun ls hl => ?_)
  have L24_1 : ∀ (fu_2 k : Nat), k ≤ 4 → 4 - k < fu_2 → ∀ ls : Array Slot, lv_has ls 8 [(7, .int (nI (r * 480 + w * 80 + 0 * 4 + k))), (6, .int ((ltE st (r * 480 + w * 80 + 0 * 4) k).2)), (5, .int ((ltE st (r * 480 + w * 80 + 0 * 4) k).1)), (4, .int (nI (r * 480 + w * 80 + 1 * 4))), (3, .int (nI (r * 480 + w * 80 + 0 * 4))), (0, .ref (q 0)), (1, .int (nI r)), (2, .int (nI w))] → W p l e rmX1_latestValue s m args below meth c s.heap [] 0 0 Q (F0 m 24 ls []) := by
    intro fu_2
    induction fu_2 with
    | zero => intro k _ h9; exact absurd h9 (Nat.not_lt_zero _)
    | succ fu_2 ih_24 =>
      intro k hk_24 hf_24 ls hl
      refine lv_iload hx hb dX1_latestValue_24 (lv_at hl 0 rfl) ?_
      refine lv_iload hx hb dX1_latestValue_26 (lv_at hl 3 rfl) ?_
      refine r_icmp_geN (tgt := 77) hx hb (by omega) (by omega) dX1_latestValue_28 (by decide) (fun c_28 => ?_) (fun c_28 => ?_)
      ·
        refine lv_iload hx hb dX1_latestValue_77 (lv_at hl 1 rfl) ?_
        exact hE dX1_latestValue_79 (rfl) (show (ltE st (r * 480 + w * 80 + 0 * 4) k).2 = (ltE st (r * 480 + w * 80 + 0 * 4) 4).2 from by rw [show k = 4 by omega])
      ·
        refine lv_aload_n hx hb dX1_latestValue_31 rfl (lv_at hl 5 rfl) ?_
        refine r_get hx hb hts hown hq 0 0 hin1 rfl rfl (by decide) k11 rfl dX1_latestValue_32 ?_
        refine lv_iload hx hb dX1_latestValue_35 (lv_at hl 0 rfl) ?_
        refine r_ald hx hb hq 1 0 rfl rfl (i := r * 480 + w * 80 + 0 * 4 + k) (by omega) (by decide) dX1_latestValue_37 ?_
        refine lv_if_eq (tgt := 71) hx hb dX1_latestValue_38 (by decide) (fun c_38 => ?_) (fun c_38 => ?_)
        ·
          refine lv_iinc (v := nI ((r * 480 + w * 80 + 0 * 4 + k) + 1)) (lv' := [(7, .int (nI ((r * 480 + w * 80 + 0 * 4 + k) + 1))), (6, .int ((ltE st (r * 480 + w * 80 + 0 * 4) k).2)), (5, .int ((ltE st (r * 480 + w * 80 + 0 * 4) k).1)), (4, .int (nI (r * 480 + w * 80 + 1 * 4))), (3, .int (nI (r * 480 + w * 80 + 0 * 4))), (0, .ref (q 0)), (1, .int (nI r)), (2, .int (nI w))]) hx hb dX1_latestValue_71 hl (k := 0) rfl (nI_add (r * 480 + w * 80 + 0 * 4 + k) 1) (by decide) rfl (fun ls hl => ?_)
          refine lv_goto (tgt := 24) hx hb dX1_latestValue_74 (by decide) ?_
          have hl : lv_has ls 8 [(7, .int (nI ((r * 480 + w * 80 + 0 * 4 + k) + 1))), (6, .int ((ltE st (r * 480 + w * 80 + 0 * 4) k).2)), (5, .int ((ltE st (r * 480 + w * 80 + 0 * 4) k).1)), (4, .int (nI (r * 480 + w * 80 + 1 * 4))), (3, .int (nI (r * 480 + w * 80 + 0 * 4))), (0, .ref (q 0)), (1, .int (nI r)), (2, .int (nI w))] := lv_sub hl [0, 1, 2, 3, 4, 5, 6, 7] rfl
          have hl : lv_has ls 8 [(7, .int (nI (r * 480 + w * 80 + 0 * 4 + (k + 1)))), (6, .int ((ltE st (r * 480 + w * 80 + 0 * 4) k).2)), (5, .int ((ltE st (r * 480 + w * 80 + 0 * 4) k).1)), (4, .int (nI (r * 480 + w * 80 + 1 * 4))), (3, .int (nI (r * 480 + w * 80 + 0 * 4))), (0, .ref (q 0)), (1, .int (nI r)), (2, .int (nI w))] := lv_rep hl 0 rfl (congrArg (fun z => Value.int (nI z)) (show (r * 480 + w * 80 + 0 * 4 + k) + 1 = r * 480 + w * 80 + 0 * 4 + (k + 1) from by first | rfl | omega | simp_all))
          have hl : lv_has ls 8 [(7, .int (nI (r * 480 + w * 80 + 0 * 4 + (k + 1)))), (6, .int ((ltE st (r * 480 + w * 80 + 0 * 4) (k + 1)).2)), (5, .int ((ltE st (r * 480 + w * 80 + 0 * 4) k).1)), (4, .int (nI (r * 480 + w * 80 + 1 * 4))), (3, .int (nI (r * 480 + w * 80 + 0 * 4))), (0, .ref (q 0)), (1, .int (nI r)), (2, .int (nI w))] := lv_rep hl 1 rfl (congrArg Value.int (show (ltE st (r * 480 + w * 80 + 0 * 4) k).2 = (ltE st (r * 480 + w * 80 + 0 * 4) (k + 1)).2 from by simp only [ltE]; first | rw [if_pos c_38] | rw [if_neg c_38, if_pos c_50] | rw [if_neg c_38, if_neg c_50]))
          have hl : lv_has ls 8 [(7, .int (nI (r * 480 + w * 80 + 0 * 4 + (k + 1)))), (6, .int ((ltE st (r * 480 + w * 80 + 0 * 4) (k + 1)).2)), (5, .int ((ltE st (r * 480 + w * 80 + 0 * 4) (k + 1)).1)), (4, .int (nI (r * 480 + w * 80 + 1 * 4))), (3, .int (nI (r * 480 + w * 80 + 0 * 4))), (0, .ref (q 0)), (1, .int (nI r)), (2, .int (nI w))] := lv_rep hl 2 rfl (congrArg Value.int (show (ltE st (r * 480 + w * 80 + 0 * 4) k).1 = (ltE st (r * 480 + w * 80 + 0 * 4) (k + 1)).1 from by simp only [ltE]; first | rw [if_pos c_38] | rw [if_neg c_38, if_pos c_50] | rw [if_neg c_38, if_neg c_50]))
          exact ih_24 (k + 1) (by omega) (by omega) ls hl
        ·
          refine lv_aload_n hx hb dX1_latestValue_41 rfl (lv_at hl 5 rfl) ?_
          refine r_get hx hb hts hown hq 0 1 hin1 rfl rfl (by decide) k15 rfl dX1_latestValue_42 ?_
          refine lv_iload hx hb dX1_latestValue_45 (lv_at hl 0 rfl) ?_
          refine r_ald hx hb hq 2 0 rfl rfl (i := r * 480 + w * 80 + 0 * 4 + k) (by omega) (by decide) dX1_latestValue_47 ?_
          refine lv_iload hx hb dX1_latestValue_48 (lv_at hl 2 rfl) ?_
          refine lv_icmp_lt (tgt := 71) hx hb dX1_latestValue_50 (by decide) (fun c_50 => ?_) (fun c_50 => ?_)
          ·
            refine lv_iinc (v := nI ((r * 480 + w * 80 + 0 * 4 + k) + 1)) (lv' := [(7, .int (nI ((r * 480 + w * 80 + 0 * 4 + k) + 1))), (6, .int ((ltE st (r * 480 + w * 80 + 0 * 4) k).2)), (5, .int ((ltE st (r * 480 + w * 80 + 0 * 4) k).1)), (4, .int (nI (r * 480 + w * 80 + 1 * 4))), (3, .int (nI (r * 480 + w * 80 + 0 * 4))), (0, .ref (q 0)), (1, .int (nI r)), (2, .int (nI w))]) hx hb dX1_latestValue_71 hl (k := 0) rfl (nI_add (r * 480 + w * 80 + 0 * 4 + k) 1) (by decide) rfl (fun ls hl => ?_)
            refine lv_goto (tgt := 24) hx hb dX1_latestValue_74 (by decide) ?_
            have hl : lv_has ls 8 [(7, .int (nI ((r * 480 + w * 80 + 0 * 4 + k) + 1))), (6, .int ((ltE st (r * 480 + w * 80 + 0 * 4) k).2)), (5, .int ((ltE st (r * 480 + w * 80 + 0 * 4) k).1)), (4, .int (nI (r * 480 + w * 80 + 1 * 4))), (3, .int (nI (r * 480 + w * 80 + 0 * 4))), (0, .ref (q 0)), (1, .int (nI r)), (2, .int (nI w))] := lv_sub hl [0, 1, 2, 3, 4, 5, 6, 7] rfl
            have hl : lv_has ls 8 [(7, .int (nI (r * 480 + w * 80 + 0 * 4 + (k + 1)))), (6, .int ((ltE st (r * 480 + w * 80 + 0 * 4) k).2)), (5, .int ((ltE st (r * 480 + w * 80 + 0 * 4) k).1)), (4, .int (nI (r * 480 + w * 80 + 1 * 4))), (3, .int (nI (r * 480 + w * 80 + 0 * 4))), (0, .ref (q 0)), (1, .int (nI r)), (2, .int (nI w))] := lv_rep hl 0 rfl (congrArg (fun z => Value.int (nI z)) (show (r * 480 + w * 80 + 0 * 4 + k) + 1 = r * 480 + w * 80 + 0 * 4 + (k + 1) from by first | rfl | omega | simp_all))
            have hl : lv_has ls 8 [(7, .int (nI (r * 480 + w * 80 + 0 * 4 + (k + 1)))), (6, .int ((ltE st (r * 480 + w * 80 + 0 * 4) (k + 1)).2)), (5, .int ((ltE st (r * 480 + w * 80 + 0 * 4) k).1)), (4, .int (nI (r * 480 + w * 80 + 1 * 4))), (3, .int (nI (r * 480 + w * 80 + 0 * 4))), (0, .ref (q 0)), (1, .int (nI r)), (2, .int (nI w))] := lv_rep hl 1 rfl (congrArg Value.int (show (ltE st (r * 480 + w * 80 + 0 * 4) k).2 = (ltE st (r * 480 + w * 80 + 0 * 4) (k + 1)).2 from by simp only [ltE]; first | rw [if_pos c_38] | rw [if_neg c_38, if_pos c_50] | rw [if_neg c_38, if_neg c_50]))
            have hl : lv_has ls 8 [(7, .int (nI (r * 480 + w * 80 + 0 * 4 + (k + 1)))), (6, .int ((ltE st (r * 480 + w * 80 + 0 * 4) (k + 1)).2)), (5, .int ((ltE st (r * 480 + w * 80 + 0 * 4) (k + 1)).1)), (4, .int (nI (r * 480 + w * 80 + 1 * 4))), (3, .int (nI (r * 480 + w * 80 + 0 * 4))), (0, .ref (q 0)), (1, .int (nI r)), (2, .int (nI w))] := lv_rep hl 2 rfl (congrArg Value.int (show (ltE st (r * 480 + w * 80 + 0 * 4) k).1 = (ltE st (r * 480 + w * 80 + 0 * 4) (k + 1)).1 from by simp only [ltE]; first | rw [if_pos c_38] | rw [if_neg c_38, if_pos c_50] | rw [if_neg c_38, if_neg c_50]))
            exact ih_24 (k + 1) (by omega) (by omega) ls hl
          ·
            refine lv_aload_n hx hb dX1_latestValue_53 rfl (lv_at hl 5 rfl) ?_
            refine r_get hx hb hts hown hq 0 1 hin1 rfl rfl (by decide) k15 rfl dX1_latestValue_54 ?_
            refine lv_iload hx hb dX1_latestValue_57 (lv_at hl 0 rfl) ?_
            refine r_ald hx hb hq 2 0 rfl rfl (i := r * 480 + w * 80 + 0 * 4 + k) (by omega) (by decide) dX1_latestValue_59 ?_
            refine lv_istore (lv' := [(5, .int (st.2.1 (r * 480 + w * 80 + 0 * 4 + k))), (7, .int (nI (r * 480 + w * 80 + 0 * 4 + k))), (6, .int ((ltE st (r * 480 + w * 80 + 0 * 4) k).2)), (4, .int (nI (r * 480 + w * 80 + 1 * 4))), (3, .int (nI (r * 480 + w * 80 + 0 * 4))), (0, .ref (q 0)), (1, .int (nI r)), (2, .int (nI w))]) hx hb dX1_latestValue_60 hl (by decide) rfl (fun ls hl => ?_)
            refine lv_aload_n hx hb dX1_latestValue_62 rfl (lv_at hl 5 rfl) ?_
            refine r_get hx hb hts hown hq 0 2 hin1 rfl rfl (by decide) k18 rfl dX1_latestValue_63 ?_
            refine lv_iload hx hb dX1_latestValue_66 (lv_at hl 1 rfl) ?_
            refine r_ald hx hb hq 3 0 rfl rfl (i := r * 480 + w * 80 + 0 * 4 + k) (by omega) (by decide) dX1_latestValue_68 ?_
            refine lv_istore (lv' := [(6, .int (st.2.2.1 (r * 480 + w * 80 + 0 * 4 + k))), (5, .int (st.2.1 (r * 480 + w * 80 + 0 * 4 + k))), (7, .int (nI (r * 480 + w * 80 + 0 * 4 + k))), (4, .int (nI (r * 480 + w * 80 + 1 * 4))), (3, .int (nI (r * 480 + w * 80 + 0 * 4))), (0, .ref (q 0)), (1, .int (nI r)), (2, .int (nI w))]) hx hb dX1_latestValue_69 hl (by decide) rfl (fun ls hl => ?_)
            refine lv_iinc (v := nI ((r * 480 + w * 80 + 0 * 4 + k) + 1)) (lv' := [(7, .int (nI ((r * 480 + w * 80 + 0 * 4 + k) + 1))), (6, .int (st.2.2.1 (r * 480 + w * 80 + 0 * 4 + k))), (5, .int (st.2.1 (r * 480 + w * 80 + 0 * 4 + k))), (4, .int (nI (r * 480 + w * 80 + 1 * 4))), (3, .int (nI (r * 480 + w * 80 + 0 * 4))), (0, .ref (q 0)), (1, .int (nI r)), (2, .int (nI w))]) hx hb dX1_latestValue_71 hl (k := 2) rfl (nI_add (r * 480 + w * 80 + 0 * 4 + k) 1) (by decide) rfl (fun ls hl => ?_)
            refine lv_goto (tgt := 24) hx hb dX1_latestValue_74 (by decide) ?_
            have hl : lv_has ls 8 [(7, .int (nI ((r * 480 + w * 80 + 0 * 4 + k) + 1))), (6, .int (st.2.2.1 (r * 480 + w * 80 + 0 * 4 + k))), (5, .int (st.2.1 (r * 480 + w * 80 + 0 * 4 + k))), (4, .int (nI (r * 480 + w * 80 + 1 * 4))), (3, .int (nI (r * 480 + w * 80 + 0 * 4))), (0, .ref (q 0)), (1, .int (nI r)), (2, .int (nI w))] := lv_sub hl [0, 1, 2, 3, 4, 5, 6, 7] rfl
            have hl : lv_has ls 8 [(7, .int (nI (r * 480 + w * 80 + 0 * 4 + (k + 1)))), (6, .int (st.2.2.1 (r * 480 + w * 80 + 0 * 4 + k))), (5, .int (st.2.1 (r * 480 + w * 80 + 0 * 4 + k))), (4, .int (nI (r * 480 + w * 80 + 1 * 4))), (3, .int (nI (r * 480 + w * 80 + 0 * 4))), (0, .ref (q 0)), (1, .int (nI r)), (2, .int (nI w))] := lv_rep hl 0 rfl (congrArg (fun z => Value.int (nI z)) (show (r * 480 + w * 80 + 0 * 4 + k) + 1 = r * 480 + w * 80 + 0 * 4 + (k + 1) from by first | rfl | omega | simp_all))
            have hl : lv_has ls 8 [(7, .int (nI (r * 480 + w * 80 + 0 * 4 + (k + 1)))), (6, .int ((ltE st (r * 480 + w * 80 + 0 * 4) (k + 1)).2)), (5, .int (st.2.1 (r * 480 + w * 80 + 0 * 4 + k))), (4, .int (nI (r * 480 + w * 80 + 1 * 4))), (3, .int (nI (r * 480 + w * 80 + 0 * 4))), (0, .ref (q 0)), (1, .int (nI r)), (2, .int (nI w))] := lv_rep hl 1 rfl (congrArg Value.int (show st.2.2.1 (r * 480 + w * 80 + 0 * 4 + k) = (ltE st (r * 480 + w * 80 + 0 * 4) (k + 1)).2 from by simp only [ltE]; first | rw [if_pos c_38] | rw [if_neg c_38, if_pos c_50] | rw [if_neg c_38, if_neg c_50]))
            have hl : lv_has ls 8 [(7, .int (nI (r * 480 + w * 80 + 0 * 4 + (k + 1)))), (6, .int ((ltE st (r * 480 + w * 80 + 0 * 4) (k + 1)).2)), (5, .int ((ltE st (r * 480 + w * 80 + 0 * 4) (k + 1)).1)), (4, .int (nI (r * 480 + w * 80 + 1 * 4))), (3, .int (nI (r * 480 + w * 80 + 0 * 4))), (0, .ref (q 0)), (1, .int (nI r)), (2, .int (nI w))] := lv_rep hl 2 rfl (congrArg Value.int (show st.2.1 (r * 480 + w * 80 + 0 * 4 + k) = (ltE st (r * 480 + w * 80 + 0 * 4) (k + 1)).1 from by simp only [ltE]; first | rw [if_pos c_38] | rw [if_neg c_38, if_pos c_50] | rw [if_neg c_38, if_neg c_50]))
            exact ih_24 (k + 1) (by omega) (by omega) ls hl
  have hl : lv_has ls 8 [(7, .int (nI (r * 480 + w * 80 + 0 * 4))), (6, .int (-1)), (5, .int (nI 0)), (4, .int (nI (r * 480 + w * 80 + 1 * 4))), (3, .int (nI (r * 480 + w * 80 + 0 * 4))), (0, .ref (q 0)), (1, .int (nI r)), (2, .int (nI w))] := lv_sub hl [0, 1, 2, 3, 4, 5, 6, 7] rfl
  have hl : lv_has ls 8 [(7, .int (nI (r * 480 + w * 80 + 0 * 4 + 0))), (6, .int (-1)), (5, .int (nI 0)), (4, .int (nI (r * 480 + w * 80 + 1 * 4))), (3, .int (nI (r * 480 + w * 80 + 0 * 4))), (0, .ref (q 0)), (1, .int (nI r)), (2, .int (nI w))] := lv_rep hl 0 rfl (congrArg (fun z => Value.int (nI z)) (show r * 480 + w * 80 + 0 * 4 = r * 480 + w * 80 + 0 * 4 + 0 from by first | rfl | omega | simp_all))
  have hl : lv_has ls 8 [(7, .int (nI (r * 480 + w * 80 + 0 * 4 + 0))), (6, .int ((ltE st (r * 480 + w * 80 + 0 * 4) 0).2)), (5, .int (nI 0)), (4, .int (nI (r * 480 + w * 80 + 1 * 4))), (3, .int (nI (r * 480 + w * 80 + 0 * 4))), (0, .ref (q 0)), (1, .int (nI r)), (2, .int (nI w))] := lv_rep hl 1 rfl (congrArg Value.int (show (-1) = (ltE st (r * 480 + w * 80 + 0 * 4) 0).2 from rfl))
  have hl : lv_has ls 8 [(7, .int (nI (r * 480 + w * 80 + 0 * 4 + 0))), (6, .int ((ltE st (r * 480 + w * 80 + 0 * 4) 0).2)), (5, .int ((ltE st (r * 480 + w * 80 + 0 * 4) 0).1)), (4, .int (nI (r * 480 + w * 80 + 1 * 4))), (3, .int (nI (r * 480 + w * 80 + 0 * 4))), (0, .ref (q 0)), (1, .int (nI r)), (2, .int (nI w))] := lv_rep hl 2 rfl (congrArg Value.int (show nI 0 = (ltE st (r * 480 + w * 80 + 0 * 4) 0).1 from rfl))
  exact L24_1 (4 + 1) (0) (by omega) (by omega) ls hl
abbrev rmX1_rankInCell : Room := { frames := 0, cells := 0, slots := 0, locals := 0 }
set_option maxHeartbeats 4000000 in
set_option maxRecDepth 100000 in
theorem c_X1_rankInCell (l : Launch) (D : va_G) (cI : ClassId) (q : Nat → Nat) (st : St) (a b j : Nat) (hab : a ≤ b) (hb9 : b ≤ 1920) (hj : j < 1920) : MQi l yX1_rankInCell wsX1_rankInCell rmX1_rankInCell [.ref (q 0), .int (nI a), .int (nI b), .int (nI j)] D [(cI, .int)] (wS cI q st) (fun rz => rz = nI (rkE st a j (b - a))) := by
  refine met_q (own := RX1) (cc := cX1_rankInCell) (maxL := 7) (ty := .int) (by decide) rfl rfl (Nat.le_of_ble_eq_true rfl) ?_
  intro p e s m args below meth c Q S hq hE ls hl
  obtain ⟨hx, hb, hml, hown, hts⟩ := id S
  have k11 := hts (.fieldLink RX1 11 "CausalTable$State" "numbers" "[I") (by decide +kernel)
  have hin1 := (show ∀ w ∈ wsX10, w ∈ wsX1_rankInCell by decide +kernel)
  have k18 := hts (.fieldLink RX1 18 "CausalTable$State" "values" "[I") (by decide +kernel)
  have hl : lv_has ls 7 [(0, .ref (q 0)), (1, .int (nI a)), (2, .int (nI b)), (3, .int (nI j))] := hl
  refine lv_iconst (v := nI 0) hx hb dX1_rankInCell_0 kc_iconst_0 ?_
  refine lv_istore (lv' := [(4, .int (nI 0)), (0, .ref (q 0)), (1, .int (nI a)), (2, .int (nI b)), (3, .int (nI j))]) hx hb dX1_rankInCell_1 hl (by decide) rfl (fun ls hl => ?_)
  refine lv_iload_n hx hb dX1_rankInCell_3 rfl (lv_at hl 2 rfl) ?_
  refine lv_istore (lv' := [(5, .int (nI a)), (4, .int (nI 0)), (0, .ref (q 0)), (1, .int (nI a)), (2, .int (nI b)), (3, .int (nI j))]) hx hb dX1_rankInCell_4 hl (by decide) rfl (fun ls hl => ?_)
  have L6_1 : ∀ (fu_2 k : Nat), k ≤ b - a → b - a - k < fu_2 → ∀ ls : Array Slot, lv_has ls 7 [(5, .int (nI (a + k))), (4, .int (nI (rkE st a j k))), (0, .ref (q 0)), (1, .int (nI a)), (2, .int (nI b)), (3, .int (nI j))] → W p l e rmX1_rankInCell s m args below meth c s.heap [] 0 0 Q (F0 m 6 ls []) := by
    intro fu_2
    induction fu_2 with
    | zero => intro k _ h9; exact absurd h9 (Nat.not_lt_zero _)
    | succ fu_2 ih_6 =>
      intro k hk_6 hf_6 ls hl
      refine lv_iload hx hb dX1_rankInCell_6 (lv_at hl 0 rfl) ?_
      refine lv_iload_n hx hb dX1_rankInCell_8 rfl (lv_at hl 4 rfl) ?_
      refine r_icmp_geN (tgt := 81) hx hb (by omega) (by omega) dX1_rankInCell_9 (by decide) (fun c_9 => ?_) (fun c_9 => ?_)
      ·
        refine lv_iload hx hb dX1_rankInCell_81 (lv_at hl 1 rfl) ?_
        exact hE dX1_rankInCell_83 (rfl) (show nI (rkE st a j k) = nI (rkE st a j (b - a)) from by rw [show k = b - a by omega])
      ·
        have J55_3 : ∀ ls : Array Slot, lv_has ls 7 [(5, .int (nI (a + k))), (4, .int (nI (rkE st a j k))), (0, .ref (q 0)), (1, .int (nI a)), (2, .int (nI b)), (3, .int (nI j))] → W p l e rmX1_rankInCell s m args below meth c s.heap [] 0 0 Q (F0 m 55 ls [.int (b2 (befP st (a + k) j))]) := by
          intro ls hl
          refine lv_istore (lv' := [(6, .int (b2 (befP st (a + k) j))), (5, .int (nI (a + k))), (4, .int (nI (rkE st a j k))), (0, .ref (q 0)), (1, .int (nI a)), (2, .int (nI b)), (3, .int (nI j))]) hx hb dX1_rankInCell_55 hl (by decide) rfl (fun ls hl => ?_)
          refine lv_aload_n hx hb dX1_rankInCell_57 rfl (lv_at hl 3 rfl) ?_
          refine r_get hx hb hts hown hq 0 0 hin1 rfl rfl (by decide) k11 rfl dX1_rankInCell_58 ?_
          refine lv_iload hx hb dX1_rankInCell_61 (lv_at hl 1 rfl) ?_
          refine r_ald hx hb hq 1 0 rfl rfl (i := a + k) (by omega) (by decide) dX1_rankInCell_63 ?_
          refine lv_if_eq (tgt := 75) hx hb dX1_rankInCell_64 (by decide) (fun c_64 => ?_) (fun c_64 => ?_)
          ·
            refine lv_iinc (v := nI ((a + k) + 1)) (lv' := [(5, .int (nI ((a + k) + 1))), (6, .int (b2 (befP st (a + k) j))), (4, .int (nI (rkE st a j k))), (0, .ref (q 0)), (1, .int (nI a)), (2, .int (nI b)), (3, .int (nI j))]) hx hb dX1_rankInCell_75 hl (k := 1) rfl (nI_add (a + k) 1) (by decide) rfl (fun ls hl => ?_)
            refine lv_goto (tgt := 6) hx hb dX1_rankInCell_78 (by decide) ?_
            have hl : lv_has ls 7 [(5, .int (nI ((a + k) + 1))), (4, .int (nI (rkE st a j k))), (0, .ref (q 0)), (1, .int (nI a)), (2, .int (nI b)), (3, .int (nI j))] := lv_sub hl [0, 2, 3, 4, 5, 6] rfl
            have hl : lv_has ls 7 [(5, .int (nI (a + (k + 1)))), (4, .int (nI (rkE st a j k))), (0, .ref (q 0)), (1, .int (nI a)), (2, .int (nI b)), (3, .int (nI j))] := lv_rep hl 0 rfl (congrArg (fun z => Value.int (nI z)) (show (a + k) + 1 = a + (k + 1) from by first | rfl | omega | simp_all))
            have hl : lv_has ls 7 [(5, .int (nI (a + (k + 1)))), (4, .int (nI (rkE st a j (k + 1)))), (0, .ref (q 0)), (1, .int (nI a)), (2, .int (nI b)), (3, .int (nI j))] := lv_rep hl 1 rfl (congrArg (fun z => Value.int (nI z)) (show rkE st a j k = rkE st a j (k + 1) from by first | exact rkE_p c_64 c_69 | exact rkE_n1 c_64 | exact rkE_n2 c_69))
            exact ih_6 (k + 1) (by omega) (by omega) ls hl
          ·
            refine lv_iload hx hb dX1_rankInCell_67 (lv_at hl 0 rfl) ?_
            refine r_if_eqB (tgt := 75) hx hb dX1_rankInCell_69 (by decide) (fun c_69 => ?_) (fun c_69 => ?_)
            ·
              refine lv_iinc (v := nI ((a + k) + 1)) (lv' := [(5, .int (nI ((a + k) + 1))), (6, .int (b2 (befP st (a + k) j))), (4, .int (nI (rkE st a j k))), (0, .ref (q 0)), (1, .int (nI a)), (2, .int (nI b)), (3, .int (nI j))]) hx hb dX1_rankInCell_75 hl (k := 1) rfl (nI_add (a + k) 1) (by decide) rfl (fun ls hl => ?_)
              refine lv_goto (tgt := 6) hx hb dX1_rankInCell_78 (by decide) ?_
              have hl : lv_has ls 7 [(5, .int (nI ((a + k) + 1))), (4, .int (nI (rkE st a j k))), (0, .ref (q 0)), (1, .int (nI a)), (2, .int (nI b)), (3, .int (nI j))] := lv_sub hl [0, 2, 3, 4, 5, 6] rfl
              have hl : lv_has ls 7 [(5, .int (nI (a + (k + 1)))), (4, .int (nI (rkE st a j k))), (0, .ref (q 0)), (1, .int (nI a)), (2, .int (nI b)), (3, .int (nI j))] := lv_rep hl 0 rfl (congrArg (fun z => Value.int (nI z)) (show (a + k) + 1 = a + (k + 1) from by first | rfl | omega | simp_all))
              have hl : lv_has ls 7 [(5, .int (nI (a + (k + 1)))), (4, .int (nI (rkE st a j (k + 1)))), (0, .ref (q 0)), (1, .int (nI a)), (2, .int (nI b)), (3, .int (nI j))] := lv_rep hl 1 rfl (congrArg (fun z => Value.int (nI z)) (show rkE st a j k = rkE st a j (k + 1) from by first | exact rkE_p c_64 c_69 | exact rkE_n1 c_64 | exact rkE_n2 c_69))
              exact ih_6 (k + 1) (by omega) (by omega) ls hl
            ·
              refine lv_iinc (v := nI ((rkE st a j k) + 1)) (lv' := [(4, .int (nI ((rkE st a j k) + 1))), (6, .int (b2 (befP st (a + k) j))), (5, .int (nI (a + k))), (0, .ref (q 0)), (1, .int (nI a)), (2, .int (nI b)), (3, .int (nI j))]) hx hb dX1_rankInCell_72 hl (k := 2) rfl (nI_add (rkE st a j k) 1) (by decide) rfl (fun ls hl => ?_)
              refine lv_iinc (v := nI ((a + k) + 1)) (lv' := [(5, .int (nI ((a + k) + 1))), (4, .int (nI ((rkE st a j k) + 1))), (6, .int (b2 (befP st (a + k) j))), (0, .ref (q 0)), (1, .int (nI a)), (2, .int (nI b)), (3, .int (nI j))]) hx hb dX1_rankInCell_75 hl (k := 2) rfl (nI_add (a + k) 1) (by decide) rfl (fun ls hl => ?_)
              refine lv_goto (tgt := 6) hx hb dX1_rankInCell_78 (by decide) ?_
              have hl : lv_has ls 7 [(5, .int (nI ((a + k) + 1))), (4, .int (nI ((rkE st a j k) + 1))), (0, .ref (q 0)), (1, .int (nI a)), (2, .int (nI b)), (3, .int (nI j))] := lv_sub hl [0, 1, 3, 4, 5, 6] rfl
              have hl : lv_has ls 7 [(5, .int (nI (a + (k + 1)))), (4, .int (nI ((rkE st a j k) + 1))), (0, .ref (q 0)), (1, .int (nI a)), (2, .int (nI b)), (3, .int (nI j))] := lv_rep hl 0 rfl (congrArg (fun z => Value.int (nI z)) (show (a + k) + 1 = a + (k + 1) from by first | rfl | omega | simp_all))
              have hl : lv_has ls 7 [(5, .int (nI (a + (k + 1)))), (4, .int (nI (rkE st a j (k + 1)))), (0, .ref (q 0)), (1, .int (nI a)), (2, .int (nI b)), (3, .int (nI j))] := lv_rep hl 1 rfl (congrArg (fun z => Value.int (nI z)) (show (rkE st a j k) + 1 = rkE st a j (k + 1) from by first | exact rkE_p c_64 c_69 | exact rkE_n1 c_64 | exact rkE_n2 c_69))
              exact ih_6 (k + 1) (by omega) (by omega) ls hl
        refine lv_aload_n hx hb dX1_rankInCell_12 rfl (lv_at hl 2 rfl) ?_
        refine r_get hx hb hts hown hq 0 2 hin1 rfl rfl (by decide) k18 rfl dX1_rankInCell_13 ?_
        refine lv_iload hx hb dX1_rankInCell_16 (lv_at hl 0 rfl) ?_
        refine r_ald hx hb hq 3 0 rfl rfl (i := a + k) (by omega) (by decide) dX1_rankInCell_18 ?_
        refine lv_aload_n hx hb dX1_rankInCell_19 rfl (lv_at hl 2 rfl) ?_
        refine r_get hx hb hts hown hq 0 2 hin1 rfl rfl (by decide) k18 rfl dX1_rankInCell_20 ?_
        refine lv_iload_n hx hb dX1_rankInCell_23 rfl (lv_at hl 5 rfl) ?_
        refine r_ald hx hb hq 3 0 rfl rfl (i := j) (by omega) (by decide) dX1_rankInCell_24 ?_
        refine lv_icmp_lt (tgt := 50) hx hb dX1_rankInCell_25 (by decide) (fun c_25 => ?_) (fun c_25 => ?_)
        ·
          refine lv_iconst (v := nI 1) hx hb dX1_rankInCell_50 kc_iconst_1 ?_
          refine lv_goto (tgt := 55) hx hb dX1_rankInCell_51 (by decide) ?_
          have hl : lv_has ls 7 [(5, .int (nI (a + k))), (4, .int (nI (rkE st a j k))), (0, .ref (q 0)), (1, .int (nI a)), (2, .int (nI b)), (3, .int (nI j))] := lv_sub hl [0, 1, 2, 3, 4, 5] rfl
          refine r_top hx (show nI 1 = b2 (befP st (a + k) j) from by first | exact ret1 (Or.inl c_25) | exact ret1 (Or.inr ⟨c_41, c_47⟩) | exact ret0 (P := befP st (a + k) j) (fun h => Or.elim h c_25 (fun h => c_41 h.1)) | exact ret0 (P := befP st (a + k) j) (fun h => Or.elim h c_25 (fun h => absurd h.2 (Nat.not_lt.mpr c_47)))) ?_
          exact J55_3 ls hl
        ·
          refine lv_aload_n hx hb dX1_rankInCell_28 rfl (lv_at hl 2 rfl) ?_
          refine r_get hx hb hts hown hq 0 2 hin1 rfl rfl (by decide) k18 rfl dX1_rankInCell_29 ?_
          refine lv_iload hx hb dX1_rankInCell_32 (lv_at hl 0 rfl) ?_
          refine r_ald hx hb hq 3 0 rfl rfl (i := a + k) (by omega) (by decide) dX1_rankInCell_34 ?_
          refine lv_aload_n hx hb dX1_rankInCell_35 rfl (lv_at hl 2 rfl) ?_
          refine r_get hx hb hts hown hq 0 2 hin1 rfl rfl (by decide) k18 rfl dX1_rankInCell_36 ?_
          refine lv_iload_n hx hb dX1_rankInCell_39 rfl (lv_at hl 5 rfl) ?_
          refine r_ald hx hb hq 3 0 rfl rfl (i := j) (by omega) (by decide) dX1_rankInCell_40 ?_
          refine lv_icmp_ne (tgt := 54) hx hb dX1_rankInCell_41 (by decide) (fun c_41 => ?_) (fun c_41 => ?_)
          ·
            refine lv_iconst (v := nI 0) hx hb dX1_rankInCell_54 kc_iconst_0 ?_
            have hl : lv_has ls 7 [(5, .int (nI (a + k))), (4, .int (nI (rkE st a j k))), (0, .ref (q 0)), (1, .int (nI a)), (2, .int (nI b)), (3, .int (nI j))] := lv_sub hl [0, 1, 2, 3, 4, 5] rfl
            refine r_top hx (show nI 0 = b2 (befP st (a + k) j) from by first | exact ret1 (Or.inl c_25) | exact ret1 (Or.inr ⟨c_41, c_47⟩) | exact ret0 (P := befP st (a + k) j) (fun h => Or.elim h c_25 (fun h => c_41 h.1)) | exact ret0 (P := befP st (a + k) j) (fun h => Or.elim h c_25 (fun h => absurd h.2 (Nat.not_lt.mpr c_47)))) ?_
            exact J55_3 ls hl
          ·
            refine lv_iload hx hb dX1_rankInCell_44 (lv_at hl 0 rfl) ?_
            refine lv_iload_n hx hb dX1_rankInCell_46 rfl (lv_at hl 5 rfl) ?_
            refine r_icmp_geN (tgt := 54) hx hb (by omega) (by omega) dX1_rankInCell_47 (by decide) (fun c_47 => ?_) (fun c_47 => ?_)
            ·
              refine lv_iconst (v := nI 0) hx hb dX1_rankInCell_54 kc_iconst_0 ?_
              have hl : lv_has ls 7 [(5, .int (nI (a + k))), (4, .int (nI (rkE st a j k))), (0, .ref (q 0)), (1, .int (nI a)), (2, .int (nI b)), (3, .int (nI j))] := lv_sub hl [0, 1, 2, 3, 4, 5] rfl
              refine r_top hx (show nI 0 = b2 (befP st (a + k) j) from by first | exact ret1 (Or.inl c_25) | exact ret1 (Or.inr ⟨c_41, c_47⟩) | exact ret0 (P := befP st (a + k) j) (fun h => Or.elim h c_25 (fun h => c_41 h.1)) | exact ret0 (P := befP st (a + k) j) (fun h => Or.elim h c_25 (fun h => absurd h.2 (Nat.not_lt.mpr c_47)))) ?_
              exact J55_3 ls hl
            ·
              refine lv_iconst (v := nI 1) hx hb dX1_rankInCell_50 kc_iconst_1 ?_
              refine lv_goto (tgt := 55) hx hb dX1_rankInCell_51 (by decide) ?_
              have hl : lv_has ls 7 [(5, .int (nI (a + k))), (4, .int (nI (rkE st a j k))), (0, .ref (q 0)), (1, .int (nI a)), (2, .int (nI b)), (3, .int (nI j))] := lv_sub hl [0, 1, 2, 3, 4, 5] rfl
              refine r_top hx (show nI 1 = b2 (befP st (a + k) j) from by first | exact ret1 (Or.inl c_25) | exact ret1 (Or.inr ⟨c_41, c_47⟩) | exact ret0 (P := befP st (a + k) j) (fun h => Or.elim h c_25 (fun h => c_41 h.1)) | exact ret0 (P := befP st (a + k) j) (fun h => Or.elim h c_25 (fun h => absurd h.2 (Nat.not_lt.mpr c_47)))) ?_
              exact J55_3 ls hl
  have hl : lv_has ls 7 [(5, .int (nI a)), (4, .int (nI 0)), (0, .ref (q 0)), (1, .int (nI a)), (2, .int (nI b)), (3, .int (nI j))] := lv_sub hl [0, 1, 2, 3, 4, 5] rfl
  have hl : lv_has ls 7 [(5, .int (nI (a + 0))), (4, .int (nI 0)), (0, .ref (q 0)), (1, .int (nI a)), (2, .int (nI b)), (3, .int (nI j))] := lv_rep hl 0 rfl (congrArg (fun z => Value.int (nI z)) (show a = a + 0 from by first | rfl | omega | simp_all))
  have hl : lv_has ls 7 [(5, .int (nI (a + 0))), (4, .int (nI (rkE st a j 0))), (0, .ref (q 0)), (1, .int (nI a)), (2, .int (nI b)), (3, .int (nI j))] := lv_rep hl 1 rfl (congrArg (fun z => Value.int (nI z)) (show 0 = rkE st a j 0 from rfl))
  exact L6_1 (b - a + 1) (0) (by omega) (by omega) ls hl
abbrev rmX1_siblingAt : Room := { frames := 2, cells := 0, slots := 0, locals := 44 }
set_option maxHeartbeats 4000000 in
set_option maxRecDepth 100000 in
theorem c_X1_siblingAt (l : Launch) (D : va_G) (cI : ClassId) (q : Nat → Nat) (st : St) (r w : Nat) (x : Int32) (hr : r < 4) (hw5 : w < 6) : MQi l yX1_siblingAt wsX1_siblingAt rmX1_siblingAt [.ref (q 0), .int (nI r), .int (nI w), .int x] D [(cI, .int)] (wS cI q st) (fun rz => rz = sbE st (r * 480 + w * 80 + 1 * 4) 4 x 4 0) := by
  refine met_q (own := RX1) (cc := cX1_siblingAt) (maxL := 7) (ty := .int) (by decide) rfl rfl (Nat.le_of_ble_eq_true rfl) ?_
  intro p e s m args below meth c Q S hq hE ls hl
  obtain ⟨hx, hb, hml, hown, hts⟩ := id S
  have k11 := hts (.fieldLink RX1 11 "CausalTable$State" "numbers" "[I") (by decide +kernel)
  have hin1 := (show ∀ w ∈ wsX10, w ∈ wsX1_siblingAt by decide +kernel)
  have k18 := hts (.fieldLink RX1 18 "CausalTable$State" "values" "[I") (by decide +kernel)
  have hl : lv_has ls 7 [(0, .ref (q 0)), (1, .int (nI r)), (2, .int (nI w)), (3, .int x)] := hl
  refine lv_iload_n hx hb dX1_siblingAt_0 rfl (lv_at hl 1 rfl) ?_
  refine lv_iload_n hx hb dX1_siblingAt_1 rfl (lv_at hl 2 rfl) ?_
  refine lv_iconst (v := nI 1) hx hb dX1_siblingAt_2 kc_iconst_1 ?_
  refine cq_S (As := [.int (nI r), .int (nI w), .int (nI 1)]) (rest := []) S (c_X1_cellStart l D (r := r) (w := w) (g := 1)) (va_cwS 3 hts gX1_siblingAt_X1_cellStart rfl rfl rfl (by decide +kernel) ⟨Nat.le_of_ble_eq_true rfl, Nat.le_of_ble_eq_true rfl⟩) (hq.sub [] [] rfl rfl) rfl hl.1 (Nat.le_of_ble_eq_true rfl) ⟨Nat.le_of_ble_eq_true rfl, Nat.le_of_ble_eq_true rfl⟩ rfl dX1_siblingAt_3 (fun r_3 e_3 => ?_)
  have e_3 : r_3 = nI (r * 480 + w * 80 + 1 * 4) := e_3
  subst e_3
  refine lv_istore (lv' := [(4, .int (nI (r * 480 + w * 80 + 1 * 4))), (0, .ref (q 0)), (1, .int (nI r)), (2, .int (nI w)), (3, .int x)]) hx hb dX1_siblingAt_6 hl (by decide) rfl (fun ls hl => ?_)
  refine lv_iload_n hx hb dX1_siblingAt_8 rfl (lv_at hl 2 rfl) ?_
  refine lv_iload_n hx hb dX1_siblingAt_9 rfl (lv_at hl 3 rfl) ?_
  refine lv_iconst (v := nI 1) hx hb dX1_siblingAt_10 kc_iconst_1 ?_
  refine cq_S (As := [.int (nI r), .int (nI w), .int (nI 1)]) (rest := []) S (c_X1_cellEnd l D (r := r) (w := w) (g := 1) (hg := by omega)) (va_cwS 3 hts gX1_siblingAt_X1_cellEnd rfl rfl rfl (by decide +kernel) ⟨Nat.le_of_ble_eq_true rfl, Nat.le_of_ble_eq_true rfl⟩) (hq.sub [] [] rfl rfl) rfl hl.1 (Nat.le_of_ble_eq_true rfl) ⟨Nat.le_of_ble_eq_true rfl, Nat.le_of_ble_eq_true rfl⟩ rfl dX1_siblingAt_11 (fun r_11 e_11 => ?_)
  have e_11 : r_11 = nI (r * 480 + w * 80 + 2 * 4) := e_11
  subst e_11
  refine lv_istore (lv' := [(5, .int (nI (r * 480 + w * 80 + 2 * 4))), (4, .int (nI (r * 480 + w * 80 + 1 * 4))), (0, .ref (q 0)), (1, .int (nI r)), (2, .int (nI w)), (3, .int x)]) hx hb dX1_siblingAt_14 hl (by decide) rfl (fun ls hl => ?_)
  refine lv_iload hx hb dX1_siblingAt_16 (lv_at hl 1 rfl) ?_
  refine lv_istore (lv' := [(6, .int (nI (r * 480 + w * 80 + 1 * 4))), (5, .int (nI (r * 480 + w * 80 + 2 * 4))), (4, .int (nI (r * 480 + w * 80 + 1 * 4))), (0, .ref (q 0)), (1, .int (nI r)), (2, .int (nI w)), (3, .int x)]) hx hb dX1_siblingAt_18 hl (by decide) rfl (fun ls hl => ?_)
  have L20_1 : ∀ (fu_2 k : Nat), k ≤ 4 → 4 - k < fu_2 → (sbE st (r * 480 + w * 80 + 1 * 4) 4 x 4 0 = sbE st (r * 480 + w * 80 + 1 * 4) 4 x (4 - k) k) → ∀ ls : Array Slot, lv_has ls 7 [(6, .int (nI (r * 480 + w * 80 + 1 * 4 + k))), (5, .int (nI (r * 480 + w * 80 + 2 * 4))), (4, .int (nI (r * 480 + w * 80 + 1 * 4))), (0, .ref (q 0)), (1, .int (nI r)), (2, .int (nI w)), (3, .int x)] → W p l e rmX1_siblingAt s m args below meth c s.heap [] 0 0 Q (F0 m 20 ls []) := by
    intro fu_2
    induction fu_2 with
    | zero => intro k _ h9; exact absurd h9 (Nat.not_lt_zero _)
    | succ fu_2 ih_20 =>
      intro k hk_20 hf_20 hs ls hl
      refine lv_iload hx hb dX1_siblingAt_20 (lv_at hl 0 rfl) ?_
      refine lv_iload hx hb dX1_siblingAt_22 (lv_at hl 1 rfl) ?_
      refine r_icmp_geN (tgt := 65) hx hb (by omega) (by omega) dX1_siblingAt_24 (by decide) (fun c_24 => ?_) (fun c_24 => ?_)
      ·
        refine lv_iconst (v := (-1)) hx hb dX1_siblingAt_65 kc_iconst_m1 ?_
        exact hE dX1_siblingAt_66 (rfl) (show (-1) = sbE st (r * 480 + w * 80 + 1 * 4) 4 x 4 0 from by rw [hs, show 4 - k = 0 by omega]; rfl)
      ·
        refine lv_aload_n hx hb dX1_siblingAt_27 rfl (lv_at hl 3 rfl) ?_
        refine r_get hx hb hts hown hq 0 0 hin1 rfl rfl (by decide) k11 rfl dX1_siblingAt_28 ?_
        refine lv_iload hx hb dX1_siblingAt_31 (lv_at hl 0 rfl) ?_
        refine r_ald hx hb hq 1 0 rfl rfl (i := r * 480 + w * 80 + 1 * 4 + k) (by omega) (by decide) dX1_siblingAt_33 ?_
        refine lv_if_eq (tgt := 59) hx hb dX1_siblingAt_34 (by decide) (fun c_34 => ?_) (fun c_34 => ?_)
        ·
          refine lv_iinc (v := nI ((r * 480 + w * 80 + 1 * 4 + k) + 1)) (lv' := [(6, .int (nI ((r * 480 + w * 80 + 1 * 4 + k) + 1))), (5, .int (nI (r * 480 + w * 80 + 2 * 4))), (4, .int (nI (r * 480 + w * 80 + 1 * 4))), (0, .ref (q 0)), (1, .int (nI r)), (2, .int (nI w)), (3, .int x)]) hx hb dX1_siblingAt_59 hl (k := 0) rfl (nI_add (r * 480 + w * 80 + 1 * 4 + k) 1) (by decide) rfl (fun ls hl => ?_)
          refine lv_goto (tgt := 20) hx hb dX1_siblingAt_62 (by decide) ?_
          have hl : lv_has ls 7 [(6, .int (nI ((r * 480 + w * 80 + 1 * 4 + k) + 1))), (5, .int (nI (r * 480 + w * 80 + 2 * 4))), (4, .int (nI (r * 480 + w * 80 + 1 * 4))), (0, .ref (q 0)), (1, .int (nI r)), (2, .int (nI w)), (3, .int x)] := lv_sub hl [0, 1, 2, 3, 4, 5, 6] rfl
          have hl : lv_has ls 7 [(6, .int (nI (r * 480 + w * 80 + 1 * 4 + (k + 1)))), (5, .int (nI (r * 480 + w * 80 + 2 * 4))), (4, .int (nI (r * 480 + w * 80 + 1 * 4))), (0, .ref (q 0)), (1, .int (nI r)), (2, .int (nI w)), (3, .int x)] := lv_rep hl 0 rfl (congrArg (fun z => Value.int (nI z)) (show (r * 480 + w * 80 + 1 * 4 + k) + 1 = r * 480 + w * 80 + 1 * 4 + (k + 1) from by first | rfl | omega | simp_all))
          exact ih_20 (k + 1) (by omega) (by omega) (by rw [hs, show 4 - k = (4 - (k + 1)) + 1 by omega]; simp only [sbE]; rw [if_neg (by simp_all)]) ls hl
        ·
          refine lv_aload_n hx hb dX1_siblingAt_37 rfl (lv_at hl 3 rfl) ?_
          refine lv_iload hx hb dX1_siblingAt_38 (lv_at hl 2 rfl) ?_
          refine lv_iload hx hb dX1_siblingAt_40 (lv_at hl 1 rfl) ?_
          refine lv_iload hx hb dX1_siblingAt_42 (lv_at hl 0 rfl) ?_
          refine cq_V (As := [.int (nI (r * 480 + w * 80 + 1 * 4)), .int (nI (r * 480 + w * 80 + 2 * 4)), .int (nI (r * 480 + w * 80 + 1 * 4 + k))]) (rest := []) S (c_X1_rankInCell l D (cI := cI) (q := q) (st := st) (a := r * 480 + w * 80 + 1 * 4) (b := r * 480 + w * 80 + 2 * 4) (j := r * 480 + w * 80 + 1 * 4 + k) (hab := by omega) (hb9 := by omega) (hj := by omega)) (cwV 3 hts gX1_siblingAt_X1_rankInCell rfl rfl rfl (by decide +kernel) ⟨Nat.le_of_ble_eq_true rfl, Nat.le_of_ble_eq_true rfl⟩) (hq.sub [0, 1, 2, 3, 4, 5, 6] [0] rfl rfl) 0 rfl rfl rfl hl.1 (Nat.le_of_ble_eq_true rfl) ⟨Nat.le_of_ble_eq_true rfl, Nat.le_of_ble_eq_true rfl⟩ rfl dX1_siblingAt_44 (fun r_44 e_44 => ?_)
          have e_44 : r_44 = nI (rkE st (r * 480 + w * 80 + 1 * 4) (r * 480 + w * 80 + 1 * 4 + k) 4) := e_44.trans (by rw [show r * 480 + w * 80 + 2 * 4 - (r * 480 + w * 80 + 1 * 4) = 4 by omega])
          subst e_44
          refine lv_iload_n hx hb dX1_siblingAt_47 rfl (lv_at hl 6 rfl) ?_
          refine lv_icmp_ne (tgt := 59) hx hb dX1_siblingAt_48 (by decide) (fun c_48 => ?_) (fun c_48 => ?_)
          ·
            refine lv_iinc (v := nI ((r * 480 + w * 80 + 1 * 4 + k) + 1)) (lv' := [(6, .int (nI ((r * 480 + w * 80 + 1 * 4 + k) + 1))), (5, .int (nI (r * 480 + w * 80 + 2 * 4))), (4, .int (nI (r * 480 + w * 80 + 1 * 4))), (0, .ref (q 0)), (1, .int (nI r)), (2, .int (nI w)), (3, .int x)]) hx hb dX1_siblingAt_59 hl (k := 0) rfl (nI_add (r * 480 + w * 80 + 1 * 4 + k) 1) (by decide) rfl (fun ls hl => ?_)
            refine lv_goto (tgt := 20) hx hb dX1_siblingAt_62 (by decide) ?_
            have hl : lv_has ls 7 [(6, .int (nI ((r * 480 + w * 80 + 1 * 4 + k) + 1))), (5, .int (nI (r * 480 + w * 80 + 2 * 4))), (4, .int (nI (r * 480 + w * 80 + 1 * 4))), (0, .ref (q 0)), (1, .int (nI r)), (2, .int (nI w)), (3, .int x)] := lv_sub hl [0, 1, 2, 3, 4, 5, 6] rfl
            have hl : lv_has ls 7 [(6, .int (nI (r * 480 + w * 80 + 1 * 4 + (k + 1)))), (5, .int (nI (r * 480 + w * 80 + 2 * 4))), (4, .int (nI (r * 480 + w * 80 + 1 * 4))), (0, .ref (q 0)), (1, .int (nI r)), (2, .int (nI w)), (3, .int x)] := lv_rep hl 0 rfl (congrArg (fun z => Value.int (nI z)) (show (r * 480 + w * 80 + 1 * 4 + k) + 1 = r * 480 + w * 80 + 1 * 4 + (k + 1) from by first | rfl | omega | simp_all))
            exact ih_20 (k + 1) (by omega) (by omega) (by rw [hs, show 4 - k = (4 - (k + 1)) + 1 by omega]; simp only [sbE]; rw [if_neg (by simp_all)]) ls hl
          ·
            refine lv_aload_n hx hb dX1_siblingAt_51 rfl (lv_at hl 3 rfl) ?_
            refine r_get hx hb hts hown hq 0 2 hin1 rfl rfl (by decide) k18 rfl dX1_siblingAt_52 ?_
            refine lv_iload hx hb dX1_siblingAt_55 (lv_at hl 0 rfl) ?_
            refine r_ald hx hb hq 3 0 rfl rfl (i := r * 480 + w * 80 + 1 * 4 + k) (by omega) (by decide) dX1_siblingAt_57 ?_
            exact hE dX1_siblingAt_58 (rfl) (show st.2.2.1 (r * 480 + w * 80 + 1 * 4 + k) = sbE st (r * 480 + w * 80 + 1 * 4) 4 x 4 0 from by rw [hs, show 4 - k = (4 - (k + 1)) + 1 by omega]; simp only [sbE]; rw [if_pos ⟨c_34, c_48⟩])
  have hl : lv_has ls 7 [(6, .int (nI (r * 480 + w * 80 + 1 * 4))), (5, .int (nI (r * 480 + w * 80 + 2 * 4))), (4, .int (nI (r * 480 + w * 80 + 1 * 4))), (0, .ref (q 0)), (1, .int (nI r)), (2, .int (nI w)), (3, .int x)] := lv_sub hl [0, 1, 2, 3, 4, 5, 6] rfl
  have hl : lv_has ls 7 [(6, .int (nI (r * 480 + w * 80 + 1 * 4 + 0))), (5, .int (nI (r * 480 + w * 80 + 2 * 4))), (4, .int (nI (r * 480 + w * 80 + 1 * 4))), (0, .ref (q 0)), (1, .int (nI r)), (2, .int (nI w)), (3, .int x)] := lv_rep hl 0 rfl (congrArg (fun z => Value.int (nI z)) (show r * 480 + w * 80 + 1 * 4 = r * 480 + w * 80 + 1 * 4 + 0 from by first | rfl | omega | simp_all))
  exact L20_1 (4 + 1) (0) (by omega) (by omega) (rfl) ls hl
abbrev rmX1_sumOfCell : Room := { frames := 2, cells := 0, slots := 0, locals := 44 }
set_option maxHeartbeats 4000000 in
set_option maxRecDepth 100000 in
theorem c_X1_sumOfCell (l : Launch) (D : va_G) (cI : ClassId) (q : Nat → Nat) (st : St) (r w g : Nat) (hr : r < 4) (hw5 : w < 6) (hg : g < 5) : MQi l yX1_sumOfCell wsX1_sumOfCell rmX1_sumOfCell [.ref (q 0), .int (nI r), .int (nI w), .int (nI g)] D [(cI, .int)] (wS cI q st) (fun rz => rz = smE st (r * 480 + w * 80 + g * 4) (cE g * 4 - g * 4)) := by
  refine met_q (own := RX1) (cc := cX1_sumOfCell) (maxL := 7) (ty := .int) (by decide) rfl rfl (Nat.le_of_ble_eq_true rfl) ?_
  intro p e s m args below meth c Q S hq hE ls hl
  obtain ⟨hx, hb, hml, hown, hts⟩ := id S
  have k11 := hts (.fieldLink RX1 11 "CausalTable$State" "numbers" "[I") (by decide +kernel)
  have hin1 := (show ∀ w ∈ wsX10, w ∈ wsX1_sumOfCell by decide +kernel)
  have k18 := hts (.fieldLink RX1 18 "CausalTable$State" "values" "[I") (by decide +kernel)
  have hl : lv_has ls 7 [(0, .ref (q 0)), (1, .int (nI r)), (2, .int (nI w)), (3, .int (nI g))] := hl
  have hcE := cE_b g hg
  refine lv_iload_n hx hb dX1_sumOfCell_0 rfl (lv_at hl 1 rfl) ?_
  refine lv_iload_n hx hb dX1_sumOfCell_1 rfl (lv_at hl 2 rfl) ?_
  refine lv_iload_n hx hb dX1_sumOfCell_2 rfl (lv_at hl 3 rfl) ?_
  refine cq_S (As := [.int (nI r), .int (nI w), .int (nI g)]) (rest := []) S (c_X1_cellEnd l D (r := r) (w := w) (g := g) (hg := by omega)) (va_cwS 3 hts gX1_sumOfCell_X1_cellEnd rfl rfl rfl (by decide +kernel) ⟨Nat.le_of_ble_eq_true rfl, Nat.le_of_ble_eq_true rfl⟩) (hq.sub [] [] rfl rfl) rfl hl.1 (Nat.le_of_ble_eq_true rfl) ⟨Nat.le_of_ble_eq_true rfl, Nat.le_of_ble_eq_true rfl⟩ rfl dX1_sumOfCell_3 (fun r_3 e_3 => ?_)
  have e_3 : r_3 = nI (r * 480 + w * 80 + cE g * 4) := e_3
  subst e_3
  refine lv_istore (lv' := [(4, .int (nI (r * 480 + w * 80 + cE g * 4))), (0, .ref (q 0)), (1, .int (nI r)), (2, .int (nI w)), (3, .int (nI g))]) hx hb dX1_sumOfCell_6 hl (by decide) rfl (fun ls hl => ?_)
  refine lv_iconst (v := nI 0) hx hb dX1_sumOfCell_8 kc_iconst_0 ?_
  refine lv_istore (lv' := [(5, .int (nI 0)), (4, .int (nI (r * 480 + w * 80 + cE g * 4))), (0, .ref (q 0)), (1, .int (nI r)), (2, .int (nI w)), (3, .int (nI g))]) hx hb dX1_sumOfCell_9 hl (by decide) rfl (fun ls hl => ?_)
  refine lv_iload_n hx hb dX1_sumOfCell_11 rfl (lv_at hl 3 rfl) ?_
  refine lv_iload_n hx hb dX1_sumOfCell_12 rfl (lv_at hl 4 rfl) ?_
  refine lv_iload_n hx hb dX1_sumOfCell_13 rfl (lv_at hl 5 rfl) ?_
  refine cq_S (As := [.int (nI r), .int (nI w), .int (nI g)]) (rest := []) S (c_X1_cellStart l D (r := r) (w := w) (g := g)) (va_cwS 3 hts gX1_sumOfCell_X1_cellStart rfl rfl rfl (by decide +kernel) ⟨Nat.le_of_ble_eq_true rfl, Nat.le_of_ble_eq_true rfl⟩) (hq.sub [] [] rfl rfl) rfl hl.1 (Nat.le_of_ble_eq_true rfl) ⟨Nat.le_of_ble_eq_true rfl, Nat.le_of_ble_eq_true rfl⟩ rfl dX1_sumOfCell_14 (fun r_14 e_14 => ?_)
  have e_14 : r_14 = nI (r * 480 + w * 80 + g * 4) := e_14
  subst e_14
  refine lv_istore (lv' := [(6, .int (nI (r * 480 + w * 80 + g * 4))), (5, .int (nI 0)), (4, .int (nI (r * 480 + w * 80 + cE g * 4))), (0, .ref (q 0)), (1, .int (nI r)), (2, .int (nI w)), (3, .int (nI g))]) hx hb dX1_sumOfCell_17 hl (by decide) rfl (fun ls hl => ?_)
  have L19_1 : ∀ (fu_2 k : Nat), k ≤ cE g * 4 - g * 4 → cE g * 4 - g * 4 - k < fu_2 → ∀ ls : Array Slot, lv_has ls 7 [(6, .int (nI (r * 480 + w * 80 + g * 4 + k))), (5, .int (smE st (r * 480 + w * 80 + g * 4) k)), (4, .int (nI (r * 480 + w * 80 + cE g * 4))), (0, .ref (q 0)), (1, .int (nI r)), (2, .int (nI w)), (3, .int (nI g))] → W p l e rmX1_sumOfCell s m args below meth c s.heap [] 0 0 Q (F0 m 19 ls []) := by
    intro fu_2
    induction fu_2 with
    | zero => intro k _ h9; exact absurd h9 (Nat.not_lt_zero _)
    | succ fu_2 ih_19 =>
      intro k hk_19 hf_19 ls hl
      refine lv_iload hx hb dX1_sumOfCell_19 (lv_at hl 0 rfl) ?_
      refine lv_iload hx hb dX1_sumOfCell_21 (lv_at hl 2 rfl) ?_
      refine r_icmp_geN (tgt := 54) hx hb (by omega) (by omega) dX1_sumOfCell_23 (by decide) (fun c_23 => ?_) (fun c_23 => ?_)
      ·
        refine lv_iload hx hb dX1_sumOfCell_54 (lv_at hl 1 rfl) ?_
        exact hE dX1_sumOfCell_56 (rfl) (show smE st (r * 480 + w * 80 + g * 4) k = smE st (r * 480 + w * 80 + g * 4) (cE g * 4 - g * 4) from by rw [show k = cE g * 4 - g * 4 by omega])
      ·
        refine lv_aload_n hx hb dX1_sumOfCell_26 rfl (lv_at hl 3 rfl) ?_
        refine r_get hx hb hts hown hq 0 0 hin1 rfl rfl (by decide) k11 rfl dX1_sumOfCell_27 ?_
        refine lv_iload hx hb dX1_sumOfCell_30 (lv_at hl 0 rfl) ?_
        refine r_ald hx hb hq 1 0 rfl rfl (i := r * 480 + w * 80 + g * 4 + k) (by omega) (by decide) dX1_sumOfCell_32 ?_
        refine lv_if_eq (tgt := 48) hx hb dX1_sumOfCell_33 (by decide) (fun c_33 => ?_) (fun c_33 => ?_)
        ·
          refine lv_iinc (v := nI ((r * 480 + w * 80 + g * 4 + k) + 1)) (lv' := [(6, .int (nI ((r * 480 + w * 80 + g * 4 + k) + 1))), (5, .int (smE st (r * 480 + w * 80 + g * 4) k)), (4, .int (nI (r * 480 + w * 80 + cE g * 4))), (0, .ref (q 0)), (1, .int (nI r)), (2, .int (nI w)), (3, .int (nI g))]) hx hb dX1_sumOfCell_48 hl (k := 0) rfl (nI_add (r * 480 + w * 80 + g * 4 + k) 1) (by decide) rfl (fun ls hl => ?_)
          refine lv_goto (tgt := 19) hx hb dX1_sumOfCell_51 (by decide) ?_
          have hl : lv_has ls 7 [(6, .int (nI ((r * 480 + w * 80 + g * 4 + k) + 1))), (5, .int (smE st (r * 480 + w * 80 + g * 4) k)), (4, .int (nI (r * 480 + w * 80 + cE g * 4))), (0, .ref (q 0)), (1, .int (nI r)), (2, .int (nI w)), (3, .int (nI g))] := lv_sub hl [0, 1, 2, 3, 4, 5, 6] rfl
          have hl : lv_has ls 7 [(6, .int (nI (r * 480 + w * 80 + g * 4 + (k + 1)))), (5, .int (smE st (r * 480 + w * 80 + g * 4) k)), (4, .int (nI (r * 480 + w * 80 + cE g * 4))), (0, .ref (q 0)), (1, .int (nI r)), (2, .int (nI w)), (3, .int (nI g))] := lv_rep hl 0 rfl (congrArg (fun z => Value.int (nI z)) (show (r * 480 + w * 80 + g * 4 + k) + 1 = r * 480 + w * 80 + g * 4 + (k + 1) from by first | rfl | omega | simp_all))
          have hl : lv_has ls 7 [(6, .int (nI (r * 480 + w * 80 + g * 4 + (k + 1)))), (5, .int (smE st (r * 480 + w * 80 + g * 4) (k + 1))), (4, .int (nI (r * 480 + w * 80 + cE g * 4))), (0, .ref (q 0)), (1, .int (nI r)), (2, .int (nI w)), (3, .int (nI g))] := lv_rep hl 1 rfl (congrArg Value.int (show smE st (r * 480 + w * 80 + g * 4) k = smE st (r * 480 + w * 80 + g * 4) (k + 1) from by simp only [smE]; first | rw [if_pos c_33] | rw [if_neg c_33]))
          exact ih_19 (k + 1) (by omega) (by omega) ls hl
        ·
          refine lv_iload hx hb dX1_sumOfCell_36 (lv_at hl 1 rfl) ?_
          refine lv_aload_n hx hb dX1_sumOfCell_38 rfl (lv_at hl 3 rfl) ?_
          refine r_get hx hb hts hown hq 0 2 hin1 rfl rfl (by decide) k18 rfl dX1_sumOfCell_39 ?_
          refine lv_iload hx hb dX1_sumOfCell_42 (lv_at hl 0 rfl) ?_
          refine r_ald hx hb hq 3 0 rfl rfl (i := r * 480 + w * 80 + g * 4 + k) (by omega) (by decide) dX1_sumOfCell_44 ?_
          refine lv_iadd hx hb dX1_sumOfCell_45 ?_
          refine lv_istore (lv' := [(5, .int ((smE st (r * 480 + w * 80 + g * 4) k) + (st.2.2.1 (r * 480 + w * 80 + g * 4 + k)))), (6, .int (nI (r * 480 + w * 80 + g * 4 + k))), (4, .int (nI (r * 480 + w * 80 + cE g * 4))), (0, .ref (q 0)), (1, .int (nI r)), (2, .int (nI w)), (3, .int (nI g))]) hx hb dX1_sumOfCell_46 hl (by decide) rfl (fun ls hl => ?_)
          refine lv_iinc (v := nI ((r * 480 + w * 80 + g * 4 + k) + 1)) (lv' := [(6, .int (nI ((r * 480 + w * 80 + g * 4 + k) + 1))), (5, .int ((smE st (r * 480 + w * 80 + g * 4) k) + (st.2.2.1 (r * 480 + w * 80 + g * 4 + k)))), (4, .int (nI (r * 480 + w * 80 + cE g * 4))), (0, .ref (q 0)), (1, .int (nI r)), (2, .int (nI w)), (3, .int (nI g))]) hx hb dX1_sumOfCell_48 hl (k := 1) rfl (nI_add (r * 480 + w * 80 + g * 4 + k) 1) (by decide) rfl (fun ls hl => ?_)
          refine lv_goto (tgt := 19) hx hb dX1_sumOfCell_51 (by decide) ?_
          have hl : lv_has ls 7 [(6, .int (nI ((r * 480 + w * 80 + g * 4 + k) + 1))), (5, .int ((smE st (r * 480 + w * 80 + g * 4) k) + (st.2.2.1 (r * 480 + w * 80 + g * 4 + k)))), (4, .int (nI (r * 480 + w * 80 + cE g * 4))), (0, .ref (q 0)), (1, .int (nI r)), (2, .int (nI w)), (3, .int (nI g))] := lv_sub hl [0, 1, 2, 3, 4, 5, 6] rfl
          have hl : lv_has ls 7 [(6, .int (nI (r * 480 + w * 80 + g * 4 + (k + 1)))), (5, .int ((smE st (r * 480 + w * 80 + g * 4) k) + (st.2.2.1 (r * 480 + w * 80 + g * 4 + k)))), (4, .int (nI (r * 480 + w * 80 + cE g * 4))), (0, .ref (q 0)), (1, .int (nI r)), (2, .int (nI w)), (3, .int (nI g))] := lv_rep hl 0 rfl (congrArg (fun z => Value.int (nI z)) (show (r * 480 + w * 80 + g * 4 + k) + 1 = r * 480 + w * 80 + g * 4 + (k + 1) from by first | rfl | omega | simp_all))
          have hl : lv_has ls 7 [(6, .int (nI (r * 480 + w * 80 + g * 4 + (k + 1)))), (5, .int (smE st (r * 480 + w * 80 + g * 4) (k + 1))), (4, .int (nI (r * 480 + w * 80 + cE g * 4))), (0, .ref (q 0)), (1, .int (nI r)), (2, .int (nI w)), (3, .int (nI g))] := lv_rep hl 1 rfl (congrArg Value.int (show (smE st (r * 480 + w * 80 + g * 4) k) + (st.2.2.1 (r * 480 + w * 80 + g * 4 + k)) = smE st (r * 480 + w * 80 + g * 4) (k + 1) from by simp only [smE]; first | rw [if_pos c_33] | rw [if_neg c_33]))
          exact ih_19 (k + 1) (by omega) (by omega) ls hl
  have hl : lv_has ls 7 [(6, .int (nI (r * 480 + w * 80 + g * 4))), (5, .int (nI 0)), (4, .int (nI (r * 480 + w * 80 + cE g * 4))), (0, .ref (q 0)), (1, .int (nI r)), (2, .int (nI w)), (3, .int (nI g))] := lv_sub hl [0, 1, 2, 3, 4, 5, 6] rfl
  have hl : lv_has ls 7 [(6, .int (nI (r * 480 + w * 80 + g * 4 + 0))), (5, .int (nI 0)), (4, .int (nI (r * 480 + w * 80 + cE g * 4))), (0, .ref (q 0)), (1, .int (nI r)), (2, .int (nI w)), (3, .int (nI g))] := lv_rep hl 0 rfl (congrArg (fun z => Value.int (nI z)) (show r * 480 + w * 80 + g * 4 = r * 480 + w * 80 + g * 4 + 0 from by first | rfl | omega | simp_all))
  have hl : lv_has ls 7 [(6, .int (nI (r * 480 + w * 80 + g * 4 + 0))), (5, .int (smE st (r * 480 + w * 80 + g * 4) 0)), (4, .int (nI (r * 480 + w * 80 + cE g * 4))), (0, .ref (q 0)), (1, .int (nI r)), (2, .int (nI w)), (3, .int (nI g))] := lv_rep hl 1 rfl (congrArg Value.int (show nI 0 = smE st (r * 480 + w * 80 + g * 4) 0 from rfl))
  exact L19_1 (cE g * 4 - g * 4 + 1) (0) (by omega) (by omega) ls hl
abbrev rmX1_elementBits : Room := { frames := 2, cells := 0, slots := 0, locals := 44 }
set_option maxHeartbeats 4000000 in
set_option maxRecDepth 100000 in
theorem c_X1_elementBits (l : Launch) (D : va_G) (cI : ClassId) (q : Nat → Nat) (st : St) (r w : Nat) (hr : r < 4) (hw5 : w < 6) : MQi l yX1_elementBits wsX1_elementBits rmX1_elementBits [.ref (q 0), .int (nI r), .int (nI w)] D [(cI, .int)] (wS cI q st) (fun rz => rz = ebE st (r * 480 + w * 80 + 4 * 4) 64) := by
  refine met_q (own := RX1) (cc := cX1_elementBits) (maxL := 6) (ty := .int) (by decide) rfl rfl (Nat.le_of_ble_eq_true rfl) ?_
  intro p e s m args below meth c Q S hq hE ls hl
  obtain ⟨hx, hb, hml, hown, hts⟩ := id S
  have k11 := hts (.fieldLink RX1 11 "CausalTable$State" "numbers" "[I") (by decide +kernel)
  have hin1 := (show ∀ w ∈ wsX10, w ∈ wsX1_elementBits by decide +kernel)
  have k18 := hts (.fieldLink RX1 18 "CausalTable$State" "values" "[I") (by decide +kernel)
  have hl : lv_has ls 6 [(0, .ref (q 0)), (1, .int (nI r)), (2, .int (nI w))] := hl
  refine lv_iload_n hx hb dX1_elementBits_0 rfl (lv_at hl 1 rfl) ?_
  refine lv_iload_n hx hb dX1_elementBits_1 rfl (lv_at hl 2 rfl) ?_
  refine lv_iconst (v := nI 4) hx hb dX1_elementBits_2 kc_iconst_4 ?_
  refine cq_S (As := [.int (nI r), .int (nI w), .int (nI 4)]) (rest := []) S (c_X1_cellEnd l D (r := r) (w := w) (g := 4) (hg := by omega)) (va_cwS 3 hts gX1_elementBits_X1_cellEnd rfl rfl rfl (by decide +kernel) ⟨Nat.le_of_ble_eq_true rfl, Nat.le_of_ble_eq_true rfl⟩) (hq.sub [] [] rfl rfl) rfl hl.1 (Nat.le_of_ble_eq_true rfl) ⟨Nat.le_of_ble_eq_true rfl, Nat.le_of_ble_eq_true rfl⟩ rfl dX1_elementBits_3 (fun r_3 e_3 => ?_)
  have e_3 : r_3 = nI (r * 480 + w * 80 + 20 * 4) := e_3
  subst e_3
  refine lv_istore_n (lv' := [(3, .int (nI (r * 480 + w * 80 + 20 * 4))), (0, .ref (q 0)), (1, .int (nI r)), (2, .int (nI w))]) hx hb dX1_elementBits_6 rfl hl (by decide) rfl (fun ls hl => ?_)
  refine lv_iconst (v := nI 0) hx hb dX1_elementBits_7 kc_iconst_0 ?_
  refine lv_istore (lv' := [(4, .int (nI 0)), (3, .int (nI (r * 480 + w * 80 + 20 * 4))), (0, .ref (q 0)), (1, .int (nI r)), (2, .int (nI w))]) hx hb dX1_elementBits_8 hl (by decide) rfl (fun ls hl => ?_)
  refine lv_iload_n hx hb dX1_elementBits_10 rfl (lv_at hl 3 rfl) ?_
  refine lv_iload_n hx hb dX1_elementBits_11 rfl (lv_at hl 4 rfl) ?_
  refine lv_iconst (v := nI 4) hx hb dX1_elementBits_12 kc_iconst_4 ?_
  refine cq_S (As := [.int (nI r), .int (nI w), .int (nI 4)]) (rest := []) S (c_X1_cellStart l D (r := r) (w := w) (g := 4)) (va_cwS 3 hts gX1_elementBits_X1_cellStart rfl rfl rfl (by decide +kernel) ⟨Nat.le_of_ble_eq_true rfl, Nat.le_of_ble_eq_true rfl⟩) (hq.sub [] [] rfl rfl) rfl hl.1 (Nat.le_of_ble_eq_true rfl) ⟨Nat.le_of_ble_eq_true rfl, Nat.le_of_ble_eq_true rfl⟩ rfl dX1_elementBits_13 (fun r_13 e_13 => ?_)
  have e_13 : r_13 = nI (r * 480 + w * 80 + 4 * 4) := e_13
  subst e_13
  refine lv_istore (lv' := [(5, .int (nI (r * 480 + w * 80 + 4 * 4))), (4, .int (nI 0)), (3, .int (nI (r * 480 + w * 80 + 20 * 4))), (0, .ref (q 0)), (1, .int (nI r)), (2, .int (nI w))]) hx hb dX1_elementBits_16 hl (by decide) rfl (fun ls hl => ?_)
  have L18_1 : ∀ (fu_2 k : Nat), k ≤ 64 → 64 - k < fu_2 → ∀ ls : Array Slot, lv_has ls 6 [(5, .int (nI (r * 480 + w * 80 + 4 * 4 + k))), (4, .int (ebE st (r * 480 + w * 80 + 4 * 4) k)), (3, .int (nI (r * 480 + w * 80 + 20 * 4))), (0, .ref (q 0)), (1, .int (nI r)), (2, .int (nI w))] → W p l e rmX1_elementBits s m args below meth c s.heap [] 0 0 Q (F0 m 18 ls []) := by
    intro fu_2
    induction fu_2 with
    | zero => intro k _ h9; exact absurd h9 (Nat.not_lt_zero _)
    | succ fu_2 ih_18 =>
      intro k hk_18 hf_18 ls hl
      refine lv_iload hx hb dX1_elementBits_18 (lv_at hl 0 rfl) ?_
      refine lv_iload_n hx hb dX1_elementBits_20 rfl (lv_at hl 2 rfl) ?_
      refine r_icmp_geN (tgt := 54) hx hb (by omega) (by omega) dX1_elementBits_21 (by decide) (fun c_21 => ?_) (fun c_21 => ?_)
      ·
        refine lv_iload hx hb dX1_elementBits_54 (lv_at hl 1 rfl) ?_
        exact hE dX1_elementBits_56 (rfl) (show ebE st (r * 480 + w * 80 + 4 * 4) k = ebE st (r * 480 + w * 80 + 4 * 4) 64 from by rw [show k = 64 by omega])
      ·
        refine lv_aload_n hx hb dX1_elementBits_24 rfl (lv_at hl 3 rfl) ?_
        refine r_get hx hb hts hown hq 0 0 hin1 rfl rfl (by decide) k11 rfl dX1_elementBits_25 ?_
        refine lv_iload hx hb dX1_elementBits_28 (lv_at hl 0 rfl) ?_
        refine r_ald hx hb hq 1 0 rfl rfl (i := r * 480 + w * 80 + 4 * 4 + k) (by omega) (by decide) dX1_elementBits_30 ?_
        refine lv_if_eq (tgt := 48) hx hb dX1_elementBits_31 (by decide) (fun c_31 => ?_) (fun c_31 => ?_)
        ·
          refine lv_iinc (v := nI ((r * 480 + w * 80 + 4 * 4 + k) + 1)) (lv' := [(5, .int (nI ((r * 480 + w * 80 + 4 * 4 + k) + 1))), (4, .int (ebE st (r * 480 + w * 80 + 4 * 4) k)), (3, .int (nI (r * 480 + w * 80 + 20 * 4))), (0, .ref (q 0)), (1, .int (nI r)), (2, .int (nI w))]) hx hb dX1_elementBits_48 hl (k := 0) rfl (nI_add (r * 480 + w * 80 + 4 * 4 + k) 1) (by decide) rfl (fun ls hl => ?_)
          refine lv_goto (tgt := 18) hx hb dX1_elementBits_51 (by decide) ?_
          have hl : lv_has ls 6 [(5, .int (nI ((r * 480 + w * 80 + 4 * 4 + k) + 1))), (4, .int (ebE st (r * 480 + w * 80 + 4 * 4) k)), (3, .int (nI (r * 480 + w * 80 + 20 * 4))), (0, .ref (q 0)), (1, .int (nI r)), (2, .int (nI w))] := lv_sub hl [0, 1, 2, 3, 4, 5] rfl
          have hl : lv_has ls 6 [(5, .int (nI (r * 480 + w * 80 + 4 * 4 + (k + 1)))), (4, .int (ebE st (r * 480 + w * 80 + 4 * 4) k)), (3, .int (nI (r * 480 + w * 80 + 20 * 4))), (0, .ref (q 0)), (1, .int (nI r)), (2, .int (nI w))] := lv_rep hl 0 rfl (congrArg (fun z => Value.int (nI z)) (show (r * 480 + w * 80 + 4 * 4 + k) + 1 = r * 480 + w * 80 + 4 * 4 + (k + 1) from by first | rfl | omega | simp_all))
          have hl : lv_has ls 6 [(5, .int (nI (r * 480 + w * 80 + 4 * 4 + (k + 1)))), (4, .int (ebE st (r * 480 + w * 80 + 4 * 4) (k + 1))), (3, .int (nI (r * 480 + w * 80 + 20 * 4))), (0, .ref (q 0)), (1, .int (nI r)), (2, .int (nI w))] := lv_rep hl 1 rfl (congrArg Value.int (show ebE st (r * 480 + w * 80 + 4 * 4) k = ebE st (r * 480 + w * 80 + 4 * 4) (k + 1) from by simp only [ebE]; first | rw [if_pos c_31] | rw [if_neg c_31]))
          exact ih_18 (k + 1) (by omega) (by omega) ls hl
        ·
          refine lv_iload hx hb dX1_elementBits_34 (lv_at hl 1 rfl) ?_
          refine lv_iconst (v := nI 1) hx hb dX1_elementBits_36 kc_iconst_1 ?_
          refine lv_aload_n hx hb dX1_elementBits_37 rfl (lv_at hl 3 rfl) ?_
          refine r_get hx hb hts hown hq 0 2 hin1 rfl rfl (by decide) k18 rfl dX1_elementBits_38 ?_
          refine lv_iload hx hb dX1_elementBits_41 (lv_at hl 0 rfl) ?_
          refine r_ald hx hb hq 3 0 rfl rfl (i := r * 480 + w * 80 + 4 * 4 + k) (by omega) (by decide) dX1_elementBits_43 ?_
          refine lv_ishl hx hb dX1_elementBits_44 ?_
          refine lv_ior hx hb dX1_elementBits_45 ?_
          refine lv_istore (lv' := [(4, .int ((ebE st (r * 480 + w * 80 + 4 * 4) k) ||| ((nI 1) <<< ((st.2.2.1 (r * 480 + w * 80 + 4 * 4 + k)) &&& 31)))), (5, .int (nI (r * 480 + w * 80 + 4 * 4 + k))), (3, .int (nI (r * 480 + w * 80 + 20 * 4))), (0, .ref (q 0)), (1, .int (nI r)), (2, .int (nI w))]) hx hb dX1_elementBits_46 hl (by decide) rfl (fun ls hl => ?_)
          refine lv_iinc (v := nI ((r * 480 + w * 80 + 4 * 4 + k) + 1)) (lv' := [(5, .int (nI ((r * 480 + w * 80 + 4 * 4 + k) + 1))), (4, .int ((ebE st (r * 480 + w * 80 + 4 * 4) k) ||| ((nI 1) <<< ((st.2.2.1 (r * 480 + w * 80 + 4 * 4 + k)) &&& 31)))), (3, .int (nI (r * 480 + w * 80 + 20 * 4))), (0, .ref (q 0)), (1, .int (nI r)), (2, .int (nI w))]) hx hb dX1_elementBits_48 hl (k := 1) rfl (nI_add (r * 480 + w * 80 + 4 * 4 + k) 1) (by decide) rfl (fun ls hl => ?_)
          refine lv_goto (tgt := 18) hx hb dX1_elementBits_51 (by decide) ?_
          have hl : lv_has ls 6 [(5, .int (nI ((r * 480 + w * 80 + 4 * 4 + k) + 1))), (4, .int ((ebE st (r * 480 + w * 80 + 4 * 4) k) ||| ((nI 1) <<< ((st.2.2.1 (r * 480 + w * 80 + 4 * 4 + k)) &&& 31)))), (3, .int (nI (r * 480 + w * 80 + 20 * 4))), (0, .ref (q 0)), (1, .int (nI r)), (2, .int (nI w))] := lv_sub hl [0, 1, 2, 3, 4, 5] rfl
          have hl : lv_has ls 6 [(5, .int (nI (r * 480 + w * 80 + 4 * 4 + (k + 1)))), (4, .int ((ebE st (r * 480 + w * 80 + 4 * 4) k) ||| ((nI 1) <<< ((st.2.2.1 (r * 480 + w * 80 + 4 * 4 + k)) &&& 31)))), (3, .int (nI (r * 480 + w * 80 + 20 * 4))), (0, .ref (q 0)), (1, .int (nI r)), (2, .int (nI w))] := lv_rep hl 0 rfl (congrArg (fun z => Value.int (nI z)) (show (r * 480 + w * 80 + 4 * 4 + k) + 1 = r * 480 + w * 80 + 4 * 4 + (k + 1) from by first | rfl | omega | simp_all))
          have hl : lv_has ls 6 [(5, .int (nI (r * 480 + w * 80 + 4 * 4 + (k + 1)))), (4, .int (ebE st (r * 480 + w * 80 + 4 * 4) (k + 1))), (3, .int (nI (r * 480 + w * 80 + 20 * 4))), (0, .ref (q 0)), (1, .int (nI r)), (2, .int (nI w))] := lv_rep hl 1 rfl (congrArg Value.int (show (ebE st (r * 480 + w * 80 + 4 * 4) k) ||| ((nI 1) <<< ((st.2.2.1 (r * 480 + w * 80 + 4 * 4 + k)) &&& 31)) = ebE st (r * 480 + w * 80 + 4 * 4) (k + 1) from by simp only [ebE]; first | rw [if_pos c_31] | rw [if_neg c_31]))
          exact ih_18 (k + 1) (by omega) (by omega) ls hl
  have hl : lv_has ls 6 [(5, .int (nI (r * 480 + w * 80 + 4 * 4))), (4, .int (nI 0)), (3, .int (nI (r * 480 + w * 80 + 20 * 4))), (0, .ref (q 0)), (1, .int (nI r)), (2, .int (nI w))] := lv_sub hl [0, 1, 2, 3, 4, 5] rfl
  have hl : lv_has ls 6 [(5, .int (nI (r * 480 + w * 80 + 4 * 4 + 0))), (4, .int (nI 0)), (3, .int (nI (r * 480 + w * 80 + 20 * 4))), (0, .ref (q 0)), (1, .int (nI r)), (2, .int (nI w))] := lv_rep hl 0 rfl (congrArg (fun z => Value.int (nI z)) (show r * 480 + w * 80 + 4 * 4 = r * 480 + w * 80 + 4 * 4 + 0 from by first | rfl | omega | simp_all))
  have hl : lv_has ls 6 [(5, .int (nI (r * 480 + w * 80 + 4 * 4 + 0))), (4, .int (ebE st (r * 480 + w * 80 + 4 * 4) 0)), (3, .int (nI (r * 480 + w * 80 + 20 * 4))), (0, .ref (q 0)), (1, .int (nI r)), (2, .int (nI w))] := lv_rep hl 1 rfl (congrArg Value.int (show nI 0 = ebE st (r * 480 + w * 80 + 4 * 4) 0 from rfl))
  exact L18_1 (64 + 1) (0) (by omega) (by omega) ls hl
abbrev rmX1_countInCell : Room := { frames := 2, cells := 0, slots := 0, locals := 44 }
set_option maxHeartbeats 4000000 in
set_option maxRecDepth 100000 in
theorem c_X1_countInCell (l : Launch) (D : va_G) (cI : ClassId) (q : Nat → Nat) (st : St) (r w g : Nat) (hr : r < 4) (hw5 : w < 6) (hg : g < 5) : MQi l yX1_countInCell wsX1_countInCell rmX1_countInCell [.ref (q 0), .int (nI r), .int (nI w), .int (nI g)] D [(cI, .int)] (wS cI q st) (fun rz => rz = nI (cntE st.1 (r * 480 + w * 80 + g * 4) (cE g * 4 - g * 4))) := by
  refine met_q (own := RX1) (cc := cX1_countInCell) (maxL := 4) (ty := .int) (by decide) rfl rfl (Nat.le_of_ble_eq_true rfl) ?_
  intro p e s m args below meth c Q S hq hE ls hl
  obtain ⟨hx, hb, hml, hown, hts⟩ := id S
  have hl : lv_has ls 4 [(0, .ref (q 0)), (1, .int (nI r)), (2, .int (nI w)), (3, .int (nI g))] := hl
  have hcE := cE_b g hg
  refine lv_aload_n hx hb dX1_countInCell_0 rfl (lv_at hl 0 rfl) ?_
  refine lv_iload_n hx hb dX1_countInCell_1 rfl (lv_at hl 1 rfl) ?_
  refine lv_iload_n hx hb dX1_countInCell_2 rfl (lv_at hl 2 rfl) ?_
  refine lv_iload_n hx hb dX1_countInCell_3 rfl (lv_at hl 3 rfl) ?_
  refine cq_S (As := [.int (nI r), .int (nI w), .int (nI g)]) (rest := [.ref (q 0)]) S (c_X1_cellStart l D (r := r) (w := w) (g := g)) (va_cwS 3 hts gX1_countInCell_X1_cellStart rfl rfl rfl (by decide +kernel) ⟨Nat.le_of_ble_eq_true rfl, Nat.le_of_ble_eq_true rfl⟩) (hq.sub [] [] rfl rfl) rfl hl.1 (Nat.le_of_ble_eq_true rfl) ⟨Nat.le_of_ble_eq_true rfl, Nat.le_of_ble_eq_true rfl⟩ rfl dX1_countInCell_4 (fun r_4 e_4 => ?_)
  have e_4 : r_4 = nI (r * 480 + w * 80 + g * 4) := e_4
  subst e_4
  refine lv_iload_n hx hb dX1_countInCell_7 rfl (lv_at hl 1 rfl) ?_
  refine lv_iload_n hx hb dX1_countInCell_8 rfl (lv_at hl 2 rfl) ?_
  refine lv_iload_n hx hb dX1_countInCell_9 rfl (lv_at hl 3 rfl) ?_
  refine cq_S (As := [.int (nI r), .int (nI w), .int (nI g)]) (rest := [.int (nI (r * 480 + w * 80 + g * 4)), .ref (q 0)]) S (c_X1_cellEnd l D (r := r) (w := w) (g := g) (hg := by omega)) (va_cwS 3 hts gX1_countInCell_X1_cellEnd rfl rfl rfl (by decide +kernel) ⟨Nat.le_of_ble_eq_true rfl, Nat.le_of_ble_eq_true rfl⟩) (hq.sub [] [] rfl rfl) rfl hl.1 (Nat.le_of_ble_eq_true rfl) ⟨Nat.le_of_ble_eq_true rfl, Nat.le_of_ble_eq_true rfl⟩ rfl dX1_countInCell_10 (fun r_10 e_10 => ?_)
  have e_10 : r_10 = nI (r * 480 + w * 80 + cE g * 4) := e_10
  subst e_10
  refine cq_V (As := [.int (nI (r * 480 + w * 80 + g * 4)), .int (nI (r * 480 + w * 80 + cE g * 4))]) (rest := []) S (c_X1_countEntries l D (cI := cI) (q := q) (st := st) (a := r * 480 + w * 80 + g * 4) (b := r * 480 + w * 80 + cE g * 4) (hab := by omega) (hb9 := by omega)) (cwV 2 hts gX1_countInCell_X1_countEntries rfl rfl rfl (by decide +kernel) ⟨Nat.le_of_ble_eq_true rfl, Nat.le_of_ble_eq_true rfl⟩) (hq.sub [0, 1, 2, 3, 4, 5, 6] [0] rfl rfl) 0 rfl rfl rfl hl.1 (Nat.le_of_ble_eq_true rfl) ⟨Nat.le_of_ble_eq_true rfl, Nat.le_of_ble_eq_true rfl⟩ rfl dX1_countInCell_13 (fun r_13 e_13 => ?_)
  have e_13 : r_13 = nI (cntE st.1 (r * 480 + w * 80 + g * 4) ((r * 480 + w * 80 + cE g * 4) - (r * 480 + w * 80 + g * 4))) := e_13
  subst e_13
  exact hE dX1_countInCell_16 (rfl) (show nI (cntE st.1 (r * 480 + w * 80 + g * 4) ((r * 480 + w * 80 + cE g * 4) - (r * 480 + w * 80 + g * 4))) = nI (cntE st.1 (r * 480 + w * 80 + g * 4) (cE g * 4 - g * 4)) from by rw [show r * 480 + w * 80 + cE g * 4 - (r * 480 + w * 80 + g * 4) = cE g * 4 - g * 4 by omega])
abbrev rmX1_holdsRow : Room := { frames := 1, cells := 0, slots := 0, locals := 24 }
set_option maxHeartbeats 4000000 in
set_option maxRecDepth 100000 in
theorem c_X1_holdsRow (l : Launch) (D : va_G) (cI : ClassId) (q : Nat → Nat) (st : St) (r w : Nat) (hr : r < 4) (hw5 : w < 6) : MQi l yX1_holdsRow wsX1_holdsRow rmX1_holdsRow [.ref (q 0), .int (nI r), .int (nI w)] D [(cI, .int)] (wS cI q st) (fun rz => rz = b2 (0 < cntE st.1 (r * 480 + w * 80 + 0 * 4) 80)) := by
  refine met_q (own := RX1) (cc := cX1_holdsRow) (maxL := 3) (ty := .boolean) (by decide) rfl rfl (Nat.le_of_ble_eq_true rfl) ?_
  intro p e s m args below meth c Q S hq hE ls hl
  obtain ⟨hx, hb, hml, hown, hts⟩ := id S
  have hl : lv_has ls 3 [(0, .ref (q 0)), (1, .int (nI r)), (2, .int (nI w))] := hl
  have hcn := cntE_le st.1 (r * 480 + w * 80 + 0 * 4) 80
  refine lv_aload_n hx hb dX1_holdsRow_0 rfl (lv_at hl 0 rfl) ?_
  refine lv_iload_n hx hb dX1_holdsRow_1 rfl (lv_at hl 1 rfl) ?_
  refine lv_iload_n hx hb dX1_holdsRow_2 rfl (lv_at hl 2 rfl) ?_
  refine lv_iconst (v := nI 0) hx hb dX1_holdsRow_3 kc_iconst_0 ?_
  refine cq_S (As := [.int (nI r), .int (nI w), .int (nI 0)]) (rest := [.ref (q 0)]) S (c_X1_slotOf l D (r := r) (w := w) (g := 0)) (va_cwS 3 hts gX1_holdsRow_X1_slotOf rfl rfl rfl (by decide +kernel) ⟨Nat.le_of_ble_eq_true rfl, Nat.le_of_ble_eq_true rfl⟩) (hq.sub [] [] rfl rfl) rfl hl.1 (Nat.le_of_ble_eq_true rfl) ⟨Nat.le_of_ble_eq_true rfl, Nat.le_of_ble_eq_true rfl⟩ rfl dX1_holdsRow_4 (fun r_4 e_4 => ?_)
  have e_4 : r_4 = nI (r * 480 + w * 80 + 0 * 4) := e_4
  subst e_4
  refine lv_iload_n hx hb dX1_holdsRow_7 rfl (lv_at hl 1 rfl) ?_
  refine lv_iload_n hx hb dX1_holdsRow_8 rfl (lv_at hl 2 rfl) ?_
  refine lv_bipush (v := nI 20) hx hb dX1_holdsRow_9 kc_bipush_20 ?_
  refine cq_S (As := [.int (nI r), .int (nI w), .int (nI 20)]) (rest := [.int (nI (r * 480 + w * 80 + 0 * 4)), .ref (q 0)]) S (c_X1_slotOf l D (r := r) (w := w) (g := 20)) (va_cwS 3 hts gX1_holdsRow_X1_slotOf rfl rfl rfl (by decide +kernel) ⟨Nat.le_of_ble_eq_true rfl, Nat.le_of_ble_eq_true rfl⟩) (hq.sub [] [] rfl rfl) rfl hl.1 (Nat.le_of_ble_eq_true rfl) ⟨Nat.le_of_ble_eq_true rfl, Nat.le_of_ble_eq_true rfl⟩ rfl dX1_holdsRow_11 (fun r_11 e_11 => ?_)
  have e_11 : r_11 = nI (r * 480 + w * 80 + 20 * 4) := e_11
  subst e_11
  refine cq_V (As := [.int (nI (r * 480 + w * 80 + 0 * 4)), .int (nI (r * 480 + w * 80 + 20 * 4))]) (rest := []) S (c_X1_countEntries l D (cI := cI) (q := q) (st := st) (a := r * 480 + w * 80 + 0 * 4) (b := r * 480 + w * 80 + 20 * 4) (hab := by omega) (hb9 := by omega)) (cwV 2 hts gX1_holdsRow_X1_countEntries rfl rfl rfl (by decide +kernel) ⟨Nat.le_of_ble_eq_true rfl, Nat.le_of_ble_eq_true rfl⟩) (hq.sub [0, 1, 2, 3, 4, 5, 6] [0] rfl rfl) 0 rfl rfl rfl hl.1 (Nat.le_of_ble_eq_true rfl) ⟨Nat.le_of_ble_eq_true rfl, Nat.le_of_ble_eq_true rfl⟩ rfl dX1_holdsRow_14 (fun r_14 e_14 => ?_)
  have e_14 : r_14 = nI (cntE st.1 (r * 480 + w * 80 + 0 * 4) 80) := e_14.trans (by rw [show r * 480 + w * 80 + 20 * 4 - (r * 480 + w * 80 + 0 * 4) = 80 by omega])
  subst e_14
  refine r_if_leN (tgt := 24) hx hb (by omega) dX1_holdsRow_17 (by decide) (fun c_17 => ?_) (fun c_17 => ?_)
  ·
    refine lv_iconst (v := nI 0) hx hb dX1_holdsRow_24 kc_iconst_0 ?_
    exact hE dX1_holdsRow_25 (by first | rfl | exact b2_nz) (ret0 (by omega))
  ·
    refine lv_iconst (v := nI 1) hx hb dX1_holdsRow_20 kc_iconst_1 ?_
    refine lv_goto (tgt := 25) hx hb dX1_holdsRow_21 (by decide) ?_
    exact hE dX1_holdsRow_25 (by first | rfl | exact b2_nz) (ret1 (by omega))
abbrev rmX1_knows : Room := { frames := 1, cells := 0, slots := 0, locals := 22 }
set_option maxHeartbeats 4000000 in
set_option maxRecDepth 100000 in
theorem c_X1_knows (l : Launch) (D : va_G) (cI : ClassId) (q : Nat → Nat) (st : St) (a b : Nat) (ha : a < 4) (hb4 : b < 4) : MQi l yX1_knows wsX1_knows rmX1_knows [.ref (q 0), .int (nI a), .int (nI b)] D [(cI, .int)] (wS cI q st) (fun rz => rz = b2 (knP st a b)) := by
  refine met_q (own := RX1) (cc := cX1_knows) (maxL := 4) (ty := .boolean) (by decide) rfl rfl (Nat.le_of_ble_eq_true rfl) ?_
  intro p e s m args below meth c Q S hq hE ls hl
  obtain ⟨hx, hb, hml, hown, hts⟩ := id S
  have hl : lv_has ls 4 [(0, .ref (q 0)), (1, .int (nI a)), (2, .int (nI b))] := hl
  refine lv_iconst (v := nI 0) hx hb dX1_knows_0 kc_iconst_0 ?_
  refine lv_istore_n (lv' := [(3, .int (nI 0)), (0, .ref (q 0)), (1, .int (nI a)), (2, .int (nI b))]) hx hb dX1_knows_1 rfl hl (by decide) rfl (fun ls hl => ?_)
  have L2_1 : ∀ (fu_2 k : Nat), k ≤ 4 → 4 - k < fu_2 → (∀ o, o < k → ¬ st.2.2.2.1 (a * 4 + o) < st.2.2.2.1 (b * 4 + o)) → ∀ ls : Array Slot, lv_has ls 4 [(3, .int (nI k)), (0, .ref (q 0)), (1, .int (nI a)), (2, .int (nI b))] → W p l e rmX1_knows s m args below meth c s.heap [] 0 0 Q (F0 m 2 ls []) := by
    intro fu_2
    induction fu_2 with
    | zero => intro k _ h9; exact absurd h9 (Nat.not_lt_zero _)
    | succ fu_2 ih_2 =>
      intro k hk_2 hf_2 hs ls hl
      refine lv_iload_n hx hb dX1_knows_2 rfl (lv_at hl 0 rfl) ?_
      refine lv_iconst (v := nI 4) hx hb dX1_knows_3 kc_iconst_4 ?_
      refine r_icmp_geN (tgt := 30) hx hb (by omega) (by omega) dX1_knows_4 (by decide) (fun c_4 => ?_) (fun c_4 => ?_)
      ·
        refine lv_iconst (v := nI 1) hx hb dX1_knows_30 kc_iconst_1 ?_
        exact hE dX1_knows_31 (by first | rfl | exact b2_nz) (ret1 (fun o h => hs o (by omega)))
      ·
        refine lv_aload_n hx hb dX1_knows_7 rfl (lv_at hl 1 rfl) ?_
        refine lv_iload_n hx hb dX1_knows_8 rfl (lv_at hl 2 rfl) ?_
        refine lv_iload_n hx hb dX1_knows_9 rfl (lv_at hl 0 rfl) ?_
        refine cq_V (As := [.int (nI a), .int (nI k)]) (rest := []) S (c_X1_seenNumber l D (cI := cI) (q := q) (st := st) (a := a) (b := k) (ha := by omega) (hb4 := by omega)) (cwV 2 hts gX1_knows_X1_seenNumber rfl rfl rfl (by decide +kernel) ⟨Nat.le_of_ble_eq_true rfl, Nat.le_of_ble_eq_true rfl⟩) (hq.sub [0, 1, 2, 3, 4, 5, 6] [0] rfl rfl) 0 rfl rfl rfl hl.1 (Nat.le_of_ble_eq_true rfl) ⟨Nat.le_of_ble_eq_true rfl, Nat.le_of_ble_eq_true rfl⟩ rfl dX1_knows_10 (fun r_10 e_10 => ?_)
        have e_10 : r_10 = st.2.2.2.1 (a * 4 + k) := e_10
        subst e_10
        refine lv_aload_n hx hb dX1_knows_13 rfl (lv_at hl 1 rfl) ?_
        refine lv_iload_n hx hb dX1_knows_14 rfl (lv_at hl 3 rfl) ?_
        refine lv_iload_n hx hb dX1_knows_15 rfl (lv_at hl 0 rfl) ?_
        refine cq_V (As := [.int (nI b), .int (nI k)]) (rest := [.int (st.2.2.2.1 (a * 4 + k))]) S (c_X1_seenNumber l D (cI := cI) (q := q) (st := st) (a := b) (b := k) (ha := by omega) (hb4 := by omega)) (cwV 2 hts gX1_knows_X1_seenNumber rfl rfl rfl (by decide +kernel) ⟨Nat.le_of_ble_eq_true rfl, Nat.le_of_ble_eq_true rfl⟩) (hq.sub [0, 1, 2, 3, 4, 5, 6] [0] rfl rfl) 0 rfl rfl rfl hl.1 (Nat.le_of_ble_eq_true rfl) ⟨Nat.le_of_ble_eq_true rfl, Nat.le_of_ble_eq_true rfl⟩ rfl dX1_knows_16 (fun r_16 e_16 => ?_)
        have e_16 : r_16 = st.2.2.2.1 (b * 4 + k) := e_16
        subst e_16
        refine lv_icmp_ge (tgt := 24) hx hb dX1_knows_19 (by decide) (fun c_19 => ?_) (fun c_19 => ?_)
        ·
          refine lv_iinc (v := nI (k + 1)) (lv' := [(3, .int (nI (k + 1))), (0, .ref (q 0)), (1, .int (nI a)), (2, .int (nI b))]) hx hb dX1_knows_24 hl (k := 0) rfl (nI_add k 1) (by decide) rfl (fun ls hl => ?_)
          refine lv_goto (tgt := 2) hx hb dX1_knows_27 (by decide) ?_
          have hl : lv_has ls 4 [(3, .int (nI (k + 1))), (0, .ref (q 0)), (1, .int (nI a)), (2, .int (nI b))] := lv_sub hl [0, 1, 2, 3] rfl
          exact ih_2 (k + 1) (by omega) (by omega) (fun o h => by rcases Nat.lt_succ_iff_lt_or_eq.mp h with h | h; exact hs o h; subst h; exact Int32.not_lt.mpr c_19) ls hl
        ·
          refine lv_iconst (v := nI 0) hx hb dX1_knows_22 kc_iconst_0 ?_
          exact hE dX1_knows_23 (by first | rfl | exact b2_nz) (ret0 (fun h => h k (by omega) (Int32.not_le.mp c_19)))
  have hl : lv_has ls 4 [(3, .int (nI 0)), (0, .ref (q 0)), (1, .int (nI a)), (2, .int (nI b))] := lv_sub hl [0, 1, 2, 3] rfl
  exact L2_1 (4 + 1) (0) (by omega) (by omega) (fun o h => absurd h (Nat.not_lt_zero _)) ls hl
abbrev rmX1_isAgreed : Room := { frames := 2, cells := 0, slots := 0, locals := 44 }
set_option maxHeartbeats 4000000 in
set_option maxRecDepth 100000 in
theorem c_X1_isAgreed (l : Launch) (D : va_G) (cI : ClassId) (q : Nat → Nat) (st : St) (w g : Nat) (hw5 : w < 6) (hg : g < 5) : MQi l yX1_isAgreed wsX1_isAgreed rmX1_isAgreed [.ref (q 0), .int (nI w), .int (nI g)] D [(cI, .int)] (wS cI q st) (fun rz => rz = b2 (agP st w g)) := by
  refine met_q (own := RX1) (cc := cX1_isAgreed) (maxL := 6) (ty := .boolean) (by decide) rfl rfl (Nat.le_of_ble_eq_true rfl) ?_
  intro p e s m args below meth c Q S hq hE ls hl
  obtain ⟨hx, hb, hml, hown, hts⟩ := id S
  have k11 := hts (.fieldLink RX1 11 "CausalTable$State" "numbers" "[I") (by decide +kernel)
  have hin1 := (show ∀ w ∈ wsX10, w ∈ wsX1_isAgreed by decide +kernel)
  have hl : lv_has ls 6 [(0, .ref (q 0)), (1, .int (nI w)), (2, .int (nI g))] := hl
  have hcE := cE_b g hg
  refine lv_iconst (v := nI 0) hx hb dX1_isAgreed_0 kc_iconst_0 ?_
  refine lv_iload_n hx hb dX1_isAgreed_1 rfl (lv_at hl 1 rfl) ?_
  refine lv_iload_n hx hb dX1_isAgreed_2 rfl (lv_at hl 2 rfl) ?_
  refine cq_S (As := [.int (nI 0), .int (nI w), .int (nI g)]) (rest := []) S (c_X1_cellEnd l D (r := 0) (w := w) (g := g) (hg := by omega)) (va_cwS 3 hts gX1_isAgreed_X1_cellEnd rfl rfl rfl (by decide +kernel) ⟨Nat.le_of_ble_eq_true rfl, Nat.le_of_ble_eq_true rfl⟩) (hq.sub [] [] rfl rfl) rfl hl.1 (Nat.le_of_ble_eq_true rfl) ⟨Nat.le_of_ble_eq_true rfl, Nat.le_of_ble_eq_true rfl⟩ rfl dX1_isAgreed_3 (fun r_3 e_3 => ?_)
  have e_3 : r_3 = nI (0 * 480 + w * 80 + cE g * 4) := e_3
  subst e_3
  refine lv_istore_n (lv' := [(3, .int (nI (0 * 480 + w * 80 + cE g * 4))), (0, .ref (q 0)), (1, .int (nI w)), (2, .int (nI g))]) hx hb dX1_isAgreed_6 rfl hl (by decide) rfl (fun ls hl => ?_)
  refine lv_iconst (v := nI 0) hx hb dX1_isAgreed_7 kc_iconst_0 ?_
  refine lv_iload_n hx hb dX1_isAgreed_8 rfl (lv_at hl 2 rfl) ?_
  refine lv_iload_n hx hb dX1_isAgreed_9 rfl (lv_at hl 3 rfl) ?_
  refine cq_S (As := [.int (nI 0), .int (nI w), .int (nI g)]) (rest := []) S (c_X1_cellStart l D (r := 0) (w := w) (g := g)) (va_cwS 3 hts gX1_isAgreed_X1_cellStart rfl rfl rfl (by decide +kernel) ⟨Nat.le_of_ble_eq_true rfl, Nat.le_of_ble_eq_true rfl⟩) (hq.sub [] [] rfl rfl) rfl hl.1 (Nat.le_of_ble_eq_true rfl) ⟨Nat.le_of_ble_eq_true rfl, Nat.le_of_ble_eq_true rfl⟩ rfl dX1_isAgreed_10 (fun r_10 e_10 => ?_)
  have e_10 : r_10 = nI (0 * 480 + w * 80 + g * 4) := e_10
  subst e_10
  refine lv_istore (lv' := [(4, .int (nI (0 * 480 + w * 80 + g * 4))), (3, .int (nI (0 * 480 + w * 80 + cE g * 4))), (0, .ref (q 0)), (1, .int (nI w)), (2, .int (nI g))]) hx hb dX1_isAgreed_13 hl (by decide) rfl (fun ls hl => ?_)
  have L15_1 : ∀ (fu_2 k : Nat), k ≤ cE g * 4 - g * 4 → cE g * 4 - g * 4 - k < fu_2 → (∀ i, i < k → ∀ r, r < 4 → st.1 (0 * 480 + w * 80 + g * 4 + i) = st.1 (r * 480 + (0 * 480 + w * 80 + g * 4 + i))) → ∀ ls : Array Slot, lv_has ls 6 [(4, .int (nI (0 * 480 + w * 80 + g * 4 + k))), (3, .int (nI (0 * 480 + w * 80 + cE g * 4))), (0, .ref (q 0)), (1, .int (nI w)), (2, .int (nI g))] → W p l e rmX1_isAgreed s m args below meth c s.heap [] 0 0 Q (F0 m 15 ls []) := by
    intro fu_2
    induction fu_2 with
    | zero => intro k _ h9; exact absurd h9 (Nat.not_lt_zero _)
    | succ fu_2 ih_15 =>
      intro k hk_15 hf_15 hs ls hl
      refine lv_iload hx hb dX1_isAgreed_15 (lv_at hl 0 rfl) ?_
      refine lv_iload_n hx hb dX1_isAgreed_17 rfl (lv_at hl 1 rfl) ?_
      refine r_icmp_geN (tgt := 68) hx hb (by omega) (by omega) dX1_isAgreed_18 (by decide) (fun c_18 => ?_) (fun c_18 => ?_)
      ·
        refine lv_iconst (v := nI 1) hx hb dX1_isAgreed_68 kc_iconst_1 ?_
        exact hE dX1_isAgreed_69 (by first | rfl | exact b2_nz) (ret1 (fun i h => hs i (by omega)))
      ·
        refine lv_iconst (v := nI 1) hx hb dX1_isAgreed_21 kc_iconst_1 ?_
        refine lv_istore (lv' := [(5, .int (nI 1)), (4, .int (nI (0 * 480 + w * 80 + g * 4 + k))), (3, .int (nI (0 * 480 + w * 80 + cE g * 4))), (0, .ref (q 0)), (1, .int (nI w)), (2, .int (nI g))]) hx hb dX1_isAgreed_22 hl (by decide) rfl (fun ls hl => ?_)
        have L24_3 : ∀ (fu_4 j : Nat), j ≤ 4 → 4 - j < fu_4 → (∀ r, r < j → st.1 (0 * 480 + w * 80 + g * 4 + k) = st.1 (r * 480 + (0 * 480 + w * 80 + g * 4 + k))) → ∀ ls : Array Slot, lv_has ls 6 [(5, .int (nI j)), (4, .int (nI (0 * 480 + w * 80 + g * 4 + k))), (3, .int (nI (0 * 480 + w * 80 + cE g * 4))), (0, .ref (q 0)), (1, .int (nI w)), (2, .int (nI g))] → W p l e rmX1_isAgreed s m args below meth c s.heap [] 0 0 Q (F0 m 24 ls []) := by
          intro fu_4
          induction fu_4 with
          | zero => intro j _ h9; exact absurd h9 (Nat.not_lt_zero _)
          | succ fu_4 ih_24 =>
            intro j hk_24 hf_24 hs2 ls hl
            refine lv_iload hx hb dX1_isAgreed_24 (lv_at hl 0 rfl) ?_
            refine lv_iconst (v := nI 4) hx hb dX1_isAgreed_26 kc_iconst_4 ?_
            refine r_icmp_geN (tgt := 62) hx hb (by omega) (by omega) dX1_isAgreed_27 (by decide) (fun c_27 => ?_) (fun c_27 => ?_)
            ·
              refine lv_iinc (v := nI ((0 * 480 + w * 80 + g * 4 + k) + 1)) (lv' := [(4, .int (nI ((0 * 480 + w * 80 + g * 4 + k) + 1))), (5, .int (nI j)), (3, .int (nI (0 * 480 + w * 80 + cE g * 4))), (0, .ref (q 0)), (1, .int (nI w)), (2, .int (nI g))]) hx hb dX1_isAgreed_62 hl (k := 1) rfl (nI_add (0 * 480 + w * 80 + g * 4 + k) 1) (by decide) rfl (fun ls hl => ?_)
              refine lv_goto (tgt := 15) hx hb dX1_isAgreed_65 (by decide) ?_
              have hl : lv_has ls 6 [(4, .int (nI ((0 * 480 + w * 80 + g * 4 + k) + 1))), (3, .int (nI (0 * 480 + w * 80 + cE g * 4))), (0, .ref (q 0)), (1, .int (nI w)), (2, .int (nI g))] := lv_sub hl [0, 2, 3, 4, 5] rfl
              have hl : lv_has ls 6 [(4, .int (nI (0 * 480 + w * 80 + g * 4 + (k + 1)))), (3, .int (nI (0 * 480 + w * 80 + cE g * 4))), (0, .ref (q 0)), (1, .int (nI w)), (2, .int (nI g))] := lv_rep hl 0 rfl (congrArg (fun z => Value.int (nI z)) (show (0 * 480 + w * 80 + g * 4 + k) + 1 = 0 * 480 + w * 80 + g * 4 + (k + 1) from by first | rfl | omega | simp_all))
              exact ih_15 (k + 1) (by omega) (by omega) (fun i h => by rcases Nat.lt_succ_iff_lt_or_eq.mp h with h | h; exact hs i h; subst h; exact fun r hr => hs2 r (by omega)) ls hl
            ·
              refine lv_aload_n hx hb dX1_isAgreed_30 rfl (lv_at hl 3 rfl) ?_
              refine r_get hx hb hts hown hq 0 0 hin1 rfl rfl (by decide) k11 rfl dX1_isAgreed_31 ?_
              refine lv_iload hx hb dX1_isAgreed_34 (lv_at hl 1 rfl) ?_
              refine r_ald hx hb hq 1 0 rfl rfl (i := 0 * 480 + w * 80 + g * 4 + k) (by omega) (by decide) dX1_isAgreed_36 ?_
              refine lv_aload_n hx hb dX1_isAgreed_37 rfl (lv_at hl 3 rfl) ?_
              refine r_get hx hb hts hown hq 0 0 hin1 rfl rfl (by decide) k11 rfl dX1_isAgreed_38 ?_
              refine lv_iload hx hb dX1_isAgreed_41 (lv_at hl 0 rfl) ?_
              refine lv_sipush (v := nI 480) hx hb dX1_isAgreed_43 kc_sipush_480 ?_
              refine r_mulN hx hb dX1_isAgreed_46 ?_
              refine lv_iload hx hb dX1_isAgreed_47 (lv_at hl 1 rfl) ?_
              refine r_addN hx hb dX1_isAgreed_49 ?_
              refine r_ald hx hb hq 1 0 rfl rfl (i := (j * 480) + (0 * 480 + w * 80 + g * 4 + k)) (by omega) (by decide) dX1_isAgreed_50 ?_
              refine lv_icmp_eq (tgt := 56) hx hb dX1_isAgreed_51 (by decide) (fun c_51 => ?_) (fun c_51 => ?_)
              ·
                refine lv_iinc (v := nI (j + 1)) (lv' := [(5, .int (nI (j + 1))), (4, .int (nI (0 * 480 + w * 80 + g * 4 + k))), (3, .int (nI (0 * 480 + w * 80 + cE g * 4))), (0, .ref (q 0)), (1, .int (nI w)), (2, .int (nI g))]) hx hb dX1_isAgreed_56 hl (k := 0) rfl (nI_add j 1) (by decide) rfl (fun ls hl => ?_)
                refine lv_goto (tgt := 24) hx hb dX1_isAgreed_59 (by decide) ?_
                have hl : lv_has ls 6 [(5, .int (nI (j + 1))), (4, .int (nI (0 * 480 + w * 80 + g * 4 + k))), (3, .int (nI (0 * 480 + w * 80 + cE g * 4))), (0, .ref (q 0)), (1, .int (nI w)), (2, .int (nI g))] := lv_sub hl [0, 1, 2, 3, 4, 5] rfl
                exact ih_24 (j + 1) (by omega) (by omega) (fun r h => by rcases Nat.lt_succ_iff_lt_or_eq.mp h with h | h; exact hs2 r h; subst h; assumption) ls hl
              ·
                refine lv_iconst (v := nI 0) hx hb dX1_isAgreed_54 kc_iconst_0 ?_
                exact hE dX1_isAgreed_55 (by first | rfl | exact b2_nz) (ret0 (fun h => c_51 (h k (by omega) j (by omega))))
        have hl : lv_has ls 6 [(5, .int (nI 1)), (4, .int (nI (0 * 480 + w * 80 + g * 4 + k))), (3, .int (nI (0 * 480 + w * 80 + cE g * 4))), (0, .ref (q 0)), (1, .int (nI w)), (2, .int (nI g))] := lv_sub hl [0, 1, 2, 3, 4, 5] rfl
        exact L24_3 (4 + 1) (1) (by omega) (by omega) (fun r h => by (have h0 : r = 0 := by omega); subst h0; simp) ls hl
  have hl : lv_has ls 6 [(4, .int (nI (0 * 480 + w * 80 + g * 4))), (3, .int (nI (0 * 480 + w * 80 + cE g * 4))), (0, .ref (q 0)), (1, .int (nI w)), (2, .int (nI g))] := lv_sub hl [0, 1, 2, 3, 4] rfl
  have hl : lv_has ls 6 [(4, .int (nI (0 * 480 + w * 80 + g * 4 + 0))), (3, .int (nI (0 * 480 + w * 80 + cE g * 4))), (0, .ref (q 0)), (1, .int (nI w)), (2, .int (nI g))] := lv_rep hl 0 rfl (congrArg (fun z => Value.int (nI z)) (show 0 * 480 + w * 80 + g * 4 = 0 * 480 + w * 80 + g * 4 + 0 from by first | rfl | omega | simp_all))
  exact L15_1 (cE g * 4 - g * 4 + 1) (0) (by omega) (by omega) (fun o h => absurd h (Nat.not_lt_zero _)) ls hl
