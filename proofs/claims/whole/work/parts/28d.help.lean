abbrev rmL_latest_v : Room := { frames := 4, cells := 0, slots := 0, locals := 93 }
set_option maxHeartbeats 4000000 in
set_option maxRecDepth 100000 in
theorem c_L_latest_v (l : Launch) (D : va_G) (sz : Nat) (hl9 : l.stackTraces = false) (cI cR cC cJ : ClassId) (x9 : Nat) (q : Nat → Nat) (st : St) (h9 : Nat → Nat) (ad : Nat → Nat → Nat) (sv : Nat → St) (ol n7 n8 : Nat) (t9 : Nat → Nat) (tx : Nat → Nat) (ln po : Nat) (ki rp tg nu : Int32) (o9 : Nat) (fo : Nat → Int64) (r w : Nat) (hh : hI ol n7 n8) (hr : r < 4) (hw5 : w < 6) : MZi l yL_latest wsL_latest rmL_latest_v [.ref x9, .int (nI r), .int (nI w), .ref o9] D [(cI, .int), (cR, .object RX1), (cC, .char), (cJ, .long)] ([(x9, .inr (3, [.ref (q 0), .ref (h9 0), .ref (t9 0)]))] ++ wS cI q st ++ wR cR h9 (fr7 ad n8) ol n7 ++ wT cC t9 tx ln po ki rp tg nu ++ [(o9, .inl (cJ, 1, .inr (.inl fo)))] ++ wP cI ad sv n8) sz (fun rz (u9 : Unit) => rz = nI 0) (fun u9 => []) (fun u9 => [(x9, .inr (3, [.ref (q 0), .ref (h9 0), .ref (t9 0)]))] ++ wS cI q st ++ wR cR h9 (fr7 ad n8) ol n7 ++ wT cC t9 tx ln po ki rp tg nu ++ [(o9, .inl (cJ, 1, .inr (.inl (vp_updL fo 0 (((ltE st (r * 480 + w * 80 + 0 * 4) 4).2)).toInt64))))] ++ wP cI ad sv n8) 0 0 := by
  refine met_zi (own := RL) (cc := cL_latest) (maxL := 5) (hh := [(0, 10, 13, 13)]) (by decide) rfl rfl (Nat.le_of_ble_eq_true rfl) ?_
  intro p e s m args below meth c Q A hsz S htab hz hxe hzq hw hA hE ls hl
  obtain ⟨hx, hb, hml, hown, hts⟩ := id S
  have hl : lv_has ls 5 [(0, .ref x9), (1, .int (nI r)), (2, .int (nI w)), (3, .ref o9)] := hl
  refine lv_aload_n hx hb dL_latest_0 rfl (lv_at hl 3 rfl) ?_
  refine lv_iconst (v := nI 0) hx hb dL_latest_1 kc_iconst_0 ?_
  refine lv_aload_n hx hb dL_latest_2 rfl (lv_at hl 0 rfl) ?_
  refine lv_iload_n hx hb dL_latest_3 rfl (lv_at hl 1 rfl) ?_
  refine lv_iload_n hx hb dL_latest_4 rfl (lv_at hl 2 rfl) ?_
  refine cpx_i (w1 := fun (u9 : Unit) => [(x9, .inr (3, [.ref (q 0), .ref (h9 0), .ref (t9 0)]))] ++ wS cI q st ++ wR cR h9 (fr7 ad n8) ol n7 ++ wT cC t9 tx ln po ki rp tg nu) (pl := fun (u9 : Unit) => wP cI ad sv n8) (As := [.int (nI r), .int (nI w)]) (rest := [.int (nI 0), .ref o9]) (wc := [(x9, .inr (3, [.ref (q 0), .ref (h9 0), .ref (t9 0)]))] ++ wS cI q st ++ wR cR h9 (fr7 ad n8) ol n7 ++ wT cC t9 tx ln po ki rp tg nu) (wr := [(o9, .inl (cJ, 1, .inr (.inl fo)))]) S hz (c_X3_latest l D (sz := s.heap.size) (cI := cI) (cR := cR) (cC := cC) (x9 := x9) (q := q) (st := st) (h9 := h9) (ad := ad) (sv := sv) (ol := ol) (n7 := n7) (n8 := n8) (t9 := t9) (tx := tx) (ln := ln) (po := po) (ki := ki) (rp := rp) (tg := tg) (nu := nu) (r := r) (w := w) (hh := hh) (hr := by omega) (hw5 := by omega)) (cwV 2 hts gL_latest_X3_latest rfl rfl rfl (by decide +kernel) ⟨Nat.le_of_ble_eq_true rfl, Nat.le_of_ble_eq_true rfl⟩) hw hA [0, 1, 2, 3, 4, 5, 6, 7, 8, 9, 10, 11] [12] [0, 1, 2] rfl rfl (k0 := 13) rfl (by decide) rfl 0 rfl rfl rfl hl.1 (Nat.le_of_ble_eq_true rfl) ⟨Nat.le_of_ble_eq_true rfl, Nat.le_of_ble_eq_true rfl⟩ rfl dL_latest_5 (fun r_5 u_5 H locs e_5 hw => ?_)
  obtain ⟨⟩ := u_5
  have hw : Wd D A [(cI, .int), (cR, .object RX1), (cC, .char), (cJ, .long)] ([(x9, .inr (3, [.ref (q 0), .ref (h9 0), .ref (t9 0)]))] ++ wS cI q st ++ wR cR h9 (fr7 ad n8) ol n7 ++ wT cC t9 tx ln po ki rp tg nu ++ [(o9, .inl (cJ, 1, .inr (.inl fo)))] ++ wP cI ad sv n8) s s.heap H locs := hw
  have e_5 : r_5 = (ltE st (r * 480 + w * 80 + 0 * 4) 4).2 := e_5
  subst e_5
  refine lv_i2l hx hb dL_latest_8 rfl ?_
  refine r_last hx hb hw 12 3 rfl rfl (i := 0) (by omega) (by decide) dL_latest_9 (fun H locs hw => ?_)
  have hw : Wd D A [(cI, .int), (cR, .object RX1), (cC, .char), (cJ, .long)] ([(x9, .inr (3, [.ref (q 0), .ref (h9 0), .ref (t9 0)]))] ++ wS cI q st ++ wR cR h9 (fr7 ad n8) ol n7 ++ wT cC t9 tx ln po ki rp tg nu ++ [(o9, .inl (cJ, 1, .inr (.inl (vp_updL fo 0 (((ltE st (r * 480 + w * 80 + 0 * 4) 4).2).toInt64)))))] ++ wP cI ad sv n8) s s.heap H locs := hw
  refine lv_goto (tgt := 17) hx hb dL_latest_10 (by decide) ?_
  refine lv_iconst (v := nI 0) hx hb dL_latest_17 kc_iconst_0 ?_
  exact hE () dL_latest_18 (Nat.le_of_ble_eq_true rfl) (Nat.le_of_ble_eq_true rfl) ⟨⟨hw.1.1, fun k q hk => by cases hk⟩, hw.2.1, hw.2.2.1, hw.2.2.2⟩ (show nI 0 = nI 0 from rfl)
abbrev rmL_sibling_v : Room := { frames := 4, cells := 0, slots := 0, locals := 93 }
set_option maxHeartbeats 4000000 in
set_option maxRecDepth 100000 in
theorem c_L_sibling_v (l : Launch) (D : va_G) (sz : Nat) (hl9 : l.stackTraces = false) (cI cR cC cJ : ClassId) (x9 : Nat) (q : Nat → Nat) (st : St) (h9 : Nat → Nat) (ad : Nat → Nat → Nat) (sv : Nat → St) (ol n7 n8 : Nat) (t9 : Nat → Nat) (tx : Nat → Nat) (ln po : Nat) (ki rp tg nu : Int32) (o9 : Nat) (fo : Nat → Int64) (r w : Nat) (x : Int32) (hh : hI ol n7 n8) (hr : r < 4) (hw5 : w < 6) (hx0 : 0 ≤ x) : MZi l yL_sibling wsL_sibling rmL_sibling_v [.ref x9, .int (nI r), .int (nI w), .int x, .ref o9] D [(cI, .int), (cR, .object RX1), (cC, .char), (cJ, .long)] ([(x9, .inr (3, [.ref (q 0), .ref (h9 0), .ref (t9 0)]))] ++ wS cI q st ++ wR cR h9 (fr7 ad n8) ol n7 ++ wT cC t9 tx ln po ki rp tg nu ++ [(o9, .inl (cJ, 1, .inr (.inl fo)))] ++ wP cI ad sv n8) sz (fun rz (u9 : Unit) => rz = nI 0) (fun u9 => []) (fun u9 => [(x9, .inr (3, [.ref (q 0), .ref (h9 0), .ref (t9 0)]))] ++ wS cI q st ++ wR cR h9 (fr7 ad n8) ol n7 ++ wT cC t9 tx ln po ki rp tg nu ++ [(o9, .inl (cJ, 1, .inr (.inl (vp_updL fo 0 ((sbE st (r * 480 + w * 80 + 1 * 4) 4 x 4 0)).toInt64))))] ++ wP cI ad sv n8) 0 0 := by
  refine met_zi (own := RL) (cc := cL_sibling) (maxL := 6) (hh := [(0, 12, 15, 13)]) (by decide) rfl rfl (Nat.le_of_ble_eq_true rfl) ?_
  intro p e s m args below meth c Q A hsz S htab hz hxe hzq hw hA hE ls hl
  obtain ⟨hx, hb, hml, hown, hts⟩ := id S
  have hl : lv_has ls 6 [(0, .ref x9), (1, .int (nI r)), (2, .int (nI w)), (3, .int x), (4, .ref o9)] := hl
  refine lv_aload hx hb dL_sibling_0 (lv_at hl 4 rfl) ?_
  refine lv_iconst (v := nI 0) hx hb dL_sibling_2 kc_iconst_0 ?_
  refine lv_aload_n hx hb dL_sibling_3 rfl (lv_at hl 0 rfl) ?_
  refine lv_iload_n hx hb dL_sibling_4 rfl (lv_at hl 1 rfl) ?_
  refine lv_iload_n hx hb dL_sibling_5 rfl (lv_at hl 2 rfl) ?_
  refine lv_iload_n hx hb dL_sibling_6 rfl (lv_at hl 3 rfl) ?_
  refine cpx_i (w1 := fun (u9 : Unit) => [(x9, .inr (3, [.ref (q 0), .ref (h9 0), .ref (t9 0)]))] ++ wS cI q st ++ wR cR h9 (fr7 ad n8) ol n7 ++ wT cC t9 tx ln po ki rp tg nu) (pl := fun (u9 : Unit) => wP cI ad sv n8) (As := [.int (nI r), .int (nI w), .int x]) (rest := [.int (nI 0), .ref o9]) (wc := [(x9, .inr (3, [.ref (q 0), .ref (h9 0), .ref (t9 0)]))] ++ wS cI q st ++ wR cR h9 (fr7 ad n8) ol n7 ++ wT cC t9 tx ln po ki rp tg nu) (wr := [(o9, .inl (cJ, 1, .inr (.inl fo)))]) S hz (c_X3_sibling l D (sz := s.heap.size) (cI := cI) (cR := cR) (cC := cC) (x9 := x9) (q := q) (st := st) (h9 := h9) (ad := ad) (sv := sv) (ol := ol) (n7 := n7) (n8 := n8) (t9 := t9) (tx := tx) (ln := ln) (po := po) (ki := ki) (rp := rp) (tg := tg) (nu := nu) (r := r) (w := w) (x := x) (hh := hh) (hr := by omega) (hw5 := by omega) (hx0 := by omega)) (cwV 3 hts gL_sibling_X3_sibling rfl rfl rfl (by decide +kernel) ⟨Nat.le_of_ble_eq_true rfl, Nat.le_of_ble_eq_true rfl⟩) hw hA [0, 1, 2, 3, 4, 5, 6, 7, 8, 9, 10, 11] [12] [0, 1, 2] rfl rfl (k0 := 13) rfl (by decide) rfl 0 rfl rfl rfl hl.1 (Nat.le_of_ble_eq_true rfl) ⟨Nat.le_of_ble_eq_true rfl, Nat.le_of_ble_eq_true rfl⟩ rfl dL_sibling_7 (fun r_7 u_7 H locs e_7 hw => ?_)
  obtain ⟨⟩ := u_7
  have hw : Wd D A [(cI, .int), (cR, .object RX1), (cC, .char), (cJ, .long)] ([(x9, .inr (3, [.ref (q 0), .ref (h9 0), .ref (t9 0)]))] ++ wS cI q st ++ wR cR h9 (fr7 ad n8) ol n7 ++ wT cC t9 tx ln po ki rp tg nu ++ [(o9, .inl (cJ, 1, .inr (.inl fo)))] ++ wP cI ad sv n8) s s.heap H locs := hw
  have e_7 : r_7 = sbE st (r * 480 + w * 80 + 1 * 4) 4 x 4 0 := e_7
  subst e_7
  refine lv_i2l hx hb dL_sibling_10 rfl ?_
  refine r_last hx hb hw 12 3 rfl rfl (i := 0) (by omega) (by decide) dL_sibling_11 (fun H locs hw => ?_)
  have hw : Wd D A [(cI, .int), (cR, .object RX1), (cC, .char), (cJ, .long)] ([(x9, .inr (3, [.ref (q 0), .ref (h9 0), .ref (t9 0)]))] ++ wS cI q st ++ wR cR h9 (fr7 ad n8) ol n7 ++ wT cC t9 tx ln po ki rp tg nu ++ [(o9, .inl (cJ, 1, .inr (.inl (vp_updL fo 0 ((sbE st (r * 480 + w * 80 + 1 * 4) 4 x 4 0).toInt64)))))] ++ wP cI ad sv n8) s s.heap H locs := hw
  refine lv_goto (tgt := 19) hx hb dL_sibling_12 (by decide) ?_
  refine lv_iconst (v := nI 0) hx hb dL_sibling_19 kc_iconst_0 ?_
  exact hE () dL_sibling_20 (Nat.le_of_ble_eq_true rfl) (Nat.le_of_ble_eq_true rfl) ⟨⟨hw.1.1, fun k q hk => by cases hk⟩, hw.2.1, hw.2.2.1, hw.2.2.2⟩ (show nI 0 = nI 0 from rfl)
abbrev rmL_greatest_v : Room := { frames := 4, cells := 0, slots := 0, locals := 91 }
set_option maxHeartbeats 4000000 in
set_option maxRecDepth 100000 in
theorem c_L_greatest_v (l : Launch) (D : va_G) (sz : Nat) (hl9 : l.stackTraces = false) (cI cR cC cJ : ClassId) (x9 : Nat) (q : Nat → Nat) (st : St) (h9 : Nat → Nat) (ad : Nat → Nat → Nat) (sv : Nat → St) (ol n7 n8 : Nat) (t9 : Nat → Nat) (tx : Nat → Nat) (ln po : Nat) (ki rp tg nu : Int32) (o9 : Nat) (fo : Nat → Int64) (r w : Nat) (hh : hI ol n7 n8) (hr : r < 4) (hw5 : w < 6) : MZi l yL_greatest wsL_greatest rmL_greatest_v [.ref x9, .int (nI r), .int (nI w), .ref o9] D [(cI, .int), (cR, .object RX1), (cC, .char), (cJ, .long)] ([(x9, .inr (3, [.ref (q 0), .ref (h9 0), .ref (t9 0)]))] ++ wS cI q st ++ wR cR h9 (fr7 ad n8) ol n7 ++ wT cC t9 tx ln po ki rp tg nu ++ [(o9, .inl (cJ, 1, .inr (.inl fo)))] ++ wP cI ad sv n8) sz (fun rz (u9 : Unit) => rz = nI 0) (fun u9 => []) (fun u9 => [(x9, .inr (3, [.ref (q 0), .ref (h9 0), .ref (t9 0)]))] ++ wS cI q st ++ wR cR h9 (fr7 ad n8) ol n7 ++ wT cC t9 tx ln po ki rp tg nu ++ [(o9, .inl (cJ, 1, .inr (.inl (vp_updL fo 0 ((grE st (r * 480 + w * 80 + 2 * 4) 4)).toInt64))))] ++ wP cI ad sv n8) 0 0 := by
  refine met_zi (own := RL) (cc := cL_greatest) (maxL := 5) (hh := [(0, 10, 13, 13)]) (by decide) rfl rfl (Nat.le_of_ble_eq_true rfl) ?_
  intro p e s m args below meth c Q A hsz S htab hz hxe hzq hw hA hE ls hl
  obtain ⟨hx, hb, hml, hown, hts⟩ := id S
  have hl : lv_has ls 5 [(0, .ref x9), (1, .int (nI r)), (2, .int (nI w)), (3, .ref o9)] := hl
  refine lv_aload_n hx hb dL_greatest_0 rfl (lv_at hl 3 rfl) ?_
  refine lv_iconst (v := nI 0) hx hb dL_greatest_1 kc_iconst_0 ?_
  refine lv_aload_n hx hb dL_greatest_2 rfl (lv_at hl 0 rfl) ?_
  refine lv_iload_n hx hb dL_greatest_3 rfl (lv_at hl 1 rfl) ?_
  refine lv_iload_n hx hb dL_greatest_4 rfl (lv_at hl 2 rfl) ?_
  refine cpx_i (w1 := fun (u9 : Unit) => [(x9, .inr (3, [.ref (q 0), .ref (h9 0), .ref (t9 0)]))] ++ wS cI q st ++ wR cR h9 (fr7 ad n8) ol n7 ++ wT cC t9 tx ln po ki rp tg nu) (pl := fun (u9 : Unit) => wP cI ad sv n8) (As := [.int (nI r), .int (nI w)]) (rest := [.int (nI 0), .ref o9]) (wc := [(x9, .inr (3, [.ref (q 0), .ref (h9 0), .ref (t9 0)]))] ++ wS cI q st ++ wR cR h9 (fr7 ad n8) ol n7 ++ wT cC t9 tx ln po ki rp tg nu) (wr := [(o9, .inl (cJ, 1, .inr (.inl fo)))]) S hz (c_X3_greatest l D (sz := s.heap.size) (cI := cI) (cR := cR) (cC := cC) (x9 := x9) (q := q) (st := st) (h9 := h9) (ad := ad) (sv := sv) (ol := ol) (n7 := n7) (n8 := n8) (t9 := t9) (tx := tx) (ln := ln) (po := po) (ki := ki) (rp := rp) (tg := tg) (nu := nu) (r := r) (w := w) (hh := hh) (hr := by omega) (hw5 := by omega)) (cwV 2 hts gL_greatest_X3_greatest rfl rfl rfl (by decide +kernel) ⟨Nat.le_of_ble_eq_true rfl, Nat.le_of_ble_eq_true rfl⟩) hw hA [0, 1, 2, 3, 4, 5, 6, 7, 8, 9, 10, 11] [12] [0, 1, 2] rfl rfl (k0 := 13) rfl (by decide) rfl 0 rfl rfl rfl hl.1 (Nat.le_of_ble_eq_true rfl) ⟨Nat.le_of_ble_eq_true rfl, Nat.le_of_ble_eq_true rfl⟩ rfl dL_greatest_5 (fun r_5 u_5 H locs e_5 hw => ?_)
  obtain ⟨⟩ := u_5
  have hw : Wd D A [(cI, .int), (cR, .object RX1), (cC, .char), (cJ, .long)] ([(x9, .inr (3, [.ref (q 0), .ref (h9 0), .ref (t9 0)]))] ++ wS cI q st ++ wR cR h9 (fr7 ad n8) ol n7 ++ wT cC t9 tx ln po ki rp tg nu ++ [(o9, .inl (cJ, 1, .inr (.inl fo)))] ++ wP cI ad sv n8) s s.heap H locs := hw
  have e_5 : r_5 = grE st (r * 480 + w * 80 + 2 * 4) 4 := e_5
  subst e_5
  refine lv_i2l hx hb dL_greatest_8 rfl ?_
  refine r_last hx hb hw 12 3 rfl rfl (i := 0) (by omega) (by decide) dL_greatest_9 (fun H locs hw => ?_)
  have hw : Wd D A [(cI, .int), (cR, .object RX1), (cC, .char), (cJ, .long)] ([(x9, .inr (3, [.ref (q 0), .ref (h9 0), .ref (t9 0)]))] ++ wS cI q st ++ wR cR h9 (fr7 ad n8) ol n7 ++ wT cC t9 tx ln po ki rp tg nu ++ [(o9, .inl (cJ, 1, .inr (.inl (vp_updL fo 0 ((grE st (r * 480 + w * 80 + 2 * 4) 4).toInt64)))))] ++ wP cI ad sv n8) s s.heap H locs := hw
  refine lv_goto (tgt := 17) hx hb dL_greatest_10 (by decide) ?_
  refine lv_iconst (v := nI 0) hx hb dL_greatest_17 kc_iconst_0 ?_
  exact hE () dL_greatest_18 (Nat.le_of_ble_eq_true rfl) (Nat.le_of_ble_eq_true rfl) ⟨⟨hw.1.1, fun k q hk => by cases hk⟩, hw.2.1, hw.2.2.1, hw.2.2.2⟩ (show nI 0 = nI 0 from rfl)
abbrev rmL_counter_v : Room := { frames := 4, cells := 0, slots := 0, locals := 92 }
set_option maxHeartbeats 4000000 in
set_option maxRecDepth 100000 in
theorem c_L_counter_v (l : Launch) (D : va_G) (sz : Nat) (hl9 : l.stackTraces = false) (cI cR cC cJ : ClassId) (x9 : Nat) (q : Nat → Nat) (st : St) (h9 : Nat → Nat) (ad : Nat → Nat → Nat) (sv : Nat → St) (ol n7 n8 : Nat) (t9 : Nat → Nat) (tx : Nat → Nat) (ln po : Nat) (ki rp tg nu : Int32) (o9 : Nat) (fo : Nat → Int64) (r w : Nat) (hh : hI ol n7 n8) (hr : r < 4) (hw5 : w < 6) : MZi l yL_counter wsL_counter rmL_counter_v [.ref x9, .int (nI r), .int (nI w), .ref o9] D [(cI, .int), (cR, .object RX1), (cC, .char), (cJ, .long)] ([(x9, .inr (3, [.ref (q 0), .ref (h9 0), .ref (t9 0)]))] ++ wS cI q st ++ wR cR h9 (fr7 ad n8) ol n7 ++ wT cC t9 tx ln po ki rp tg nu ++ [(o9, .inl (cJ, 1, .inr (.inl fo)))] ++ wP cI ad sv n8) sz (fun rz (u9 : Unit) => rz = nI 0) (fun u9 => []) (fun u9 => [(x9, .inr (3, [.ref (q 0), .ref (h9 0), .ref (t9 0)]))] ++ wS cI q st ++ wR cR h9 (fr7 ad n8) ol n7 ++ wT cC t9 tx ln po ki rp tg nu ++ [(o9, .inl (cJ, 1, .inr (.inl (vp_updL fo 0 ((smE st (r * 480 + w * 80 + 3 * 4) (cE 3 * 4 - 3 * 4))).toInt64))))] ++ wP cI ad sv n8) 0 0 := by
  refine met_zi (own := RL) (cc := cL_counter) (maxL := 5) (hh := [(0, 10, 13, 13)]) (by decide) rfl rfl (Nat.le_of_ble_eq_true rfl) ?_
  intro p e s m args below meth c Q A hsz S htab hz hxe hzq hw hA hE ls hl
  obtain ⟨hx, hb, hml, hown, hts⟩ := id S
  have hl : lv_has ls 5 [(0, .ref x9), (1, .int (nI r)), (2, .int (nI w)), (3, .ref o9)] := hl
  refine lv_aload_n hx hb dL_counter_0 rfl (lv_at hl 3 rfl) ?_
  refine lv_iconst (v := nI 0) hx hb dL_counter_1 kc_iconst_0 ?_
  refine lv_aload_n hx hb dL_counter_2 rfl (lv_at hl 0 rfl) ?_
  refine lv_iload_n hx hb dL_counter_3 rfl (lv_at hl 1 rfl) ?_
  refine lv_iload_n hx hb dL_counter_4 rfl (lv_at hl 2 rfl) ?_
  refine cpx_i (w1 := fun (u9 : Unit) => [(x9, .inr (3, [.ref (q 0), .ref (h9 0), .ref (t9 0)]))] ++ wS cI q st ++ wR cR h9 (fr7 ad n8) ol n7 ++ wT cC t9 tx ln po ki rp tg nu) (pl := fun (u9 : Unit) => wP cI ad sv n8) (As := [.int (nI r), .int (nI w)]) (rest := [.int (nI 0), .ref o9]) (wc := [(x9, .inr (3, [.ref (q 0), .ref (h9 0), .ref (t9 0)]))] ++ wS cI q st ++ wR cR h9 (fr7 ad n8) ol n7 ++ wT cC t9 tx ln po ki rp tg nu) (wr := [(o9, .inl (cJ, 1, .inr (.inl fo)))]) S hz (c_X3_counter l D (sz := s.heap.size) (cI := cI) (cR := cR) (cC := cC) (x9 := x9) (q := q) (st := st) (h9 := h9) (ad := ad) (sv := sv) (ol := ol) (n7 := n7) (n8 := n8) (t9 := t9) (tx := tx) (ln := ln) (po := po) (ki := ki) (rp := rp) (tg := tg) (nu := nu) (r := r) (w := w) (hh := hh) (hr := by omega) (hw5 := by omega)) (cwV 2 hts gL_counter_X3_counter rfl rfl rfl (by decide +kernel) ⟨Nat.le_of_ble_eq_true rfl, Nat.le_of_ble_eq_true rfl⟩) hw hA [0, 1, 2, 3, 4, 5, 6, 7, 8, 9, 10, 11] [12] [0, 1, 2] rfl rfl (k0 := 13) rfl (by decide) rfl 0 rfl rfl rfl hl.1 (Nat.le_of_ble_eq_true rfl) ⟨Nat.le_of_ble_eq_true rfl, Nat.le_of_ble_eq_true rfl⟩ rfl dL_counter_5 (fun r_5 u_5 H locs e_5 hw => ?_)
  obtain ⟨⟩ := u_5
  have hw : Wd D A [(cI, .int), (cR, .object RX1), (cC, .char), (cJ, .long)] ([(x9, .inr (3, [.ref (q 0), .ref (h9 0), .ref (t9 0)]))] ++ wS cI q st ++ wR cR h9 (fr7 ad n8) ol n7 ++ wT cC t9 tx ln po ki rp tg nu ++ [(o9, .inl (cJ, 1, .inr (.inl fo)))] ++ wP cI ad sv n8) s s.heap H locs := hw
  have e_5 : r_5 = smE st (r * 480 + w * 80 + 3 * 4) (cE 3 * 4 - 3 * 4) := e_5
  subst e_5
  refine lv_i2l hx hb dL_counter_8 rfl ?_
  refine r_last hx hb hw 12 3 rfl rfl (i := 0) (by omega) (by decide) dL_counter_9 (fun H locs hw => ?_)
  have hw : Wd D A [(cI, .int), (cR, .object RX1), (cC, .char), (cJ, .long)] ([(x9, .inr (3, [.ref (q 0), .ref (h9 0), .ref (t9 0)]))] ++ wS cI q st ++ wR cR h9 (fr7 ad n8) ol n7 ++ wT cC t9 tx ln po ki rp tg nu ++ [(o9, .inl (cJ, 1, .inr (.inl (vp_updL fo 0 ((smE st (r * 480 + w * 80 + 3 * 4) (cE 3 * 4 - 3 * 4)).toInt64)))))] ++ wP cI ad sv n8) s s.heap H locs := hw
  refine lv_goto (tgt := 17) hx hb dL_counter_10 (by decide) ?_
  refine lv_iconst (v := nI 0) hx hb dL_counter_17 kc_iconst_0 ?_
  exact hE () dL_counter_18 (Nat.le_of_ble_eq_true rfl) (Nat.le_of_ble_eq_true rfl) ⟨⟨hw.1.1, fun k q hk => by cases hk⟩, hw.2.1, hw.2.2.1, hw.2.2.2⟩ (show nI 0 = nI 0 from rfl)
abbrev rmL_elements_v : Room := { frames := 4, cells := 0, slots := 0, locals := 91 }
set_option maxHeartbeats 4000000 in
set_option maxRecDepth 100000 in
theorem c_L_elements_v (l : Launch) (D : va_G) (sz : Nat) (hl9 : l.stackTraces = false) (cI cR cC cJ : ClassId) (x9 : Nat) (q : Nat → Nat) (st : St) (h9 : Nat → Nat) (ad : Nat → Nat → Nat) (sv : Nat → St) (ol n7 n8 : Nat) (t9 : Nat → Nat) (tx : Nat → Nat) (ln po : Nat) (ki rp tg nu : Int32) (o9 : Nat) (fo : Nat → Int64) (r w : Nat) (hh : hI ol n7 n8) (hr : r < 4) (hw5 : w < 6) : MZi l yL_elements wsL_elements rmL_elements_v [.ref x9, .int (nI r), .int (nI w), .ref o9] D [(cI, .int), (cR, .object RX1), (cC, .char), (cJ, .long)] ([(x9, .inr (3, [.ref (q 0), .ref (h9 0), .ref (t9 0)]))] ++ wS cI q st ++ wR cR h9 (fr7 ad n8) ol n7 ++ wT cC t9 tx ln po ki rp tg nu ++ [(o9, .inl (cJ, 1, .inr (.inl fo)))] ++ wP cI ad sv n8) sz (fun rz (u9 : Unit) => rz = nI 0) (fun u9 => []) (fun u9 => [(x9, .inr (3, [.ref (q 0), .ref (h9 0), .ref (t9 0)]))] ++ wS cI q st ++ wR cR h9 (fr7 ad n8) ol n7 ++ wT cC t9 tx ln po ki rp tg nu ++ [(o9, .inl (cJ, 1, .inr (.inl (vp_updL fo 0 ((ebE st (r * 480 + w * 80 + 4 * 4) 64)).toInt64))))] ++ wP cI ad sv n8) 0 0 := by
  refine met_zi (own := RL) (cc := cL_elements) (maxL := 5) (hh := [(0, 10, 13, 13)]) (by decide) rfl rfl (Nat.le_of_ble_eq_true rfl) ?_
  intro p e s m args below meth c Q A hsz S htab hz hxe hzq hw hA hE ls hl
  obtain ⟨hx, hb, hml, hown, hts⟩ := id S
  have hl : lv_has ls 5 [(0, .ref x9), (1, .int (nI r)), (2, .int (nI w)), (3, .ref o9)] := hl
  refine lv_aload_n hx hb dL_elements_0 rfl (lv_at hl 3 rfl) ?_
  refine lv_iconst (v := nI 0) hx hb dL_elements_1 kc_iconst_0 ?_
  refine lv_aload_n hx hb dL_elements_2 rfl (lv_at hl 0 rfl) ?_
  refine lv_iload_n hx hb dL_elements_3 rfl (lv_at hl 1 rfl) ?_
  refine lv_iload_n hx hb dL_elements_4 rfl (lv_at hl 2 rfl) ?_
  refine cpx_i (w1 := fun (u9 : Unit) => [(x9, .inr (3, [.ref (q 0), .ref (h9 0), .ref (t9 0)]))] ++ wS cI q st ++ wR cR h9 (fr7 ad n8) ol n7 ++ wT cC t9 tx ln po ki rp tg nu) (pl := fun (u9 : Unit) => wP cI ad sv n8) (As := [.int (nI r), .int (nI w)]) (rest := [.int (nI 0), .ref o9]) (wc := [(x9, .inr (3, [.ref (q 0), .ref (h9 0), .ref (t9 0)]))] ++ wS cI q st ++ wR cR h9 (fr7 ad n8) ol n7 ++ wT cC t9 tx ln po ki rp tg nu) (wr := [(o9, .inl (cJ, 1, .inr (.inl fo)))]) S hz (c_X3_elements l D (sz := s.heap.size) (cI := cI) (cR := cR) (cC := cC) (x9 := x9) (q := q) (st := st) (h9 := h9) (ad := ad) (sv := sv) (ol := ol) (n7 := n7) (n8 := n8) (t9 := t9) (tx := tx) (ln := ln) (po := po) (ki := ki) (rp := rp) (tg := tg) (nu := nu) (r := r) (w := w) (hh := hh) (hr := by omega) (hw5 := by omega)) (cwV 2 hts gL_elements_X3_elements rfl rfl rfl (by decide +kernel) ⟨Nat.le_of_ble_eq_true rfl, Nat.le_of_ble_eq_true rfl⟩) hw hA [0, 1, 2, 3, 4, 5, 6, 7, 8, 9, 10, 11] [12] [0, 1, 2] rfl rfl (k0 := 13) rfl (by decide) rfl 0 rfl rfl rfl hl.1 (Nat.le_of_ble_eq_true rfl) ⟨Nat.le_of_ble_eq_true rfl, Nat.le_of_ble_eq_true rfl⟩ rfl dL_elements_5 (fun r_5 u_5 H locs e_5 hw => ?_)
  obtain ⟨⟩ := u_5
  have hw : Wd D A [(cI, .int), (cR, .object RX1), (cC, .char), (cJ, .long)] ([(x9, .inr (3, [.ref (q 0), .ref (h9 0), .ref (t9 0)]))] ++ wS cI q st ++ wR cR h9 (fr7 ad n8) ol n7 ++ wT cC t9 tx ln po ki rp tg nu ++ [(o9, .inl (cJ, 1, .inr (.inl fo)))] ++ wP cI ad sv n8) s s.heap H locs := hw
  have e_5 : r_5 = ebE st (r * 480 + w * 80 + 4 * 4) 64 := e_5
  subst e_5
  refine lv_i2l hx hb dL_elements_8 rfl ?_
  refine r_last hx hb hw 12 3 rfl rfl (i := 0) (by omega) (by decide) dL_elements_9 (fun H locs hw => ?_)
  have hw : Wd D A [(cI, .int), (cR, .object RX1), (cC, .char), (cJ, .long)] ([(x9, .inr (3, [.ref (q 0), .ref (h9 0), .ref (t9 0)]))] ++ wS cI q st ++ wR cR h9 (fr7 ad n8) ol n7 ++ wT cC t9 tx ln po ki rp tg nu ++ [(o9, .inl (cJ, 1, .inr (.inl (vp_updL fo 0 ((ebE st (r * 480 + w * 80 + 4 * 4) 64).toInt64)))))] ++ wP cI ad sv n8) s s.heap H locs := hw
  refine lv_goto (tgt := 17) hx hb dL_elements_10 (by decide) ?_
  refine lv_iconst (v := nI 0) hx hb dL_elements_17 kc_iconst_0 ?_
  exact hE () dL_elements_18 (Nat.le_of_ble_eq_true rfl) (Nat.le_of_ble_eq_true rfl) ⟨⟨hw.1.1, fun k q hk => by cases hk⟩, hw.2.1, hw.2.2.1, hw.2.2.2⟩ (show nI 0 = nI 0 from rfl)
abbrev rmL_entries_v : Room := { frames := 4, cells := 0, slots := 0, locals := 90 }
set_option maxHeartbeats 4000000 in
set_option maxRecDepth 100000 in
theorem c_L_entries_v (l : Launch) (D : va_G) (sz : Nat) (hl9 : l.stackTraces = false) (cI cR cC cJ : ClassId) (x9 : Nat) (q : Nat → Nat) (st : St) (h9 : Nat → Nat) (ad : Nat → Nat → Nat) (sv : Nat → St) (ol n7 n8 : Nat) (t9 : Nat → Nat) (tx : Nat → Nat) (ln po : Nat) (ki rp tg nu : Int32) (o9 : Nat) (fo : Nat → Int64) (r w g : Nat) (hh : hI ol n7 n8) (hr : r < 4) (hw5 : w < 6) (hg : g < 5) : MZi l yL_entries wsL_entries rmL_entries_v [.ref x9, .int (nI r), .int (nI w), .int (nI g), .ref o9] D [(cI, .int), (cR, .object RX1), (cC, .char), (cJ, .long)] ([(x9, .inr (3, [.ref (q 0), .ref (h9 0), .ref (t9 0)]))] ++ wS cI q st ++ wR cR h9 (fr7 ad n8) ol n7 ++ wT cC t9 tx ln po ki rp tg nu ++ [(o9, .inl (cJ, 1, .inr (.inl fo)))] ++ wP cI ad sv n8) sz (fun rz (u9 : Unit) => rz = nI 0) (fun u9 => []) (fun u9 => [(x9, .inr (3, [.ref (q 0), .ref (h9 0), .ref (t9 0)]))] ++ wS cI q st ++ wR cR h9 (fr7 ad n8) ol n7 ++ wT cC t9 tx ln po ki rp tg nu ++ [(o9, .inl (cJ, 1, .inr (.inl (vp_updL fo 0 ((nI (cntE st.1 (r * 480 + w * 80 + g * 4) (cE g * 4 - g * 4)))).toInt64))))] ++ wP cI ad sv n8) 0 0 := by
  refine met_zi (own := RL) (cc := cL_entries) (maxL := 6) (hh := [(0, 12, 15, 13)]) (by decide) rfl rfl (Nat.le_of_ble_eq_true rfl) ?_
  intro p e s m args below meth c Q A hsz S htab hz hxe hzq hw hA hE ls hl
  obtain ⟨hx, hb, hml, hown, hts⟩ := id S
  have hl : lv_has ls 6 [(0, .ref x9), (1, .int (nI r)), (2, .int (nI w)), (3, .int (nI g)), (4, .ref o9)] := hl
  refine lv_aload hx hb dL_entries_0 (lv_at hl 4 rfl) ?_
  refine lv_iconst (v := nI 0) hx hb dL_entries_2 kc_iconst_0 ?_
  refine lv_aload_n hx hb dL_entries_3 rfl (lv_at hl 0 rfl) ?_
  refine lv_iload_n hx hb dL_entries_4 rfl (lv_at hl 1 rfl) ?_
  refine lv_iload_n hx hb dL_entries_5 rfl (lv_at hl 2 rfl) ?_
  refine lv_iload_n hx hb dL_entries_6 rfl (lv_at hl 3 rfl) ?_
  refine cpx_i (w1 := fun (u9 : Unit) => [(x9, .inr (3, [.ref (q 0), .ref (h9 0), .ref (t9 0)]))] ++ wS cI q st ++ wR cR h9 (fr7 ad n8) ol n7 ++ wT cC t9 tx ln po ki rp tg nu) (pl := fun (u9 : Unit) => wP cI ad sv n8) (As := [.int (nI r), .int (nI w), .int (nI g)]) (rest := [.int (nI 0), .ref o9]) (wc := [(x9, .inr (3, [.ref (q 0), .ref (h9 0), .ref (t9 0)]))] ++ wS cI q st ++ wR cR h9 (fr7 ad n8) ol n7 ++ wT cC t9 tx ln po ki rp tg nu) (wr := [(o9, .inl (cJ, 1, .inr (.inl fo)))]) S hz (c_X3_entries l D (sz := s.heap.size) (cI := cI) (cR := cR) (cC := cC) (x9 := x9) (q := q) (st := st) (h9 := h9) (ad := ad) (sv := sv) (ol := ol) (n7 := n7) (n8 := n8) (t9 := t9) (tx := tx) (ln := ln) (po := po) (ki := ki) (rp := rp) (tg := tg) (nu := nu) (r := r) (w := w) (g := g) (hh := hh) (hr := by omega) (hw5 := by omega) (hg := by omega)) (cwV 3 hts gL_entries_X3_entries rfl rfl rfl (by decide +kernel) ⟨Nat.le_of_ble_eq_true rfl, Nat.le_of_ble_eq_true rfl⟩) hw hA [0, 1, 2, 3, 4, 5, 6, 7, 8, 9, 10, 11] [12] [0, 1, 2] rfl rfl (k0 := 13) rfl (by decide) rfl 0 rfl rfl rfl hl.1 (Nat.le_of_ble_eq_true rfl) ⟨Nat.le_of_ble_eq_true rfl, Nat.le_of_ble_eq_true rfl⟩ rfl dL_entries_7 (fun r_7 u_7 H locs e_7 hw => ?_)
  obtain ⟨⟩ := u_7
  have hw : Wd D A [(cI, .int), (cR, .object RX1), (cC, .char), (cJ, .long)] ([(x9, .inr (3, [.ref (q 0), .ref (h9 0), .ref (t9 0)]))] ++ wS cI q st ++ wR cR h9 (fr7 ad n8) ol n7 ++ wT cC t9 tx ln po ki rp tg nu ++ [(o9, .inl (cJ, 1, .inr (.inl fo)))] ++ wP cI ad sv n8) s s.heap H locs := hw
  have e_7 : r_7 = nI (cntE st.1 (r * 480 + w * 80 + g * 4) (cE g * 4 - g * 4)) := e_7
  subst e_7
  refine lv_i2l hx hb dL_entries_10 rfl ?_
  refine r_last hx hb hw 12 3 rfl rfl (i := 0) (by omega) (by decide) dL_entries_11 (fun H locs hw => ?_)
  have hw : Wd D A [(cI, .int), (cR, .object RX1), (cC, .char), (cJ, .long)] ([(x9, .inr (3, [.ref (q 0), .ref (h9 0), .ref (t9 0)]))] ++ wS cI q st ++ wR cR h9 (fr7 ad n8) ol n7 ++ wT cC t9 tx ln po ki rp tg nu ++ [(o9, .inl (cJ, 1, .inr (.inl (vp_updL fo 0 ((nI (cntE st.1 (r * 480 + w * 80 + g * 4) (cE g * 4 - g * 4))).toInt64)))))] ++ wP cI ad sv n8) s s.heap H locs := hw
  refine lv_goto (tgt := 19) hx hb dL_entries_12 (by decide) ?_
  refine lv_iconst (v := nI 0) hx hb dL_entries_19 kc_iconst_0 ?_
  exact hE () dL_entries_20 (Nat.le_of_ble_eq_true rfl) (Nat.le_of_ble_eq_true rfl) ⟨⟨hw.1.1, fun k q hk => by cases hk⟩, hw.2.1, hw.2.2.1, hw.2.2.2⟩ (show nI 0 = nI 0 from rfl)
abbrev rmL_seen_v : Room := { frames := 2, cells := 0, slots := 0, locals := 44 }
set_option maxHeartbeats 4000000 in
set_option maxRecDepth 100000 in
theorem c_L_seen_v (l : Launch) (D : va_G) (sz : Nat) (hl9 : l.stackTraces = false) (cI cR cC cJ : ClassId) (x9 : Nat) (q : Nat → Nat) (st : St) (h9 : Nat → Nat) (ad : Nat → Nat → Nat) (sv : Nat → St) (ol n7 n8 : Nat) (t9 : Nat → Nat) (tx : Nat → Nat) (ln po : Nat) (ki rp tg nu : Int32) (o9 : Nat) (fo : Nat → Int64) (a b : Nat) (hh : hI ol n7 n8) (ha : a < 4) (hb4 : b < 4) : MZi l yL_seen wsL_seen rmL_seen_v [.ref x9, .int (nI a), .int (nI b), .ref o9] D [(cI, .int), (cR, .object RX1), (cC, .char), (cJ, .long)] ([(x9, .inr (3, [.ref (q 0), .ref (h9 0), .ref (t9 0)]))] ++ wS cI q st ++ wR cR h9 (fr7 ad n8) ol n7 ++ wT cC t9 tx ln po ki rp tg nu ++ [(o9, .inl (cJ, 1, .inr (.inl fo)))] ++ wP cI ad sv n8) sz (fun rz (u9 : Unit) => rz = nI 0) (fun u9 => []) (fun u9 => [(x9, .inr (3, [.ref (q 0), .ref (h9 0), .ref (t9 0)]))] ++ wS cI q st ++ wR cR h9 (fr7 ad n8) ol n7 ++ wT cC t9 tx ln po ki rp tg nu ++ [(o9, .inl (cJ, 1, .inr (.inl (vp_updL fo 0 ((st.2.2.2.1 (a * 4 + b))).toInt64))))] ++ wP cI ad sv n8) 0 0 := by
  refine met_zi (own := RL) (cc := cL_seen) (maxL := 5) (hh := [(0, 10, 13, 13)]) (by decide) rfl rfl (Nat.le_of_ble_eq_true rfl) ?_
  intro p e s m args below meth c Q A hsz S htab hz hxe hzq hw hA hE ls hl
  obtain ⟨hx, hb, hml, hown, hts⟩ := id S
  have hl : lv_has ls 5 [(0, .ref x9), (1, .int (nI a)), (2, .int (nI b)), (3, .ref o9)] := hl
  refine lv_aload_n hx hb dL_seen_0 rfl (lv_at hl 3 rfl) ?_
  refine lv_iconst (v := nI 0) hx hb dL_seen_1 kc_iconst_0 ?_
  refine lv_aload_n hx hb dL_seen_2 rfl (lv_at hl 0 rfl) ?_
  refine lv_iload_n hx hb dL_seen_3 rfl (lv_at hl 1 rfl) ?_
  refine lv_iload_n hx hb dL_seen_4 rfl (lv_at hl 2 rfl) ?_
  refine cpx_i (w1 := fun (u9 : Unit) => [(x9, .inr (3, [.ref (q 0), .ref (h9 0), .ref (t9 0)]))] ++ wS cI q st ++ wR cR h9 (fr7 ad n8) ol n7 ++ wT cC t9 tx ln po ki rp tg nu) (pl := fun (u9 : Unit) => wP cI ad sv n8) (As := [.int (nI a), .int (nI b)]) (rest := [.int (nI 0), .ref o9]) (wc := [(x9, .inr (3, [.ref (q 0), .ref (h9 0), .ref (t9 0)]))] ++ wS cI q st ++ wR cR h9 (fr7 ad n8) ol n7 ++ wT cC t9 tx ln po ki rp tg nu) (wr := [(o9, .inl (cJ, 1, .inr (.inl fo)))]) S hz (c_X3_seen l D (sz := s.heap.size) (cI := cI) (cR := cR) (cC := cC) (x9 := x9) (q := q) (st := st) (h9 := h9) (ad := ad) (sv := sv) (ol := ol) (n7 := n7) (n8 := n8) (t9 := t9) (tx := tx) (ln := ln) (po := po) (ki := ki) (rp := rp) (tg := tg) (nu := nu) (a := a) (b := b) (hh := hh) (ha := by omega) (hb4 := by omega)) (cwV 2 hts gL_seen_X3_seen rfl rfl rfl (by decide +kernel) ⟨Nat.le_of_ble_eq_true rfl, Nat.le_of_ble_eq_true rfl⟩) hw hA [0, 1, 2, 3, 4, 5, 6, 7, 8, 9, 10, 11] [12] [0, 1, 2] rfl rfl (k0 := 13) rfl (by decide) rfl 0 rfl rfl rfl hl.1 (Nat.le_of_ble_eq_true rfl) ⟨Nat.le_of_ble_eq_true rfl, Nat.le_of_ble_eq_true rfl⟩ rfl dL_seen_5 (fun r_5 u_5 H locs e_5 hw => ?_)
  obtain ⟨⟩ := u_5
  have hw : Wd D A [(cI, .int), (cR, .object RX1), (cC, .char), (cJ, .long)] ([(x9, .inr (3, [.ref (q 0), .ref (h9 0), .ref (t9 0)]))] ++ wS cI q st ++ wR cR h9 (fr7 ad n8) ol n7 ++ wT cC t9 tx ln po ki rp tg nu ++ [(o9, .inl (cJ, 1, .inr (.inl fo)))] ++ wP cI ad sv n8) s s.heap H locs := hw
  have e_5 : r_5 = st.2.2.2.1 (a * 4 + b) := e_5
  subst e_5
  refine lv_i2l hx hb dL_seen_8 rfl ?_
  refine r_last hx hb hw 12 3 rfl rfl (i := 0) (by omega) (by decide) dL_seen_9 (fun H locs hw => ?_)
  have hw : Wd D A [(cI, .int), (cR, .object RX1), (cC, .char), (cJ, .long)] ([(x9, .inr (3, [.ref (q 0), .ref (h9 0), .ref (t9 0)]))] ++ wS cI q st ++ wR cR h9 (fr7 ad n8) ol n7 ++ wT cC t9 tx ln po ki rp tg nu ++ [(o9, .inl (cJ, 1, .inr (.inl (vp_updL fo 0 ((st.2.2.2.1 (a * 4 + b)).toInt64)))))] ++ wP cI ad sv n8) s s.heap H locs := hw
  refine lv_goto (tgt := 17) hx hb dL_seen_10 (by decide) ?_
  refine lv_iconst (v := nI 0) hx hb dL_seen_17 kc_iconst_0 ?_
  exact hE () dL_seen_18 (Nat.le_of_ble_eq_true rfl) (Nat.le_of_ble_eq_true rfl) ⟨⟨hw.1.1, fun k q hk => by cases hk⟩, hw.2.1, hw.2.2.1, hw.2.2.2⟩ (show nI 0 = nI 0 from rfl)
abbrev rmL_clock_v : Room := { frames := 2, cells := 0, slots := 0, locals := 41 }
set_option maxHeartbeats 4000000 in
set_option maxRecDepth 100000 in
theorem c_L_clock_v (l : Launch) (D : va_G) (sz : Nat) (hl9 : l.stackTraces = false) (cI cR cC cJ : ClassId) (x9 : Nat) (q : Nat → Nat) (st : St) (h9 : Nat → Nat) (ad : Nat → Nat → Nat) (sv : Nat → St) (ol n7 n8 : Nat) (t9 : Nat → Nat) (tx : Nat → Nat) (ln po : Nat) (ki rp tg nu : Int32) (o9 : Nat) (fo : Nat → Int64) (r : Nat) (hh : hI ol n7 n8) (hr : r < 4) : MZi l yL_clock wsL_clock rmL_clock_v [.ref x9, .int (nI r), .ref o9] D [(cI, .int), (cR, .object RX1), (cC, .char), (cJ, .long)] ([(x9, .inr (3, [.ref (q 0), .ref (h9 0), .ref (t9 0)]))] ++ wS cI q st ++ wR cR h9 (fr7 ad n8) ol n7 ++ wT cC t9 tx ln po ki rp tg nu ++ [(o9, .inl (cJ, 1, .inr (.inl fo)))] ++ wP cI ad sv n8) sz (fun rz (u9 : Unit) => rz = nI 0) (fun u9 => []) (fun u9 => [(x9, .inr (3, [.ref (q 0), .ref (h9 0), .ref (t9 0)]))] ++ wS cI q st ++ wR cR h9 (fr7 ad n8) ol n7 ++ wT cC t9 tx ln po ki rp tg nu ++ [(o9, .inl (cJ, 1, .inr (.inl (vp_updL fo 0 ((st.2.2.2.2.1 r)).toInt64))))] ++ wP cI ad sv n8) 0 0 := by
  refine met_zi (own := RL) (cc := cL_clock) (maxL := 4) (hh := [(0, 9, 12, 13)]) (by decide) rfl rfl (Nat.le_of_ble_eq_true rfl) ?_
  intro p e s m args below meth c Q A hsz S htab hz hxe hzq hw hA hE ls hl
  obtain ⟨hx, hb, hml, hown, hts⟩ := id S
  have hl : lv_has ls 4 [(0, .ref x9), (1, .int (nI r)), (2, .ref o9)] := hl
  refine lv_aload_n hx hb dL_clock_0 rfl (lv_at hl 2 rfl) ?_
  refine lv_iconst (v := nI 0) hx hb dL_clock_1 kc_iconst_0 ?_
  refine lv_aload_n hx hb dL_clock_2 rfl (lv_at hl 0 rfl) ?_
  refine lv_iload_n hx hb dL_clock_3 rfl (lv_at hl 1 rfl) ?_
  refine cpx_i (w1 := fun (u9 : Unit) => [(x9, .inr (3, [.ref (q 0), .ref (h9 0), .ref (t9 0)]))] ++ wS cI q st ++ wR cR h9 (fr7 ad n8) ol n7 ++ wT cC t9 tx ln po ki rp tg nu) (pl := fun (u9 : Unit) => wP cI ad sv n8) (As := [.int (nI r)]) (rest := [.int (nI 0), .ref o9]) (wc := [(x9, .inr (3, [.ref (q 0), .ref (h9 0), .ref (t9 0)]))] ++ wS cI q st ++ wR cR h9 (fr7 ad n8) ol n7 ++ wT cC t9 tx ln po ki rp tg nu) (wr := [(o9, .inl (cJ, 1, .inr (.inl fo)))]) S hz (c_X3_clock l D (sz := s.heap.size) (cI := cI) (cR := cR) (cC := cC) (x9 := x9) (q := q) (st := st) (h9 := h9) (ad := ad) (sv := sv) (ol := ol) (n7 := n7) (n8 := n8) (t9 := t9) (tx := tx) (ln := ln) (po := po) (ki := ki) (rp := rp) (tg := tg) (nu := nu) (r := r) (hh := hh) (hr := by omega)) (cwV 1 hts gL_clock_X3_clock rfl rfl rfl (by decide +kernel) ⟨Nat.le_of_ble_eq_true rfl, Nat.le_of_ble_eq_true rfl⟩) hw hA [0, 1, 2, 3, 4, 5, 6, 7, 8, 9, 10, 11] [12] [0, 1, 2] rfl rfl (k0 := 13) rfl (by decide) rfl 0 rfl rfl rfl hl.1 (Nat.le_of_ble_eq_true rfl) ⟨Nat.le_of_ble_eq_true rfl, Nat.le_of_ble_eq_true rfl⟩ rfl dL_clock_4 (fun r_4 u_4 H locs e_4 hw => ?_)
  obtain ⟨⟩ := u_4
  have hw : Wd D A [(cI, .int), (cR, .object RX1), (cC, .char), (cJ, .long)] ([(x9, .inr (3, [.ref (q 0), .ref (h9 0), .ref (t9 0)]))] ++ wS cI q st ++ wR cR h9 (fr7 ad n8) ol n7 ++ wT cC t9 tx ln po ki rp tg nu ++ [(o9, .inl (cJ, 1, .inr (.inl fo)))] ++ wP cI ad sv n8) s s.heap H locs := hw
  have e_4 : r_4 = st.2.2.2.2.1 r := e_4
  subst e_4
  refine lv_i2l hx hb dL_clock_7 rfl ?_
  refine r_last hx hb hw 12 3 rfl rfl (i := 0) (by omega) (by decide) dL_clock_8 (fun H locs hw => ?_)
  have hw : Wd D A [(cI, .int), (cR, .object RX1), (cC, .char), (cJ, .long)] ([(x9, .inr (3, [.ref (q 0), .ref (h9 0), .ref (t9 0)]))] ++ wS cI q st ++ wR cR h9 (fr7 ad n8) ol n7 ++ wT cC t9 tx ln po ki rp tg nu ++ [(o9, .inl (cJ, 1, .inr (.inl (vp_updL fo 0 ((st.2.2.2.2.1 r).toInt64)))))] ++ wP cI ad sv n8) s s.heap H locs := hw
  refine lv_goto (tgt := 15) hx hb dL_clock_9 (by decide) ?_
  refine lv_iconst (v := nI 0) hx hb dL_clock_15 kc_iconst_0 ?_
  exact hE () dL_clock_16 (Nat.le_of_ble_eq_true rfl) (Nat.le_of_ble_eq_true rfl) ⟨⟨hw.1.1, fun k q hk => by cases hk⟩, hw.2.1, hw.2.2.1, hw.2.2.2⟩ (show nI 0 = nI 0 from rfl)
abbrev rmL_relation_v : Room := { frames := 3, cells := 0, slots := 0, locals := 69 }
set_option maxHeartbeats 4000000 in
set_option maxRecDepth 100000 in
theorem c_L_relation_v (l : Launch) (D : va_G) (sz : Nat) (hl9 : l.stackTraces = false) (cI cR cC cJ : ClassId) (x9 : Nat) (q : Nat → Nat) (st : St) (h9 : Nat → Nat) (ad : Nat → Nat → Nat) (sv : Nat → St) (ol n7 n8 : Nat) (t9 : Nat → Nat) (tx : Nat → Nat) (ln po : Nat) (ki rp tg nu : Int32) (o9 : Nat) (fo : Nat → Int64) (a b : Nat) (hh : hI ol n7 n8) (ha : a < 4) (hb4 : b < 4) : MZi l yL_relation wsL_relation rmL_relation_v [.ref x9, .int (nI a), .int (nI b), .ref o9] D [(cI, .int), (cR, .object RX1), (cC, .char), (cJ, .long)] ([(x9, .inr (3, [.ref (q 0), .ref (h9 0), .ref (t9 0)]))] ++ wS cI q st ++ wR cR h9 (fr7 ad n8) ol n7 ++ wT cC t9 tx ln po ki rp tg nu ++ [(o9, .inl (cJ, 1, .inr (.inl fo)))] ++ wP cI ad sv n8) sz (fun rz (u9 : Unit) => rz = nI 0) (fun u9 => []) (fun u9 => [(x9, .inr (3, [.ref (q 0), .ref (h9 0), .ref (t9 0)]))] ++ wS cI q st ++ wR cR h9 (fr7 ad n8) ol n7 ++ wT cC t9 tx ln po ki rp tg nu ++ [(o9, .inl (cJ, 1, .inr (.inl (vp_updL fo 0 ((reS st a b)).toInt64))))] ++ wP cI ad sv n8) 0 0 := by
  refine met_zi (own := RL) (cc := cL_relation) (maxL := 5) (hh := [(0, 10, 13, 13)]) (by decide) rfl rfl (Nat.le_of_ble_eq_true rfl) ?_
  intro p e s m args below meth c Q A hsz S htab hz hxe hzq hw hA hE ls hl
  obtain ⟨hx, hb, hml, hown, hts⟩ := id S
  have hl : lv_has ls 5 [(0, .ref x9), (1, .int (nI a)), (2, .int (nI b)), (3, .ref o9)] := hl
  refine lv_aload_n hx hb dL_relation_0 rfl (lv_at hl 3 rfl) ?_
  refine lv_iconst (v := nI 0) hx hb dL_relation_1 kc_iconst_0 ?_
  refine lv_aload_n hx hb dL_relation_2 rfl (lv_at hl 0 rfl) ?_
  refine lv_iload_n hx hb dL_relation_3 rfl (lv_at hl 1 rfl) ?_
  refine lv_iload_n hx hb dL_relation_4 rfl (lv_at hl 2 rfl) ?_
  refine cpx_i (w1 := fun (u9 : Unit) => [(x9, .inr (3, [.ref (q 0), .ref (h9 0), .ref (t9 0)]))] ++ wS cI q st ++ wR cR h9 (fr7 ad n8) ol n7 ++ wT cC t9 tx ln po ki rp tg nu) (pl := fun (u9 : Unit) => wP cI ad sv n8) (As := [.int (nI a), .int (nI b)]) (rest := [.int (nI 0), .ref o9]) (wc := [(x9, .inr (3, [.ref (q 0), .ref (h9 0), .ref (t9 0)]))] ++ wS cI q st ++ wR cR h9 (fr7 ad n8) ol n7 ++ wT cC t9 tx ln po ki rp tg nu) (wr := [(o9, .inl (cJ, 1, .inr (.inl fo)))]) S hz (c_X3_relation l D (sz := s.heap.size) (cI := cI) (cR := cR) (cC := cC) (x9 := x9) (q := q) (st := st) (h9 := h9) (ad := ad) (sv := sv) (ol := ol) (n7 := n7) (n8 := n8) (t9 := t9) (tx := tx) (ln := ln) (po := po) (ki := ki) (rp := rp) (tg := tg) (nu := nu) (a := a) (b := b) (hh := hh) (ha := by omega) (hb4 := by omega)) (cwV 2 hts gL_relation_X3_relation rfl rfl rfl (by decide +kernel) ⟨Nat.le_of_ble_eq_true rfl, Nat.le_of_ble_eq_true rfl⟩) hw hA [0, 1, 2, 3, 4, 5, 6, 7, 8, 9, 10, 11] [12] [0, 1, 2] rfl rfl (k0 := 13) rfl (by decide) rfl 0 rfl rfl rfl hl.1 (Nat.le_of_ble_eq_true rfl) ⟨Nat.le_of_ble_eq_true rfl, Nat.le_of_ble_eq_true rfl⟩ rfl dL_relation_5 (fun r_5 u_5 H locs e_5 hw => ?_)
  obtain ⟨⟩ := u_5
  have hw : Wd D A [(cI, .int), (cR, .object RX1), (cC, .char), (cJ, .long)] ([(x9, .inr (3, [.ref (q 0), .ref (h9 0), .ref (t9 0)]))] ++ wS cI q st ++ wR cR h9 (fr7 ad n8) ol n7 ++ wT cC t9 tx ln po ki rp tg nu ++ [(o9, .inl (cJ, 1, .inr (.inl fo)))] ++ wP cI ad sv n8) s s.heap H locs := hw
  have e_5 : r_5 = reS st a b := e_5
  subst e_5
  refine lv_i2l hx hb dL_relation_8 rfl ?_
  refine r_last hx hb hw 12 3 rfl rfl (i := 0) (by omega) (by decide) dL_relation_9 (fun H locs hw => ?_)
  have hw : Wd D A [(cI, .int), (cR, .object RX1), (cC, .char), (cJ, .long)] ([(x9, .inr (3, [.ref (q 0), .ref (h9 0), .ref (t9 0)]))] ++ wS cI q st ++ wR cR h9 (fr7 ad n8) ol n7 ++ wT cC t9 tx ln po ki rp tg nu ++ [(o9, .inl (cJ, 1, .inr (.inl (vp_updL fo 0 ((reS st a b).toInt64)))))] ++ wP cI ad sv n8) s s.heap H locs := hw
  refine lv_goto (tgt := 17) hx hb dL_relation_10 (by decide) ?_
  refine lv_iconst (v := nI 0) hx hb dL_relation_17 kc_iconst_0 ?_
  exact hE () dL_relation_18 (Nat.le_of_ble_eq_true rfl) (Nat.le_of_ble_eq_true rfl) ⟨⟨hw.1.1, fun k q hk => by cases hk⟩, hw.2.1, hw.2.2.1, hw.2.2.2⟩ (show nI 0 = nI 0 from rfl)
abbrev rmL_conflicts_v : Room := { frames := 4, cells := 0, slots := 0, locals := 90 }
set_option maxHeartbeats 4000000 in
set_option maxRecDepth 100000 in
theorem c_L_conflicts_v (l : Launch) (D : va_G) (sz : Nat) (hl9 : l.stackTraces = false) (cI cR cC cJ : ClassId) (x9 : Nat) (q : Nat → Nat) (st : St) (h9 : Nat → Nat) (ad : Nat → Nat → Nat) (sv : Nat → St) (ol n7 n8 : Nat) (t9 : Nat → Nat) (tx : Nat → Nat) (ln po : Nat) (ki rp tg nu : Int32) (o9 : Nat) (fo : Nat → Int64) (r : Nat) (hh : hI ol n7 n8) (hr : r < 4) : MZi l yL_conflicts wsL_conflicts rmL_conflicts_v [.ref x9, .int (nI r), .ref o9] D [(cI, .int), (cR, .object RX1), (cC, .char), (cJ, .long)] ([(x9, .inr (3, [.ref (q 0), .ref (h9 0), .ref (t9 0)]))] ++ wS cI q st ++ wR cR h9 (fr7 ad n8) ol n7 ++ wT cC t9 tx ln po ki rp tg nu ++ [(o9, .inl (cJ, 1, .inr (.inl fo)))] ++ wP cI ad sv n8) sz (fun rz (u9 : Unit) => rz = nI 0) (fun u9 => []) (fun u9 => [(x9, .inr (3, [.ref (q 0), .ref (h9 0), .ref (t9 0)]))] ++ wS cI q st ++ wR cR h9 (fr7 ad n8) ol n7 ++ wT cC t9 tx ln po ki rp tg nu ++ [(o9, .inl (cJ, 1, .inr (.inl (vp_updL fo 0 ((nI (cfS st r 6))).toInt64))))] ++ wP cI ad sv n8) 0 0 := by
  refine met_zi (own := RL) (cc := cL_conflicts) (maxL := 4) (hh := [(0, 9, 12, 13)]) (by decide) rfl rfl (Nat.le_of_ble_eq_true rfl) ?_
  intro p e s m args below meth c Q A hsz S htab hz hxe hzq hw hA hE ls hl
  obtain ⟨hx, hb, hml, hown, hts⟩ := id S
  have hl : lv_has ls 4 [(0, .ref x9), (1, .int (nI r)), (2, .ref o9)] := hl
  refine lv_aload_n hx hb dL_conflicts_0 rfl (lv_at hl 2 rfl) ?_
  refine lv_iconst (v := nI 0) hx hb dL_conflicts_1 kc_iconst_0 ?_
  refine lv_aload_n hx hb dL_conflicts_2 rfl (lv_at hl 0 rfl) ?_
  refine lv_iload_n hx hb dL_conflicts_3 rfl (lv_at hl 1 rfl) ?_
  refine cpx_i (w1 := fun (u9 : Unit) => [(x9, .inr (3, [.ref (q 0), .ref (h9 0), .ref (t9 0)]))] ++ wS cI q st ++ wR cR h9 (fr7 ad n8) ol n7 ++ wT cC t9 tx ln po ki rp tg nu) (pl := fun (u9 : Unit) => wP cI ad sv n8) (As := [.int (nI r)]) (rest := [.int (nI 0), .ref o9]) (wc := [(x9, .inr (3, [.ref (q 0), .ref (h9 0), .ref (t9 0)]))] ++ wS cI q st ++ wR cR h9 (fr7 ad n8) ol n7 ++ wT cC t9 tx ln po ki rp tg nu) (wr := [(o9, .inl (cJ, 1, .inr (.inl fo)))]) S hz (c_X3_conflicts l D (sz := s.heap.size) (cI := cI) (cR := cR) (cC := cC) (x9 := x9) (q := q) (st := st) (h9 := h9) (ad := ad) (sv := sv) (ol := ol) (n7 := n7) (n8 := n8) (t9 := t9) (tx := tx) (ln := ln) (po := po) (ki := ki) (rp := rp) (tg := tg) (nu := nu) (r := r) (hh := hh) (hr := by omega)) (cwV 1 hts gL_conflicts_X3_conflicts rfl rfl rfl (by decide +kernel) ⟨Nat.le_of_ble_eq_true rfl, Nat.le_of_ble_eq_true rfl⟩) hw hA [0, 1, 2, 3, 4, 5, 6, 7, 8, 9, 10, 11] [12] [0, 1, 2] rfl rfl (k0 := 13) rfl (by decide) rfl 0 rfl rfl rfl hl.1 (Nat.le_of_ble_eq_true rfl) ⟨Nat.le_of_ble_eq_true rfl, Nat.le_of_ble_eq_true rfl⟩ rfl dL_conflicts_4 (fun r_4 u_4 H locs e_4 hw => ?_)
  obtain ⟨⟩ := u_4
  have hw : Wd D A [(cI, .int), (cR, .object RX1), (cC, .char), (cJ, .long)] ([(x9, .inr (3, [.ref (q 0), .ref (h9 0), .ref (t9 0)]))] ++ wS cI q st ++ wR cR h9 (fr7 ad n8) ol n7 ++ wT cC t9 tx ln po ki rp tg nu ++ [(o9, .inl (cJ, 1, .inr (.inl fo)))] ++ wP cI ad sv n8) s s.heap H locs := hw
  have e_4 : r_4 = nI (cfS st r 6) := e_4
  subst e_4
  refine lv_i2l hx hb dL_conflicts_7 rfl ?_
  refine r_last hx hb hw 12 3 rfl rfl (i := 0) (by omega) (by decide) dL_conflicts_8 (fun H locs hw => ?_)
  have hw : Wd D A [(cI, .int), (cR, .object RX1), (cC, .char), (cJ, .long)] ([(x9, .inr (3, [.ref (q 0), .ref (h9 0), .ref (t9 0)]))] ++ wS cI q st ++ wR cR h9 (fr7 ad n8) ol n7 ++ wT cC t9 tx ln po ki rp tg nu ++ [(o9, .inl (cJ, 1, .inr (.inl (vp_updL fo 0 ((nI (cfS st r 6)).toInt64)))))] ++ wP cI ad sv n8) s s.heap H locs := hw
  refine lv_goto (tgt := 15) hx hb dL_conflicts_9 (by decide) ?_
  refine lv_iconst (v := nI 0) hx hb dL_conflicts_15 kc_iconst_0 ?_
  exact hE () dL_conflicts_16 (Nat.le_of_ble_eq_true rfl) (Nat.le_of_ble_eq_true rfl) ⟨⟨hw.1.1, fun k q hk => by cases hk⟩, hw.2.1, hw.2.2.1, hw.2.2.2⟩ (show nI 0 = nI 0 from rfl)
abbrev rmL_latestMerge_v : Room := { frames := 1, cells := 0, slots := 0, locals := 21 }
set_option maxHeartbeats 4000000 in
set_option maxRecDepth 100000 in
theorem c_L_latestMerge_v (l : Launch) (D : va_G) (sz : Nat) (hl9 : l.stackTraces = false) (cI cR cC cJ : ClassId) (x9 : Nat) (q : Nat → Nat) (st : St) (h9 : Nat → Nat) (ad : Nat → Nat → Nat) (sv : Nat → St) (ol n7 n8 : Nat) (t9 : Nat → Nat) (tx : Nat → Nat) (ln po : Nat) (ki rp tg nu : Int32) (o9 : Nat) (fo : Nat → Int64) (c9 : Nat) (hh : hI ol n7 n8) (hc : c9 < 4) : MZi l yL_latestMerge wsL_latestMerge rmL_latestMerge_v [.ref x9, .int (nI c9), .ref o9] D [(cI, .int), (cR, .object RX1), (cC, .char), (cJ, .long)] ([(x9, .inr (3, [.ref (q 0), .ref (h9 0), .ref (t9 0)]))] ++ wS cI q st ++ wR cR h9 (fr7 ad n8) ol n7 ++ wT cC t9 tx ln po ki rp tg nu ++ [(o9, .inl (cJ, 1, .inr (.inl fo)))] ++ wP cI ad sv n8) sz (fun rz (u9 : Unit) => rz = nI 0) (fun u9 => []) (fun u9 => [(x9, .inr (3, [.ref (q 0), .ref (h9 0), .ref (t9 0)]))] ++ wS cI q st ++ wR cR h9 (fr7 ad n8) ol n7 ++ wT cC t9 tx ln po ki rp tg nu ++ [(o9, .inl (cJ, 1, .inr (.inl (vp_updL fo 0 ((st.2.2.2.2.2 c9)).toInt64))))] ++ wP cI ad sv n8) 0 0 := by
  refine met_zi (own := RL) (cc := cL_latestMerge) (maxL := 4) (hh := [(0, 9, 12, 15)]) (by decide) rfl rfl (Nat.le_of_ble_eq_true rfl) ?_
  intro p e s m args below meth c Q A hsz S htab hz hxe hzq hw hA hE ls hl
  obtain ⟨hx, hb, hml, hown, hts⟩ := id S
  have hl : lv_has ls 4 [(0, .ref x9), (1, .int (nI c9)), (2, .ref o9)] := hl
  refine lv_aload_n hx hb dL_latestMerge_0 rfl (lv_at hl 2 rfl) ?_
  refine lv_iconst (v := nI 0) hx hb dL_latestMerge_1 kc_iconst_0 ?_
  refine lv_aload_n hx hb dL_latestMerge_2 rfl (lv_at hl 0 rfl) ?_
  refine lv_iload_n hx hb dL_latestMerge_3 rfl (lv_at hl 1 rfl) ?_
  refine cpx_i (w1 := fun (u9 : Unit) => [(x9, .inr (3, [.ref (q 0), .ref (h9 0), .ref (t9 0)]))] ++ wS cI q st ++ wR cR h9 (fr7 ad n8) ol n7 ++ wT cC t9 tx ln po ki rp tg nu) (pl := fun (u9 : Unit) => wP cI ad sv n8) (As := [.int (nI c9)]) (rest := [.int (nI 0), .ref o9]) (wc := [(x9, .inr (3, [.ref (q 0), .ref (h9 0), .ref (t9 0)]))] ++ wS cI q st ++ wR cR h9 (fr7 ad n8) ol n7 ++ wT cC t9 tx ln po ki rp tg nu) (wr := [(o9, .inl (cJ, 1, .inr (.inl fo)))]) S hz (c_X3_latestMerge l D (sz := s.heap.size) (cI := cI) (cR := cR) (cC := cC) (x9 := x9) (q := q) (st := st) (h9 := h9) (ad := ad) (sv := sv) (ol := ol) (n7 := n7) (n8 := n8) (t9 := t9) (tx := tx) (ln := ln) (po := po) (ki := ki) (rp := rp) (tg := tg) (nu := nu) (c9 := c9) (hh := hh) (hc := by omega)) (cwV 1 hts gL_latestMerge_X3_latestMerge rfl rfl rfl (by decide +kernel) ⟨Nat.le_of_ble_eq_true rfl, Nat.le_of_ble_eq_true rfl⟩) hw hA [0, 1, 2, 3, 4, 5, 6, 7, 8, 9, 10, 11] [12] [0, 1, 2] rfl rfl (k0 := 13) rfl (by decide) rfl 0 rfl rfl rfl hl.1 (Nat.le_of_ble_eq_true rfl) ⟨Nat.le_of_ble_eq_true rfl, Nat.le_of_ble_eq_true rfl⟩ rfl dL_latestMerge_4 (fun r_4 u_4 H locs e_4 hw => ?_)
  obtain ⟨⟩ := u_4
  have hw : Wd D A [(cI, .int), (cR, .object RX1), (cC, .char), (cJ, .long)] ([(x9, .inr (3, [.ref (q 0), .ref (h9 0), .ref (t9 0)]))] ++ wS cI q st ++ wR cR h9 (fr7 ad n8) ol n7 ++ wT cC t9 tx ln po ki rp tg nu ++ [(o9, .inl (cJ, 1, .inr (.inl fo)))] ++ wP cI ad sv n8) s s.heap H locs := hw
  have e_4 : r_4 = st.2.2.2.2.2 c9 := e_4
  subst e_4
  refine lv_i2l hx hb dL_latestMerge_7 rfl ?_
  refine r_last hx hb hw 12 3 rfl rfl (i := 0) (by omega) (by decide) dL_latestMerge_8 (fun H locs hw => ?_)
  have hw : Wd D A [(cI, .int), (cR, .object RX1), (cC, .char), (cJ, .long)] ([(x9, .inr (3, [.ref (q 0), .ref (h9 0), .ref (t9 0)]))] ++ wS cI q st ++ wR cR h9 (fr7 ad n8) ol n7 ++ wT cC t9 tx ln po ki rp tg nu ++ [(o9, .inl (cJ, 1, .inr (.inl (vp_updL fo 0 ((st.2.2.2.2.2 c9).toInt64)))))] ++ wP cI ad sv n8) s s.heap H locs := hw
  refine lv_goto (tgt := 15) hx hb dL_latestMerge_9 (by decide) ?_
  refine lv_iconst (v := nI 0) hx hb dL_latestMerge_15 kc_iconst_0 ?_
  exact hE () dL_latestMerge_16 (Nat.le_of_ble_eq_true rfl) (Nat.le_of_ble_eq_true rfl) ⟨⟨hw.1.1, fun k q hk => by cases hk⟩, hw.2.1, hw.2.2.1, hw.2.2.2⟩ (show nI 0 = nI 0 from rfl)
abbrev rmL_ifMerged_v : Room := { frames := 4, cells := 0, slots := 0, locals := 93 }
set_option maxHeartbeats 4000000 in
set_option maxRecDepth 100000 in
theorem c_L_ifMerged_v (l : Launch) (D : va_G) (sz : Nat) (hl9 : l.stackTraces = false) (cI cR cC cJ : ClassId) (x9 : Nat) (q : Nat → Nat) (st : St) (h9 : Nat → Nat) (ad : Nat → Nat → Nat) (sv : Nat → St) (ol n7 n8 : Nat) (t9 : Nat → Nat) (tx : Nat → Nat) (ln po : Nat) (ki rp tg nu : Int32) (o9 : Nat) (fo : Nat → Int64) (f t g : Nat) (hh : hI ol n7 n8) (hf4 : f < 4) (ht4 : t < 4) (hne : f ≠ t) (hg2 : 2 ≤ g) (hg3 : g ≤ 3) : MZi l yL_ifMerged wsL_ifMerged rmL_ifMerged_v [.ref x9, .int (nI f), .int (nI t), .int (nI g), .ref o9] D [(cI, .int), (cR, .object RX1), (cC, .char), (cJ, .long)] ([(x9, .inr (3, [.ref (q 0), .ref (h9 0), .ref (t9 0)]))] ++ wS cI q st ++ wR cR h9 (fr7 ad n8) ol n7 ++ wT cC t9 tx ln po ki rp tg nu ++ [(o9, .inl (cJ, 1, .inr (.inl fo)))] ++ wP cI ad sv n8) sz (fun rz (u9 : Unit) => rz = nI 0) (fun u9 => []) (fun u9 => [(x9, .inr (3, [.ref (q 0), .ref (h9 0), .ref (t9 0)]))] ++ wS cI q st ++ wR cR h9 (fr7 ad n8) ol n7 ++ wT cC t9 tx ln po ki rp tg nu ++ [(o9, .inl (cJ, 1, .inr (.inl (vp_updL fo 0 ((nI (if g = 2 then cntP (fun o => addP st f t o) 480 else cntP (fun o => remP st f t o) 480))).toInt64))))] ++ wP cI ad sv n8) 0 0 := by
  refine met_zi (own := RL) (cc := cL_ifMerged) (maxL := 6) (hh := [(0, 12, 15, 13), (0, 12, 19, 15)]) (by decide) rfl rfl (Nat.le_of_ble_eq_true rfl) ?_
  intro p e s m args below meth c Q A hsz S htab hz hxe hzq hw hA hE ls hl
  obtain ⟨hx, hb, hml, hown, hts⟩ := id S
  have hl : lv_has ls 6 [(0, .ref x9), (1, .int (nI f)), (2, .int (nI t)), (3, .int (nI g)), (4, .ref o9)] := hl
  refine lv_aload hx hb dL_ifMerged_0 (lv_at hl 4 rfl) ?_
  refine lv_iconst (v := nI 0) hx hb dL_ifMerged_2 kc_iconst_0 ?_
  refine lv_aload_n hx hb dL_ifMerged_3 rfl (lv_at hl 0 rfl) ?_
  refine lv_iload_n hx hb dL_ifMerged_4 rfl (lv_at hl 1 rfl) ?_
  refine lv_iload_n hx hb dL_ifMerged_5 rfl (lv_at hl 2 rfl) ?_
  refine lv_iload_n hx hb dL_ifMerged_6 rfl (lv_at hl 3 rfl) ?_
  refine cpx_i (w1 := fun (u9 : Unit) => [(x9, .inr (3, [.ref (q 0), .ref (h9 0), .ref (t9 0)]))] ++ wS cI q st ++ wR cR h9 (fr7 ad n8) ol n7 ++ wT cC t9 tx ln po ki rp tg nu) (pl := fun (u9 : Unit) => wP cI ad sv n8) (As := [.int (nI f), .int (nI t), .int (nI g)]) (rest := [.int (nI 0), .ref o9]) (wc := [(x9, .inr (3, [.ref (q 0), .ref (h9 0), .ref (t9 0)]))] ++ wS cI q st ++ wR cR h9 (fr7 ad n8) ol n7 ++ wT cC t9 tx ln po ki rp tg nu) (wr := [(o9, .inl (cJ, 1, .inr (.inl fo)))]) S hz (c_X3_ifMerged l D (sz := s.heap.size) (cI := cI) (cR := cR) (cC := cC) (x9 := x9) (q := q) (st := st) (h9 := h9) (ad := ad) (sv := sv) (ol := ol) (n7 := n7) (n8 := n8) (t9 := t9) (tx := tx) (ln := ln) (po := po) (ki := ki) (rp := rp) (tg := tg) (nu := nu) (f := f) (t := t) (g := g) (hh := hh) (hf4 := by omega) (ht4 := by omega) (hne := by omega) (hg2 := by omega) (hg3 := by omega)) (cwV 3 hts gL_ifMerged_X3_ifMerged rfl rfl rfl (by decide +kernel) ⟨Nat.le_of_ble_eq_true rfl, Nat.le_of_ble_eq_true rfl⟩) hw hA [0, 1, 2, 3, 4, 5, 6, 7, 8, 9, 10, 11] [12] [0, 1, 2] rfl rfl (k0 := 13) rfl (by decide) rfl 0 rfl rfl rfl hl.1 (Nat.le_of_ble_eq_true rfl) ⟨Nat.le_of_ble_eq_true rfl, Nat.le_of_ble_eq_true rfl⟩ rfl dL_ifMerged_7 (fun r_7 u_7 H locs e_7 hw => ?_)
  obtain ⟨⟩ := u_7
  have hw : Wd D A [(cI, .int), (cR, .object RX1), (cC, .char), (cJ, .long)] ([(x9, .inr (3, [.ref (q 0), .ref (h9 0), .ref (t9 0)]))] ++ wS cI q st ++ wR cR h9 (fr7 ad n8) ol n7 ++ wT cC t9 tx ln po ki rp tg nu ++ [(o9, .inl (cJ, 1, .inr (.inl fo)))] ++ wP cI ad sv n8) s s.heap H locs := hw
  have e_7 : r_7 = nI (if g = 2 then cntP (fun o => addP st f t o) 480 else cntP (fun o => remP st f t o) 480) := e_7
  subst e_7
  refine lv_i2l hx hb dL_ifMerged_10 rfl ?_
  refine r_last hx hb hw 12 3 rfl rfl (i := 0) (by omega) (by decide) dL_ifMerged_11 (fun H locs hw => ?_)
  have hw : Wd D A [(cI, .int), (cR, .object RX1), (cC, .char), (cJ, .long)] ([(x9, .inr (3, [.ref (q 0), .ref (h9 0), .ref (t9 0)]))] ++ wS cI q st ++ wR cR h9 (fr7 ad n8) ol n7 ++ wT cC t9 tx ln po ki rp tg nu ++ [(o9, .inl (cJ, 1, .inr (.inl (vp_updL fo 0 ((nI (if g = 2 then cntP (fun o => addP st f t o) 480 else cntP (fun o => remP st f t o) 480)).toInt64)))))] ++ wP cI ad sv n8) s s.heap H locs := hw
  refine lv_goto (tgt := 23) hx hb dL_ifMerged_12 (by decide) ?_
  refine lv_iconst (v := nI 0) hx hb dL_ifMerged_23 kc_iconst_0 ?_
  exact hE () dL_ifMerged_24 (Nat.le_of_ble_eq_true rfl) (Nat.le_of_ble_eq_true rfl) ⟨⟨hw.1.1, fun k q hk => by cases hk⟩, hw.2.1, hw.2.2.1, hw.2.2.2⟩ (show nI 0 = nI 0 from rfl)
abbrev rmL_exists_v : Room := { frames := 3, cells := 0, slots := 0, locals := 68 }
set_option maxHeartbeats 4000000 in
set_option maxRecDepth 100000 in
theorem c_L_exists_v (l : Launch) (D : va_G) (sz : Nat) (hl9 : l.stackTraces = false) (cI cR cC cJ : ClassId) (x9 : Nat) (q : Nat → Nat) (st : St) (h9 : Nat → Nat) (ad : Nat → Nat → Nat) (sv : Nat → St) (ol n7 n8 : Nat) (t9 : Nat → Nat) (tx : Nat → Nat) (ln po : Nat) (ki rp tg nu : Int32) (o9 : Nat) (fo : Nat → Int64) (r w : Nat) (hh : hI ol n7 n8) (hr : r < 4) (hw5 : w < 6) : MZi l yL_exists wsL_exists rmL_exists_v [.ref x9, .int (nI r), .int (nI w), .ref o9] D [(cI, .int), (cR, .object RX1), (cC, .char), (cJ, .long)] ([(x9, .inr (3, [.ref (q 0), .ref (h9 0), .ref (t9 0)]))] ++ wS cI q st ++ wR cR h9 (fr7 ad n8) ol n7 ++ wT cC t9 tx ln po ki rp tg nu ++ [(o9, .inl (cJ, 1, .inr (.inl fo)))] ++ wP cI ad sv n8) sz (fun rz (u9 : Unit) => rz = nI 0) (fun u9 => []) (fun u9 => [(x9, .inr (3, [.ref (q 0), .ref (h9 0), .ref (t9 0)]))] ++ wS cI q st ++ wR cR h9 (fr7 ad n8) ol n7 ++ wT cC t9 tx ln po ki rp tg nu ++ [(o9, .inl (cJ, 1, .inr (.inl (vp_updL fo 0 (if 0 < cntE st.1 (r * 480 + w * 80 + 0 * 4) 80 then (1 : Int64) else 0)))))] ++ wP cI ad sv n8) 0 0 := by
  refine met_zi (own := RL) (cc := cL_exists) (maxL := 5) (hh := [(0, 17, 20, 13)]) (by decide) rfl rfl (Nat.le_of_ble_eq_true rfl) ?_
  intro p e s m args below meth c Q A hsz S htab hz hxe hzq hw hA hE ls hl
  obtain ⟨hx, hb, hml, hown, hts⟩ := id S
  have hl : lv_has ls 5 [(0, .ref x9), (1, .int (nI r)), (2, .int (nI w)), (3, .ref o9)] := hl
  refine lv_aload_n hx hb dL_exists_0 rfl (lv_at hl 3 rfl) ?_
  refine lv_iconst (v := nI 0) hx hb dL_exists_1 kc_iconst_0 ?_
  refine lv_aload_n hx hb dL_exists_2 rfl (lv_at hl 0 rfl) ?_
  refine lv_iload_n hx hb dL_exists_3 rfl (lv_at hl 1 rfl) ?_
  refine lv_iload_n hx hb dL_exists_4 rfl (lv_at hl 2 rfl) ?_
  refine cpx_i (w1 := fun (u9 : Unit) => [(x9, .inr (3, [.ref (q 0), .ref (h9 0), .ref (t9 0)]))] ++ wS cI q st ++ wR cR h9 (fr7 ad n8) ol n7 ++ wT cC t9 tx ln po ki rp tg nu) (pl := fun (u9 : Unit) => wP cI ad sv n8) (As := [.int (nI r), .int (nI w)]) (rest := [.int (nI 0), .ref o9]) (wc := [(x9, .inr (3, [.ref (q 0), .ref (h9 0), .ref (t9 0)]))] ++ wS cI q st ++ wR cR h9 (fr7 ad n8) ol n7 ++ wT cC t9 tx ln po ki rp tg nu) (wr := [(o9, .inl (cJ, 1, .inr (.inl fo)))]) S hz (c_X3_exists l D (sz := s.heap.size) (cI := cI) (cR := cR) (cC := cC) (x9 := x9) (q := q) (st := st) (h9 := h9) (ad := ad) (sv := sv) (ol := ol) (n7 := n7) (n8 := n8) (t9 := t9) (tx := tx) (ln := ln) (po := po) (ki := ki) (rp := rp) (tg := tg) (nu := nu) (r := r) (w := w) (hh := hh) (hr := by omega) (hw5 := by omega)) (cwV 2 hts gL_exists_X3_exists rfl rfl rfl (by decide +kernel) ⟨Nat.le_of_ble_eq_true rfl, Nat.le_of_ble_eq_true rfl⟩) hw hA [0, 1, 2, 3, 4, 5, 6, 7, 8, 9, 10, 11] [12] [0, 1, 2] rfl rfl (k0 := 13) rfl (by decide) rfl 0 rfl rfl rfl hl.1 (Nat.le_of_ble_eq_true rfl) ⟨Nat.le_of_ble_eq_true rfl, Nat.le_of_ble_eq_true rfl⟩ rfl dL_exists_5 (fun r_5 u_5 H locs e_5 hw => ?_)
  obtain ⟨⟩ := u_5
  have hw : Wd D A [(cI, .int), (cR, .object RX1), (cC, .char), (cJ, .long)] ([(x9, .inr (3, [.ref (q 0), .ref (h9 0), .ref (t9 0)]))] ++ wS cI q st ++ wR cR h9 (fr7 ad n8) ol n7 ++ wT cC t9 tx ln po ki rp tg nu ++ [(o9, .inl (cJ, 1, .inr (.inl fo)))] ++ wP cI ad sv n8) s s.heap H locs := hw
  have e_5 : r_5 = b2 (0 < cntE st.1 (r * 480 + w * 80 + 0 * 4) 80) := e_5
  subst e_5
  refine r_if_eqB (tgt := 15) hx hb dL_exists_8 (by decide) (fun c_8 => ?_) (fun c_8 => ?_)
  ·
    refine lv_lconst (v := 0) hx hb dL_exists_15 (by decide +kernel) ?_
    refine r_last hx hb hw 12 3 rfl rfl (i := 0) (by omega) (by decide) dL_exists_16 (fun H locs hw => ?_)
    have hw : Wd D A [(cI, .int), (cR, .object RX1), (cC, .char), (cJ, .long)] ([(x9, .inr (3, [.ref (q 0), .ref (h9 0), .ref (t9 0)]))] ++ wS cI q st ++ wR cR h9 (fr7 ad n8) ol n7 ++ wT cC t9 tx ln po ki rp tg nu ++ [(o9, .inl (cJ, 1, .inr (.inl (vp_updL fo 0 (0 : Int64)))))] ++ wP cI ad sv n8) s s.heap H locs := hw
    have hw : Wd D A [(cI, .int), (cR, .object RX1), (cC, .char), (cJ, .long)] ([(x9, .inr (3, [.ref (q 0), .ref (h9 0), .ref (t9 0)]))] ++ wS cI q st ++ wR cR h9 (fr7 ad n8) ol n7 ++ wT cC t9 tx ln po ki rp tg nu ++ [(o9, .inl (cJ, 1, .inr (.inl (vp_updL fo 0 (if 0 < cntE st.1 (r * 480 + w * 80 + 0 * 4) 80 then (1 : Int64) else 0)))))] ++ wP cI ad sv n8) s s.heap H locs := Eq.mp (congrArg (fun z9 => Wd D A [(cI, .int), (cR, .object RX1), (cC, .char), (cJ, .long)] ([(x9, .inr (3, [.ref (q 0), .ref (h9 0), .ref (t9 0)]))] ++ wS cI q st ++ wR cR h9 (fr7 ad n8) ol n7 ++ wT cC t9 tx ln po ki rp tg nu ++ [(o9, .inl (cJ, 1, .inr (.inl z9)))] ++ wP cI ad sv n8) s s.heap H locs) (show vp_updL fo 0 (0 : Int64) = vp_updL fo 0 (if 0 < cntE st.1 (r * 480 + w * 80 + 0 * 4) 80 then (1 : Int64) else 0) from by rw [if_neg c_8])) hw
    refine lv_goto (tgt := 24) hx hb dL_exists_17 (by decide) ?_
    refine lv_iconst (v := nI 0) hx hb dL_exists_24 kc_iconst_0 ?_
    exact hE () dL_exists_25 (Nat.le_of_ble_eq_true rfl) (Nat.le_of_ble_eq_true rfl) ⟨⟨hw.1.1, fun k q hk => by cases hk⟩, hw.2.1, hw.2.2.1, hw.2.2.2⟩ (show nI 0 = nI 0 from rfl)
  ·
    refine lv_lconst (v := 1) hx hb dL_exists_11 (by decide +kernel) ?_
    refine lv_goto (tgt := 16) hx hb dL_exists_12 (by decide) ?_
    refine r_last hx hb hw 12 3 rfl rfl (i := 0) (by omega) (by decide) dL_exists_16 (fun H locs hw => ?_)
    have hw : Wd D A [(cI, .int), (cR, .object RX1), (cC, .char), (cJ, .long)] ([(x9, .inr (3, [.ref (q 0), .ref (h9 0), .ref (t9 0)]))] ++ wS cI q st ++ wR cR h9 (fr7 ad n8) ol n7 ++ wT cC t9 tx ln po ki rp tg nu ++ [(o9, .inl (cJ, 1, .inr (.inl (vp_updL fo 0 (1 : Int64)))))] ++ wP cI ad sv n8) s s.heap H locs := hw
    have hw : Wd D A [(cI, .int), (cR, .object RX1), (cC, .char), (cJ, .long)] ([(x9, .inr (3, [.ref (q 0), .ref (h9 0), .ref (t9 0)]))] ++ wS cI q st ++ wR cR h9 (fr7 ad n8) ol n7 ++ wT cC t9 tx ln po ki rp tg nu ++ [(o9, .inl (cJ, 1, .inr (.inl (vp_updL fo 0 (if 0 < cntE st.1 (r * 480 + w * 80 + 0 * 4) 80 then (1 : Int64) else 0)))))] ++ wP cI ad sv n8) s s.heap H locs := Eq.mp (congrArg (fun z9 => Wd D A [(cI, .int), (cR, .object RX1), (cC, .char), (cJ, .long)] ([(x9, .inr (3, [.ref (q 0), .ref (h9 0), .ref (t9 0)]))] ++ wS cI q st ++ wR cR h9 (fr7 ad n8) ol n7 ++ wT cC t9 tx ln po ki rp tg nu ++ [(o9, .inl (cJ, 1, .inr (.inl z9)))] ++ wP cI ad sv n8) s s.heap H locs) (show vp_updL fo 0 (1 : Int64) = vp_updL fo 0 (if 0 < cntE st.1 (r * 480 + w * 80 + 0 * 4) 80 then (1 : Int64) else 0) from by rw [if_pos c_8])) hw
    refine lv_goto (tgt := 24) hx hb dL_exists_17 (by decide) ?_
    refine lv_iconst (v := nI 0) hx hb dL_exists_24 kc_iconst_0 ?_
    exact hE () dL_exists_25 (Nat.le_of_ble_eq_true rfl) (Nat.le_of_ble_eq_true rfl) ⟨⟨hw.1.1, fun k q hk => by cases hk⟩, hw.2.1, hw.2.2.1, hw.2.2.2⟩ (show nI 0 = nI 0 from rfl)
abbrev rmL_mean_v : Room := { frames := 4, cells := 0, slots := 0, locals := 93 }
set_option maxHeartbeats 4000000 in
set_option maxRecDepth 100000 in
theorem c_L_mean_v (l : Launch) (D : va_G) (sz : Nat) (hl9 : l.stackTraces = false) (cI cR cC cD : ClassId) (x9 : Nat) (q : Nat → Nat) (st : St) (h9 : Nat → Nat) (ad : Nat → Nat → Nat) (sv : Nat → St) (ol n7 n8 : Nat) (t9 : Nat → Nat) (tx : Nat → Nat) (ln po : Nat) (ki rp tg nu : Int32) (o9 : Nat) (fo : Nat → UInt64) (r w : Nat) (hh : hI ol n7 n8) (hr : r < 4) (hw5 : w < 6) : MZi l yL_mean wsL_mean rmL_mean_v [.ref x9, .int (nI r), .int (nI w), .ref o9] D [(cI, .int), (cR, .object RX1), (cC, .char), (cD, .double)] ([(x9, .inr (3, [.ref (q 0), .ref (h9 0), .ref (t9 0)]))] ++ wS cI q st ++ wR cR h9 (fr7 ad n8) ol n7 ++ wT cC t9 tx ln po ki rp tg nu ++ [(o9, .inl (cD, 1, .inr (.inr (.inr (.inl fo)))))] ++ wP cI ad sv n8) sz (fun rz (u9 : Nat → UInt64) => rz = nI 0 ∧ u9 0 = FP.f2d (mnF (cntE st.1 (r * 480 + w * 80 + 1 * 4) (cE 1 * 4 - 1 * 4)) (smE st (r * 480 + w * 80 + 1 * 4) (cE 1 * 4 - 1 * 4)))) (fun u9 => []) (fun u9 => [(x9, .inr (3, [.ref (q 0), .ref (h9 0), .ref (t9 0)]))] ++ wS cI q st ++ wR cR h9 (fr7 ad n8) ol n7 ++ wT cC t9 tx ln po ki rp tg nu ++ [(o9, .inl (cD, 1, .inr (.inr (.inr (.inl u9)))))] ++ wP cI ad sv n8) 0 0 := by
  refine met_zi (own := RL) (cc := cL_mean) (maxL := 5) (hh := [(0, 10, 13, 13)]) (by decide) rfl rfl (Nat.le_of_ble_eq_true rfl) ?_
  intro p e s m args below meth c Q A hsz S htab hz hxe hzq hw hA hE ls hl
  obtain ⟨hx, hb, hml, hown, hts⟩ := id S
  have hl : lv_has ls 5 [(0, .ref x9), (1, .int (nI r)), (2, .int (nI w)), (3, .ref o9)] := hl
  refine lv_aload_n hx hb dL_mean_0 rfl (lv_at hl 3 rfl) ?_
  refine lv_iconst (v := nI 0) hx hb dL_mean_1 kc_iconst_0 ?_
  refine lv_aload_n hx hb dL_mean_2 rfl (lv_at hl 0 rfl) ?_
  refine lv_iload_n hx hb dL_mean_3 rfl (lv_at hl 1 rfl) ?_
  refine lv_iload_n hx hb dL_mean_4 rfl (lv_at hl 2 rfl) ?_
  refine cpx_f (w1 := fun (u9 : Unit) => [(x9, .inr (3, [.ref (q 0), .ref (h9 0), .ref (t9 0)]))] ++ wS cI q st ++ wR cR h9 (fr7 ad n8) ol n7 ++ wT cC t9 tx ln po ki rp tg nu) (pl := fun (u9 : Unit) => wP cI ad sv n8) (As := [.int (nI r), .int (nI w)]) (rest := [.int (nI 0), .ref o9]) (wc := [(x9, .inr (3, [.ref (q 0), .ref (h9 0), .ref (t9 0)]))] ++ wS cI q st ++ wR cR h9 (fr7 ad n8) ol n7 ++ wT cC t9 tx ln po ki rp tg nu) (wr := [(o9, .inl (cD, 1, .inr (.inr (.inr (.inl fo)))))]) S hz (c_X3_mean l D (sz := s.heap.size) (cI := cI) (cR := cR) (cC := cC) (x9 := x9) (q := q) (st := st) (h9 := h9) (ad := ad) (sv := sv) (ol := ol) (n7 := n7) (n8 := n8) (t9 := t9) (tx := tx) (ln := ln) (po := po) (ki := ki) (rp := rp) (tg := tg) (nu := nu) (r := r) (w := w) (hh := hh) (hr := by omega) (hw5 := by omega)) (cwV 2 hts gL_mean_X3_mean rfl rfl rfl (by decide +kernel) ⟨Nat.le_of_ble_eq_true rfl, Nat.le_of_ble_eq_true rfl⟩) hw hA [0, 1, 2, 3, 4, 5, 6, 7, 8, 9, 10, 11] [12] [0, 1, 2] rfl rfl (k0 := 13) rfl (by decide) rfl 0 rfl rfl rfl hl.1 (Nat.le_of_ble_eq_true rfl) ⟨Nat.le_of_ble_eq_true rfl, Nat.le_of_ble_eq_true rfl⟩ rfl dL_mean_5 (fun r_5 u_5 H locs e_5 hw => ?_)
  obtain ⟨⟩ := u_5
  have hw : Wd D A [(cI, .int), (cR, .object RX1), (cC, .char), (cD, .double)] ([(x9, .inr (3, [.ref (q 0), .ref (h9 0), .ref (t9 0)]))] ++ wS cI q st ++ wR cR h9 (fr7 ad n8) ol n7 ++ wT cC t9 tx ln po ki rp tg nu ++ [(o9, .inl (cD, 1, .inr (.inr (.inr (.inl fo)))))] ++ wP cI ad sv n8) s s.heap H locs := hw
  have e_5 : r_5 = mnF (cntE st.1 (r * 480 + w * 80 + 1 * 4) (cE 1 * 4 - 1 * 4)) (smE st (r * 480 + w * 80 + 1 * 4) (cE 1 * 4 - 1 * 4)) := e_5
  subst e_5
  refine lv_f2d hx hb dL_mean_8 (fl_n64 (mnF_d _ _ (by have hcn := cntE_le st.1 (r * 480 + w * 80 + 1 * 4) (cE 1 * 4 - 1 * 4); have hce : cE 1 * 4 - 1 * 4 = 4 := rfl; omega))) ?_
  refine r_dast hx hb hw 12 3 rfl rfl (i := 0) (by omega) (by decide) dL_mean_9 (fun H locs g8 hg8 hw => ?_)
  have hw : Wd D A [(cI, .int), (cR, .object RX1), (cC, .char), (cD, .double)] ([(x9, .inr (3, [.ref (q 0), .ref (h9 0), .ref (t9 0)]))] ++ wS cI q st ++ wR cR h9 (fr7 ad n8) ol n7 ++ wT cC t9 tx ln po ki rp tg nu ++ [(o9, .inl (cD, 1, .inr (.inr (.inr (.inl g8)))))] ++ wP cI ad sv n8) s s.heap H locs := hw
  refine lv_goto (tgt := 17) hx hb dL_mean_10 (by decide) ?_
  refine lv_iconst (v := nI 0) hx hb dL_mean_17 kc_iconst_0 ?_
  exact hE g8 dL_mean_18 (Nat.le_of_ble_eq_true rfl) (Nat.le_of_ble_eq_true rfl) ⟨⟨hw.1.1, fun k q hk => by cases hk⟩, hw.2.1, hw.2.2.1, hw.2.2.2⟩ ⟨(show nI 0 = nI 0 from rfl), hg8⟩
abbrev rmL_undo_v : Room := { frames := 4, cells := 0, slots := 0, locals := 141 }
set_option maxHeartbeats 4000000 in
set_option maxRecDepth 100000 in
theorem c_L_undo_v (l : Launch) (D : va_G) (sz : Nat) (hl9 : l.stackTraces = false) (cI cR cC cJ : ClassId) (x9 : Nat) (q : Nat → Nat) (st : St) (h9 : Nat → Nat) (ad : Nat → Nat → Nat) (sv : Nat → St) (ol n7 n8 : Nat) (t9 : Nat → Nat) (tx : Nat → Nat) (ln po : Nat) (ki rp tg nu : Int32) (o9 : Nat) (fo : Nat → Int64)  (hh : hI ol n7 n8) (h0n : 0 < n7) : MZi l yL_undo wsL_undo rmL_undo_v [.ref x9, .ref o9] D [(cI, .int), (cR, .object RX1), (cC, .char), (cJ, .long)] ([(x9, .inr (3, [.ref (q 0), .ref (h9 0), .ref (t9 0)]))] ++ wS cI q st ++ wR cR h9 (fr7 ad n8) ol n7 ++ wT cC t9 tx ln po ki rp tg nu ++ [(o9, .inl (cJ, 1, .inr (.inl fo)))] ++ wP cI ad sv n8) sz (fun rz (u9 : Unit) => rz = nI 0) (fun u9 => []) (fun u9 => [(x9, .inr (3, [.ref (q 0), .ref (h9 0), .ref (t9 0)]))] ++ wS cI q (if n7 = 0 then st else sv ((ol + (n7 - 1)) % 6)) ++ wR cR h9 (fr7 ad n8) ol (n7 - 1) ++ wT cC t9 tx ln po ki rp tg nu ++ [(o9, .inl (cJ, 1, .inr (.inl (vp_updL fo 0 (nI (n7 - 1)).toInt64))))] ++ wP cI ad sv n8) 0 0 := by
  refine met_zi (own := RL) (cc := cL_undo) (maxL := 3) (hh := [(0, 8, 11, 38)]) (by decide) rfl rfl (Nat.le_of_ble_eq_true rfl) ?_
  intro p e s m args below meth c Q A hsz S htab hz hxe hzq hw hA hE ls hl
  obtain ⟨hx, hb, hml, hown, hts⟩ := id S
  have hl : lv_has ls 3 [(0, .ref x9), (1, .ref o9)] := hl
  refine lv_aload_n hx hb dL_undo_0 rfl (lv_at hl 1 rfl) ?_
  refine lv_iconst (v := nI 0) hx hb dL_undo_1 kc_iconst_0 ?_
  refine lv_aload_n hx hb dL_undo_2 rfl (lv_at hl 0 rfl) ?_
  refine cpx_i (w1 := fun (u9 : Unit) => [(x9, .inr (3, [.ref (q 0), .ref (h9 0), .ref (t9 0)]))] ++ wS cI q (if n7 = 0 then st else sv ((ol + (n7 - 1)) % 6)) ++ wR cR h9 (fr7 ad n8) ol (n7 - 1) ++ wT cC t9 tx ln po ki rp tg nu) (pl := fun (u9 : Unit) => wP cI ad sv n8) (As := []) (rest := [.int (nI 0), .ref o9]) (wc := [(x9, .inr (3, [.ref (q 0), .ref (h9 0), .ref (t9 0)]))] ++ wS cI q st ++ wR cR h9 (fr7 ad n8) ol n7 ++ wT cC t9 tx ln po ki rp tg nu) (wr := [(o9, .inl (cJ, 1, .inr (.inl fo)))]) S hz (c_X3_undo l D (sz := s.heap.size) (cI := cI) (cR := cR) (cC := cC) (x9 := x9) (q := q) (st := st) (h9 := h9) (ad := ad) (sv := sv) (ol := ol) (n7 := n7) (n8 := n8) (t9 := t9) (tx := tx) (ln := ln) (po := po) (ki := ki) (rp := rp) (tg := tg) (nu := nu) (hh := hh) (h0n := by omega)) (cwV 0 hts gL_undo_X3_undo rfl rfl rfl (by decide +kernel) ⟨Nat.le_of_ble_eq_true rfl, Nat.le_of_ble_eq_true rfl⟩) hw hA [0, 1, 2, 3, 4, 5, 6, 7, 8, 9, 10, 11] [12] [0, 1, 2] rfl rfl (k0 := 13) rfl (by decide) rfl 0 rfl rfl rfl hl.1 (Nat.le_of_ble_eq_true rfl) ⟨Nat.le_of_ble_eq_true rfl, Nat.le_of_ble_eq_true rfl⟩ rfl dL_undo_3 (fun r_3 u_3 H locs e_3 hw => ?_)
  obtain ⟨⟩ := u_3
  have hw : Wd D A [(cI, .int), (cR, .object RX1), (cC, .char), (cJ, .long)] ([(x9, .inr (3, [.ref (q 0), .ref (h9 0), .ref (t9 0)]))] ++ wS cI q (if n7 = 0 then st else sv ((ol + (n7 - 1)) % 6)) ++ wR cR h9 (fr7 ad n8) ol (n7 - 1) ++ wT cC t9 tx ln po ki rp tg nu ++ [(o9, .inl (cJ, 1, .inr (.inl fo)))] ++ wP cI ad sv n8) s s.heap H locs := hw
  have e_3 : r_3 = nI (n7 - 1) := e_3
  subst e_3
  refine lv_i2l hx hb dL_undo_6 rfl ?_
  refine r_last hx hb hw 12 3 rfl rfl (i := 0) (by omega) (by decide) dL_undo_7 (fun H locs hw => ?_)
  have hw : Wd D A [(cI, .int), (cR, .object RX1), (cC, .char), (cJ, .long)] ([(x9, .inr (3, [.ref (q 0), .ref (h9 0), .ref (t9 0)]))] ++ wS cI q (if n7 = 0 then st else sv ((ol + (n7 - 1)) % 6)) ++ wR cR h9 (fr7 ad n8) ol (n7 - 1) ++ wT cC t9 tx ln po ki rp tg nu ++ [(o9, .inl (cJ, 1, .inr (.inl (vp_updL fo 0 ((nI (n7 - 1)).toInt64)))))] ++ wP cI ad sv n8) s s.heap H locs := hw
  refine lv_goto (tgt := 14) hx hb dL_undo_8 (by decide) ?_
  refine lv_iconst (v := nI 0) hx hb dL_undo_14 kc_iconst_0 ?_
  exact hE () dL_undo_15 (Nat.le_of_ble_eq_true rfl) (Nat.le_of_ble_eq_true rfl) ⟨⟨hw.1.1, fun k q hk => by cases hk⟩, hw.2.1, hw.2.2.1, hw.2.2.2⟩ (show nI 0 = nI 0 from rfl)
abbrev rmL_appendText_v : Room := { frames := 2, cells := 0, slots := 0, locals := 42 }
set_option maxHeartbeats 4000000 in
set_option maxRecDepth 100000 in
theorem c_L_appendText_v (l : Launch) (D : va_G) (sz : Nat) (hl9 : l.stackTraces = false) (cI cR cC cJ : ClassId) (x9 : Nat) (q : Nat → Nat) (st : St) (h9 : Nat → Nat) (ad : Nat → Nat → Nat) (sv : Nat → St) (ol n7 n8 : Nat) (t9 : Nat → Nat) (tx : Nat → Nat) (ln po : Nat) (ki rp tg nu : Int32) (o9 : Nat) (fo : Nat → Int64) (c9 : Nat) (hh : hI ol n7 n8) (htx : ∀ i, tx i < 127) (hln : ln ≤ 80) (hpo : po < 1000) (h32 : 32 ≤ c9) (hc9 : c9 < 127) (hl8 : ln < 80) : MZi l yL_appendText wsL_appendText rmL_appendText_v [.ref x9, .int (nI c9), .ref o9] D [(cI, .int), (cR, .object RX1), (cC, .char), (cJ, .long)] ([(x9, .inr (3, [.ref (q 0), .ref (h9 0), .ref (t9 0)]))] ++ wS cI q st ++ wR cR h9 (fr7 ad n8) ol n7 ++ wT cC t9 tx ln po ki rp tg nu ++ [(o9, .inl (cJ, 1, .inr (.inl fo)))] ++ wP cI ad sv n8) sz (fun rz (u9 : Unit) => rz = nI 0) (fun u9 => []) (fun u9 => [(x9, .inr (3, [.ref (q 0), .ref (h9 0), .ref (t9 0)]))] ++ wS cI q st ++ wR cR h9 (fr7 ad n8) ol n7 ++ wT cC t9 (updN tx ln c9) (ln + 1) po ki rp tg nu ++ [(o9, .inl (cJ, 1, .inr (.inl (vp_updL fo 0 (nI (ln + 1)).toInt64))))] ++ wP cI ad sv n8) 0 0 := by
  refine met_zi (own := RL) (cc := cL_appendText) (maxL := 4) (hh := [(0, 9, 12, 15), (0, 9, 15, 38)]) (by decide) rfl rfl (Nat.le_of_ble_eq_true rfl) ?_
  intro p e s m args below meth c Q A hsz S htab hz hxe hzq hw hA hE ls hl
  obtain ⟨hx, hb, hml, hown, hts⟩ := id S
  have hl : lv_has ls 4 [(0, .ref x9), (1, .int (nI c9)), (2, .ref o9)] := hl
  refine lv_aload_n hx hb dL_appendText_0 rfl (lv_at hl 2 rfl) ?_
  refine lv_iconst (v := nI 0) hx hb dL_appendText_1 kc_iconst_0 ?_
  refine lv_aload_n hx hb dL_appendText_2 rfl (lv_at hl 0 rfl) ?_
  refine lv_iload_n hx hb dL_appendText_3 rfl (lv_at hl 1 rfl) ?_
  refine cpx_i (w1 := fun (u9 : Unit) => [(x9, .inr (3, [.ref (q 0), .ref (h9 0), .ref (t9 0)]))] ++ wS cI q st ++ wR cR h9 (fr7 ad n8) ol n7 ++ wT cC t9 (updN tx ln c9) (ln + 1) po ki rp tg nu) (pl := fun (u9 : Unit) => wP cI ad sv n8) (As := [.int (nI c9)]) (rest := [.int (nI 0), .ref o9]) (wc := [(x9, .inr (3, [.ref (q 0), .ref (h9 0), .ref (t9 0)]))] ++ wS cI q st ++ wR cR h9 (fr7 ad n8) ol n7 ++ wT cC t9 tx ln po ki rp tg nu) (wr := [(o9, .inl (cJ, 1, .inr (.inl fo)))]) S hz (c_X3_appendText l D (sz := s.heap.size) (cI := cI) (cR := cR) (cC := cC) (x9 := x9) (q := q) (st := st) (h9 := h9) (ad := ad) (sv := sv) (ol := ol) (n7 := n7) (n8 := n8) (t9 := t9) (tx := tx) (ln := ln) (po := po) (ki := ki) (rp := rp) (tg := tg) (nu := nu) (c9 := c9) (hh := hh) (htx := htx) (hln := by omega) (hpo := by omega) (h32 := by omega) (hc9 := by omega) (hl8 := by omega)) (cwV 1 hts gL_appendText_X3_appendText rfl rfl rfl (by decide +kernel) ⟨Nat.le_of_ble_eq_true rfl, Nat.le_of_ble_eq_true rfl⟩) hw hA [0, 1, 2, 3, 4, 5, 6, 7, 8, 9, 10, 11] [12] [0, 1, 2] rfl rfl (k0 := 13) rfl (by decide) rfl 0 rfl rfl rfl hl.1 (Nat.le_of_ble_eq_true rfl) ⟨Nat.le_of_ble_eq_true rfl, Nat.le_of_ble_eq_true rfl⟩ rfl dL_appendText_4 (fun r_4 u_4 H locs e_4 hw => ?_)
  obtain ⟨⟩ := u_4
  have hw : Wd D A [(cI, .int), (cR, .object RX1), (cC, .char), (cJ, .long)] ([(x9, .inr (3, [.ref (q 0), .ref (h9 0), .ref (t9 0)]))] ++ wS cI q st ++ wR cR h9 (fr7 ad n8) ol n7 ++ wT cC t9 (updN tx ln c9) (ln + 1) po ki rp tg nu ++ [(o9, .inl (cJ, 1, .inr (.inl fo)))] ++ wP cI ad sv n8) s s.heap H locs := hw
  have e_4 : r_4 = nI (ln + 1) := e_4
  subst e_4
  refine lv_i2l hx hb dL_appendText_7 rfl ?_
  refine r_last hx hb hw 12 3 rfl rfl (i := 0) (by omega) (by decide) dL_appendText_8 (fun H locs hw => ?_)
  have hw : Wd D A [(cI, .int), (cR, .object RX1), (cC, .char), (cJ, .long)] ([(x9, .inr (3, [.ref (q 0), .ref (h9 0), .ref (t9 0)]))] ++ wS cI q st ++ wR cR h9 (fr7 ad n8) ol n7 ++ wT cC t9 (updN tx ln c9) (ln + 1) po ki rp tg nu ++ [(o9, .inl (cJ, 1, .inr (.inl (vp_updL fo 0 ((nI (ln + 1)).toInt64)))))] ++ wP cI ad sv n8) s s.heap H locs := hw
  refine lv_goto (tgt := 18) hx hb dL_appendText_9 (by decide) ?_
  refine lv_iconst (v := nI 0) hx hb dL_appendText_18 kc_iconst_0 ?_
  exact hE () dL_appendText_19 (Nat.le_of_ble_eq_true rfl) (Nat.le_of_ble_eq_true rfl) ⟨⟨hw.1.1, fun k q hk => by cases hk⟩, hw.2.1, hw.2.2.1, hw.2.2.2⟩ (show nI 0 = nI 0 from rfl)
abbrev rmL_runText_v : Room := { frames := 7, cells := 7, slots := 5790, locals := 152 }
set_option maxHeartbeats 4000000 in
set_option maxRecDepth 100000 in
theorem c_L_runText_v (l : Launch) (D : va_G) (sz : Nat) (hl9 : l.stackTraces = false) (cI cR cC cJ : ClassId) (x9 : Nat) (q : Nat → Nat) (st : St) (h9 : Nat → Nat) (ad : Nat → Nat → Nat) (sv : Nat → St) (ol n7 n8 : Nat) (t9 : Nat → Nat) (tx : Nat → Nat) (ln po : Nat) (ki rp tg nu : Int32) (o9 : Nat) (fo : Nat → Int64)  (hh : hI ol n7 n8) (htx : ∀ i, tx i < 127) (hln : ln ≤ 80) (hpo : po < 1000) (hvd : (vdC tx ln 80 0).1 = true) : MZi l yL_runText wsL_runText rmL_runText_v [.ref x9, .ref o9] D [(cI, .int), (cR, .object RX1), (cC, .char), (cJ, .long)] ([(x9, .inr (3, [.ref (q 0), .ref (h9 0), .ref (t9 0)]))] ++ wS cI q st ++ wR cR h9 (fr7 ad n8) ol n7 ++ wT cC t9 tx ln po ki rp tg nu ++ [(o9, .inl (cJ, 1, .inr (.inl fo)))] ++ wP cI ad sv n8) sz (fun rz (u9 : Nat × (Nat → Nat → Nat) × Int32 × Int32 × Int32 × Int32) => rz = nI 0 ∧ hI (olN ol n7) (n7N n7) u9.1) (fun u9 => []) (fun u9 => [(x9, .inr (3, [.ref (q 0), .ref (h9 0), .ref (t9 0)]))] ++ wS cI q ((rtS tx ln 80 0 st 0).1) ++ wR cR h9 (fr7 u9.2.1 u9.1) (olN ol n7) (n7N n7) ++ wT cC t9 tx ln ((rtS tx ln 80 0 st 0).2.1) u9.2.2.1 u9.2.2.2.1 u9.2.2.2.2.1 u9.2.2.2.2.2 ++ [(o9, .inl (cJ, 1, .inr (.inl (vp_updL fo 0 (nI ((rtS tx ln 80 0 st 0).2.2)).toInt64))))] ++ wP cI u9.2.1 (va_up sv (slN ol n7) st) u9.1) 7 5790 := by
  refine met_zi (own := RL) (cc := cL_runText) (maxL := 3) (hh := [(0, 8, 11, 38)]) (by decide) rfl rfl (Nat.le_of_ble_eq_true rfl) ?_
  intro p e s m args below meth c Q A hsz S htab hz hxe hzq hw hA hE ls hl
  obtain ⟨hx, hb, hml, hown, hts⟩ := id S
  have hl : lv_has ls 3 [(0, .ref x9), (1, .ref o9)] := hl
  refine lv_aload_n hx hb dL_runText_0 rfl (lv_at hl 1 rfl) ?_
  refine lv_iconst (v := nI 0) hx hb dL_runText_1 kc_iconst_0 ?_
  refine lv_aload_n hx hb dL_runText_2 rfl (lv_at hl 0 rfl) ?_
  refine cpx_i (w1 := fun (u9 : Nat × (Nat → Nat → Nat) × Int32 × Int32 × Int32 × Int32) => [(x9, .inr (3, [.ref (q 0), .ref (h9 0), .ref (t9 0)]))] ++ wS cI q ((rtS tx ln 80 0 st 0).1) ++ wR cR h9 (fr7 u9.2.1 u9.1) (olN ol n7) (n7N n7) ++ wT cC t9 tx ln ((rtS tx ln 80 0 st 0).2.1) u9.2.2.1 u9.2.2.2.1 u9.2.2.2.2.1 u9.2.2.2.2.2) (pl := fun (u9 : Nat × (Nat → Nat → Nat) × Int32 × Int32 × Int32 × Int32) => wP cI u9.2.1 (va_up sv (slN ol n7) st) u9.1) (As := []) (rest := [.int (nI 0), .ref o9]) (wc := [(x9, .inr (3, [.ref (q 0), .ref (h9 0), .ref (t9 0)]))] ++ wS cI q st ++ wR cR h9 (fr7 ad n8) ol n7 ++ wT cC t9 tx ln po ki rp tg nu) (wr := [(o9, .inl (cJ, 1, .inr (.inl fo)))]) S hz (c_X3_runText l D (sz := s.heap.size) (cI := cI) (cR := cR) (cC := cC) (x9 := x9) (q := q) (st := st) (h9 := h9) (ad := ad) (sv := sv) (ol := ol) (n7 := n7) (n8 := n8) (t9 := t9) (tx := tx) (ln := ln) (po := po) (ki := ki) (rp := rp) (tg := tg) (nu := nu) (hh := hh) (htx := htx) (hln := by omega) (hpo := by omega) (hvd := by omega)) (cwV 0 hts gL_runText_X3_runText rfl rfl rfl (by decide +kernel) ⟨Nat.le_of_ble_eq_true rfl, Nat.le_of_ble_eq_true rfl⟩) hw hA [0, 1, 2, 3, 4, 5, 6, 7, 8, 9, 10, 11] [12] [0, 1, 2] rfl rfl (k0 := 13) rfl (by decide) rfl 0 rfl rfl rfl hl.1 (Nat.le_of_ble_eq_true rfl) ⟨Nat.le_of_ble_eq_true rfl, Nat.le_of_ble_eq_true rfl⟩ rfl dL_runText_3 (fun r_3 u_3 H locs e_3 hw => ?_)
  obtain ⟨u0_3, u1_3, u2_3, u3_3, u4_3, u5_3⟩ := u_3
  have hw : Wd D A [(cI, .int), (cR, .object RX1), (cC, .char), (cJ, .long)] ([(x9, .inr (3, [.ref (q 0), .ref (h9 0), .ref (t9 0)]))] ++ wS cI q ((rtS tx ln 80 0 st 0).1) ++ wR cR h9 (fr7 u1_3 u0_3) (olN ol n7) (n7N n7) ++ wT cC t9 tx ln ((rtS tx ln 80 0 st 0).2.1) u2_3 u3_3 u4_3 u5_3 ++ [(o9, .inl (cJ, 1, .inr (.inl fo)))] ++ wP cI u1_3 (va_up sv (slN ol n7) st) u0_3) s s.heap H locs := hw
  obtain ⟨e_3, x_3⟩ := e_3
  have e_3 : r_3 = nI ((rtS tx ln 80 0 st 0).2.2) := e_3
  subst e_3
  refine lv_i2l hx hb dL_runText_6 rfl ?_
  refine r_last hx hb hw 12 3 rfl rfl (i := 0) (by omega) (by decide) dL_runText_7 (fun H locs hw => ?_)
  have hw : Wd D A [(cI, .int), (cR, .object RX1), (cC, .char), (cJ, .long)] ([(x9, .inr (3, [.ref (q 0), .ref (h9 0), .ref (t9 0)]))] ++ wS cI q ((rtS tx ln 80 0 st 0).1) ++ wR cR h9 (fr7 u1_3 u0_3) (olN ol n7) (n7N n7) ++ wT cC t9 tx ln ((rtS tx ln 80 0 st 0).2.1) u2_3 u3_3 u4_3 u5_3 ++ [(o9, .inl (cJ, 1, .inr (.inl (vp_updL fo 0 ((nI ((rtS tx ln 80 0 st 0).2.2)).toInt64)))))] ++ wP cI u1_3 (va_up sv (slN ol n7) st) u0_3) s s.heap H locs := hw
  refine lv_goto (tgt := 14) hx hb dL_runText_8 (by decide) ?_
  refine lv_iconst (v := nI 0) hx hb dL_runText_14 kc_iconst_0 ?_
  exact hE (u0_3, u1_3, u2_3, u3_3, u4_3, u5_3) dL_runText_15 (Nat.le_of_ble_eq_true rfl) (Nat.le_of_ble_eq_true rfl) ⟨⟨hw.1.1, fun k q hk => by cases hk⟩, hw.2.1, hw.2.2.1, hw.2.2.2⟩ ⟨(show nI 0 = nI 0 from rfl), x_3⟩
