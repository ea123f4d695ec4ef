abbrev rmL_put_v : Room := { frames := 5, cells := 7, slots := 5790, locals := 146 }
set_option maxHeartbeats 4000000 in
set_option maxRecDepth 100000 in
theorem c_L_put_v (l : Launch) (D : va_G) (sz : Nat) (hl9 : l.stackTraces = false) (cI cR cC cJ : ClassId) (x9 : Nat) (q : Nat → Nat) (st : St) (h9 : Nat → Nat) (ad : Nat → Nat → Nat) (sv : Nat → St) (ol n7 n8 : Nat) (t9 : Nat → Nat) (tx : Nat → Nat) (ln po : Nat) (ki rp tg nu : Int32) (o9 : Nat) (fo : Nat → Int64) (r w g : Nat) (v : Int32) (hh : hI ol n7 n8) (hr : r < 4) (hw5 : w < 6) (hg : g < 3) (hv : inP v (nI 0) (nI 999)) : MZi l yL_put wsL_put rmL_put_v [.ref x9, .int (nI r), .int (nI w), .int (nI g), .int v, .ref o9] D [(cI, .int), (cR, .object RX1), (cC, .char), (cJ, .long)] ([(x9, .inr (3, [.ref (q 0), .ref (h9 0), .ref (t9 0)]))] ++ wS cI q st ++ wR cR h9 (fr7 ad n8) ol n7 ++ wT cC t9 tx ln po ki rp tg nu ++ [(o9, .inl (cJ, 1, .inr (.inl fo)))] ++ wP cI ad sv n8) sz (fun rz (u9 : Nat × (Nat → Nat → Nat)) => rz = nI 0 ∧ hI (olN ol n7) (n7N n7) u9.1) (fun u9 => []) (fun u9 => [(x9, .inr (3, [.ref (q 0), .ref (h9 0), .ref (t9 0)]))] ++ wS cI q (putS st r w g v) ++ wR cR h9 (fr7 u9.2 u9.1) (olN ol n7) (n7N n7) ++ wT cC t9 tx ln po ki rp tg nu ++ [(o9, .inl (cJ, 1, .inr (.inl (vp_updL fo 0 ((nI (cntE st.1 (r * 480 + w * 80 + g * 4) 4))).toInt64))))] ++ wP cI u9.2 (va_up sv (slN ol n7) st) u9.1) 7 5790 := by
  refine met_zi (own := RL) (cc := cL_put) (maxL := 7) (hh := [(0, 14, 17, 13), (0, 14, 21, 15)]) (by decide) rfl rfl (Nat.le_of_ble_eq_true rfl) ?_
  intro p e s m args below meth c Q A hsz S htab hz hxe hzq hw hA hE ls hl
  obtain ⟨hx, hb, hml, hown, hts⟩ := id S
  have hl : lv_has ls 7 [(0, .ref x9), (1, .int (nI r)), (2, .int (nI w)), (3, .int (nI g)), (4, .int v), (5, .ref o9)] := hl
  refine lv_aload hx hb dL_put_0 (lv_at hl 5 rfl) ?_
  refine lv_iconst (v := nI 0) hx hb dL_put_2 kc_iconst_0 ?_
  refine lv_aload_n hx hb dL_put_3 rfl (lv_at hl 0 rfl) ?_
  refine lv_iload_n hx hb dL_put_4 rfl (lv_at hl 1 rfl) ?_
  refine lv_iload_n hx hb dL_put_5 rfl (lv_at hl 2 rfl) ?_
  refine lv_iload_n hx hb dL_put_6 rfl (lv_at hl 3 rfl) ?_
  refine lv_iload hx hb dL_put_7 (lv_at hl 4 rfl) ?_
  refine cpx_i (w1 := fun (u9 : Nat × (Nat → Nat → Nat)) => [(x9, .inr (3, [.ref (q 0), .ref (h9 0), .ref (t9 0)]))] ++ wS cI q (putS st r w g v) ++ wR cR h9 (fr7 u9.2 u9.1) (olN ol n7) (n7N n7) ++ wT cC t9 tx ln po ki rp tg nu) (pl := fun (u9 : Nat × (Nat → Nat → Nat)) => wP cI u9.2 (va_up sv (slN ol n7) st) u9.1) (As := [.int (nI r), .int (nI w), .int (nI g), .int v]) (rest := [.int (nI 0), .ref o9]) (wc := [(x9, .inr (3, [.ref (q 0), .ref (h9 0), .ref (t9 0)]))] ++ wS cI q st ++ wR cR h9 (fr7 ad n8) ol n7 ++ wT cC t9 tx ln po ki rp tg nu) (wr := [(o9, .inl (cJ, 1, .inr (.inl fo)))]) S hz (c_X3_put l D (sz := s.heap.size) (cI := cI) (cR := cR) (cC := cC) (x9 := x9) (q := q) (st := st) (h9 := h9) (ad := ad) (sv := sv) (ol := ol) (n7 := n7) (n8 := n8) (t9 := t9) (tx := tx) (ln := ln) (po := po) (ki := ki) (rp := rp) (tg := tg) (nu := nu) (r := r) (w := w) (g := g) (v := v) (hh := hh) (hr := by omega) (hw5 := by omega) (hg := by omega) (hv := by omega)) (cwV 4 hts gL_put_X3_put rfl rfl rfl (by decide +kernel) ⟨Nat.le_of_ble_eq_true rfl, Nat.le_of_ble_eq_true rfl⟩) hw hA [0, 1, 2, 3, 4, 5, 6, 7, 8, 9, 10, 11] [12] [0, 1, 2] rfl rfl (k0 := 13) rfl (by decide) rfl 0 rfl rfl rfl hl.1 (Nat.le_of_ble_eq_true rfl) ⟨Nat.le_of_ble_eq_true rfl, Nat.le_of_ble_eq_true rfl⟩ rfl dL_put_9 (fun r_9 u_9 H locs e_9 hw => ?_)
  obtain ⟨u0_9, u1_9⟩ := u_9
  have hw : Wd D A [(cI, .int), (cR, .object RX1), (cC, .char), (cJ, .long)] ([(x9, .inr (3, [.ref (q 0), .ref (h9 0), .ref (t9 0)]))] ++ wS cI q (putS st r w g v) ++ wR cR h9 (fr7 u1_9 u0_9) (olN ol n7) (n7N n7) ++ wT cC t9 tx ln po ki rp tg nu ++ [(o9, .inl (cJ, 1, .inr (.inl fo)))] ++ wP cI u1_9 (va_up sv (slN ol n7) st) u0_9) s s.heap H locs := hw
  obtain ⟨e_9, x_9⟩ := e_9
  have e_9 : r_9 = nI (cntE st.1 (r * 480 + w * 80 + g * 4) 4) := e_9
  subst e_9
  refine lv_i2l hx hb dL_put_12 rfl ?_
  refine r_last hx hb hw 12 3 rfl rfl (i := 0) (by omega) (by decide) dL_put_13 (fun H locs hw => ?_)
  have hw : Wd D A [(cI, .int), (cR, .object RX1), (cC, .char), (cJ, .long)] ([(x9, .inr (3, [.ref (q 0), .ref (h9 0), .ref (t9 0)]))] ++ wS cI q (putS st r w g v) ++ wR cR h9 (fr7 u1_9 u0_9) (olN ol n7) (n7N n7) ++ wT cC t9 tx ln po ki rp tg nu ++ [(o9, .inl (cJ, 1, .inr (.inl (vp_updL fo 0 ((nI (cntE st.1 (r * 480 + w * 80 + g * 4) 4)).toInt64)))))] ++ wP cI u1_9 (va_up sv (slN ol n7) st) u0_9) s s.heap H locs := hw
  refine lv_goto (tgt := 25) hx hb dL_put_14 (by decide) ?_
  refine lv_iconst (v := nI 0) hx hb dL_put_25 kc_iconst_0 ?_
  exact hE (u0_9, u1_9) dL_put_26 (Nat.le_of_ble_eq_true rfl) (Nat.le_of_ble_eq_true rfl) ⟨⟨hw.1.1, fun k q hk => by cases hk⟩, hw.2.1, hw.2.2.1, hw.2.2.2⟩ ⟨(show nI 0 = nI 0 from rfl), x_9⟩
abbrev rmL_add_v : Room := { frames := 4, cells := 7, slots := 5790, locals := 145 }
set_option maxHeartbeats 4000000 in
set_option maxRecDepth 100000 in
theorem c_L_add_v (l : Launch) (D : va_G) (sz : Nat) (hl9 : l.stackTraces = false) (cI cR cC cJ : ClassId) (x9 : Nat) (q : Nat → Nat) (st : St) (h9 : Nat → Nat) (ad : Nat → Nat → Nat) (sv : Nat → St) (ol n7 n8 : Nat) (t9 : Nat → Nat) (tx : Nat → Nat) (ln po : Nat) (ki rp tg nu : Int32) (o9 : Nat) (fo : Nat → Int64) (r w : Nat) (v : Int32) (hh : hI ol n7 n8) (hr : r < 4) (hw5 : w < 6) (hv : inP v (-99) (nI 99)) (hv0 : ¬ v = 0) : MZi l yL_add wsL_add rmL_add_v [.ref x9, .int (nI r), .int (nI w), .int v, .ref o9] D [(cI, .int), (cR, .object RX1), (cC, .char), (cJ, .long)] ([(x9, .inr (3, [.ref (q 0), .ref (h9 0), .ref (t9 0)]))] ++ wS cI q st ++ wR cR h9 (fr7 ad n8) ol n7 ++ wT cC t9 tx ln po ki rp tg nu ++ [(o9, .inl (cJ, 1, .inr (.inl fo)))] ++ wP cI ad sv n8) sz (fun rz (u9 : Nat × (Nat → Nat → Nat)) => rz = nI 0 ∧ hI (olN ol n7) (n7N n7) u9.1) (fun u9 => []) (fun u9 => [(x9, .inr (3, [.ref (q 0), .ref (h9 0), .ref (t9 0)]))] ++ wS cI q (addS st r w v) ++ wR cR h9 (fr7 u9.2 u9.1) (olN ol n7) (n7N n7) ++ wT cC t9 tx ln po ki rp tg nu ++ [(o9, .inl (cJ, 1, .inr (.inl (vp_updL fo 0 ((smE (addS st r w v) (r * 480 + w * 80 + 3 * 4) (cE 3 * 4 - 3 * 4))).toInt64))))] ++ wP cI u9.2 (va_up sv (slN ol n7) st) u9.1) 7 5790 := by
  refine met_zi (own := RL) (cc := cL_add) (maxL := 6) (hh := [(0, 12, 15, 13), (0, 12, 19, 15)]) (by decide) rfl rfl (Nat.le_of_ble_eq_true rfl) ?_
  intro p e s m args below meth c Q A hsz S htab hz hxe hzq hw hA hE ls hl
  obtain ⟨hx, hb, hml, hown, hts⟩ := id S
  have hl : lv_has ls 6 [(0, .ref x9), (1, .int (nI r)), (2, .int (nI w)), (3, .int v), (4, .ref o9)] := hl
  refine lv_aload hx hb dL_add_0 (lv_at hl 4 rfl) ?_
  refine lv_iconst (v := nI 0) hx hb dL_add_2 kc_iconst_0 ?_
  refine lv_aload_n hx hb dL_add_3 rfl (lv_at hl 0 rfl) ?_
  refine lv_iload_n hx hb dL_add_4 rfl (lv_at hl 1 rfl) ?_
  refine lv_iload_n hx hb dL_add_5 rfl (lv_at hl 2 rfl) ?_
  refine lv_iload_n hx hb dL_add_6 rfl (lv_at hl 3 rfl) ?_
  refine cpx_i (w1 := fun (u9 : Nat × (Nat → Nat → Nat)) => [(x9, .inr (3, [.ref (q 0), .ref (h9 0), .ref (t9 0)]))] ++ wS cI q (addS st r w v) ++ wR cR h9 (fr7 u9.2 u9.1) (olN ol n7) (n7N n7) ++ wT cC t9 tx ln po ki rp tg nu) (pl := fun (u9 : Nat × (Nat → Nat → Nat)) => wP cI u9.2 (va_up sv (slN ol n7) st) u9.1) (As := [.int (nI r), .int (nI w), .int v]) (rest := [.int (nI 0), .ref o9]) (wc := [(x9, .inr (3, [.ref (q 0), .ref (h9 0), .ref (t9 0)]))] ++ wS cI q st ++ wR cR h9 (fr7 ad n8) ol n7 ++ wT cC t9 tx ln po ki rp tg nu) (wr := [(o9, .inl (cJ, 1, .inr (.inl fo)))]) S hz (c_X3_add l D (sz := s.heap.size) (cI := cI) (cR := cR) (cC := cC) (x9 := x9) (q := q) (st := st) (h9 := h9) (ad := ad) (sv := sv) (ol := ol) (n7 := n7) (n8 := n8) (t9 := t9) (tx := tx) (ln := ln) (po := po) (ki := ki) (rp := rp) (tg := tg) (nu := nu) (r := r) (w := w) (v := v) (hh := hh) (hr := by omega) (hw5 := by omega) (hv := by omega) (hv0 := by omega)) (cwV 3 hts gL_add_X3_add rfl rfl rfl (by decide +kernel) ⟨Nat.le_of_ble_eq_true rfl, Nat.le_of_ble_eq_true rfl⟩) hw hA [0, 1, 2, 3, 4, 5, 6, 7, 8, 9, 10, 11] [12] [0, 1, 2] rfl rfl (k0 := 13) rfl (by decide) rfl 0 rfl rfl rfl hl.1 (Nat.le_of_ble_eq_true rfl) ⟨Nat.le_of_ble_eq_true rfl, Nat.le_of_ble_eq_true rfl⟩ rfl dL_add_7 (fun r_7 u_7 H locs e_7 hw => ?_)
  obtain ⟨u0_7, u1_7⟩ := u_7
  have hw : Wd D A [(cI, .int), (cR, .object RX1), (cC, .char), (cJ, .long)] ([(x9, .inr (3, [.ref (q 0), .ref (h9 0), .ref (t9 0)]))] ++ wS cI q (addS st r w v) ++ wR cR h9 (fr7 u1_7 u0_7) (olN ol n7) (n7N n7) ++ wT cC t9 tx ln po ki rp tg nu ++ [(o9, .inl (cJ, 1, .inr (.inl fo)))] ++ wP cI u1_7 (va_up sv (slN ol n7) st) u0_7) s s.heap H locs := hw
  obtain ⟨e_7, x_7⟩ := e_7
  have e_7 : r_7 = smE (addS st r w v) (r * 480 + w * 80 + 3 * 4) (cE 3 * 4 - 3 * 4) := e_7
  subst e_7
  refine lv_i2l hx hb dL_add_10 rfl ?_
  refine r_last hx hb hw 12 3 rfl rfl (i := 0) (by omega) (by decide) dL_add_11 (fun H locs hw => ?_)
  have hw : Wd D A [(cI, .int), (cR, .object RX1), (cC, .char), (cJ, .long)] ([(x9, .inr (3, [.ref (q 0), .ref (h9 0), .ref (t9 0)]))] ++ wS cI q (addS st r w v) ++ wR cR h9 (fr7 u1_7 u0_7) (olN ol n7) (n7N n7) ++ wT cC t9 tx ln po ki rp tg nu ++ [(o9, .inl (cJ, 1, .inr (.inl (vp_updL fo 0 ((smE (addS st r w v) (r * 480 + w * 80 + 3 * 4) (cE 3 * 4 - 3 * 4)).toInt64)))))] ++ wP cI u1_7 (va_up sv (slN ol n7) st) u0_7) s s.heap H locs := hw
  refine lv_goto (tgt := 23) hx hb dL_add_12 (by decide) ?_
  refine lv_iconst (v := nI 0) hx hb dL_add_23 kc_iconst_0 ?_
  exact hE (u0_7, u1_7) dL_add_24 (Nat.le_of_ble_eq_true rfl) (Nat.le_of_ble_eq_true rfl) ⟨⟨hw.1.1, fun k q hk => by cases hk⟩, hw.2.1, hw.2.2.1, hw.2.2.2⟩ ⟨(show nI 0 = nI 0 from rfl), x_7⟩
abbrev rmL_include_v : Room := { frames := 5, cells := 7, slots := 5790, locals := 145 }
set_option maxHeartbeats 4000000 in
set_option maxRecDepth 100000 in
theorem c_L_include_v (l : Launch) (D : va_G) (sz : Nat) (hl9 : l.stackTraces = false) (cI cR cC cJ : ClassId) (x9 : Nat) (q : Nat → Nat) (st : St) (h9 : Nat → Nat) (ad : Nat → Nat → Nat) (sv : Nat → St) (ol n7 n8 : Nat) (t9 : Nat → Nat) (tx : Nat → Nat) (ln po : Nat) (ki rp tg nu : Int32) (o9 : Nat) (fo : Nat → Int64) (r w e9 : Nat) (hh : hI ol n7 n8) (hr : r < 4) (hw5 : w < 6) (he : e9 < 16) : MZi l yL_include wsL_include rmL_include_v [.ref x9, .int (nI r), .int (nI w), .int (nI e9), .ref o9] D [(cI, .int), (cR, .object RX1), (cC, .char), (cJ, .long)] ([(x9, .inr (3, [.ref (q 0), .ref (h9 0), .ref (t9 0)]))] ++ wS cI q st ++ wR cR h9 (fr7 ad n8) ol n7 ++ wT cC t9 tx ln po ki rp tg nu ++ [(o9, .inl (cJ, 1, .inr (.inl fo)))] ++ wP cI ad sv n8) sz (fun rz (u9 : Nat × (Nat → Nat → Nat)) => rz = nI 0 ∧ hI (olN ol n7) (n7N n7) u9.1) (fun u9 => []) (fun u9 => [(x9, .inr (3, [.ref (q 0), .ref (h9 0), .ref (t9 0)]))] ++ wS cI q (incS st r w e9) ++ wR cR h9 (fr7 u9.2 u9.1) (olN ol n7) (n7N n7) ++ wT cC t9 tx ln po ki rp tg nu ++ [(o9, .inl (cJ, 1, .inr (.inl (vp_updL fo 0 ((nI (cntE st.1 (r * 480 + w * 80 + (4 + e9) * 4) 4))).toInt64))))] ++ wP cI u9.2 (va_up sv (slN ol n7) st) u9.1) 7 5790 := by
  refine met_zi (own := RL) (cc := cL_include) (maxL := 6) (hh := [(0, 12, 15, 13), (0, 12, 19, 15)]) (by decide) rfl rfl (Nat.le_of_ble_eq_true rfl) ?_
  intro p e s m args below meth c Q A hsz S htab hz hxe hzq hw hA hE ls hl
  obtain ⟨hx, hb, hml, hown, hts⟩ := id S
  have hl : lv_has ls 6 [(0, .ref x9), (1, .int (nI r)), (2, .int (nI w)), (3, .int (nI e9)), (4, .ref o9)] := hl
  refine lv_aload hx hb dL_include_0 (lv_at hl 4 rfl) ?_
  refine lv_iconst (v := nI 0) hx hb dL_include_2 kc_iconst_0 ?_
  refine lv_aload_n hx hb dL_include_3 rfl (lv_at hl 0 rfl) ?_
  refine lv_iload_n hx hb dL_include_4 rfl (lv_at hl 1 rfl) ?_
  refine lv_iload_n hx hb dL_include_5 rfl (lv_at hl 2 rfl) ?_
  refine lv_iload_n hx hb dL_include_6 rfl (lv_at hl 3 rfl) ?_
  refine cpx_i (w1 := fun (u9 : Nat × (Nat → Nat → Nat)) => [(x9, .inr (3, [.ref (q 0), .ref (h9 0), .ref (t9 0)]))] ++ wS cI q (incS st r w e9) ++ wR cR h9 (fr7 u9.2 u9.1) (olN ol n7) (n7N n7) ++ wT cC t9 tx ln po ki rp tg nu) (pl := fun (u9 : Nat × (Nat → Nat → Nat)) => wP cI u9.2 (va_up sv (slN ol n7) st) u9.1) (As := [.int (nI r), .int (nI w), .int (nI e9)]) (rest := [.int (nI 0), .ref o9]) (wc := [(x9, .inr (3, [.ref (q 0), .ref (h9 0), .ref (t9 0)]))] ++ wS cI q st ++ wR cR h9 (fr7 ad n8) ol n7 ++ wT cC t9 tx ln po ki rp tg nu) (wr := [(o9, .inl (cJ, 1, .inr (.inl fo)))]) S hz (c_X3_include l D (sz := s.heap.size) (cI := cI) (cR := cR) (cC := cC) (x9 := x9) (q := q) (st := st) (h9 := h9) (ad := ad) (sv := sv) (ol := ol) (n7 := n7) (n8 := n8) (t9 := t9) (tx := tx) (ln := ln) (po := po) (ki := ki) (rp := rp) (tg := tg) (nu := nu) (r := r) (w := w) (e9 := e9) (hh := hh) (hr := by omega) (hw5 := by omega) (he := by omega)) (cwV 3 hts gL_include_X3_include rfl rfl rfl (by decide +kernel) ⟨Nat.le_of_ble_eq_true rfl, Nat.le_of_ble_eq_true rfl⟩) hw hA [0, 1, 2, 3, 4, 5, 6, 7, 8, 9, 10, 11] [12] [0, 1, 2] rfl rfl (k0 := 13) rfl (by decide) rfl 0 rfl rfl rfl hl.1 (Nat.le_of_ble_eq_true rfl) ⟨Nat.le_of_ble_eq_true rfl, Nat.le_of_ble_eq_true rfl⟩ rfl dL_include_7 (fun r_7 u_7 H locs e_7 hw => ?_)
  obtain ⟨u0_7, u1_7⟩ := u_7
  have hw : Wd D A [(cI, .int), (cR, .object RX1), (cC, .char), (cJ, .long)] ([(x9, .inr (3, [.ref (q 0), .ref (h9 0), .ref (t9 0)]))] ++ wS cI q (incS st r w e9) ++ wR cR h9 (fr7 u1_7 u0_7) (olN ol n7) (n7N n7) ++ wT cC t9 tx ln po ki rp tg nu ++ [(o9, .inl (cJ, 1, .inr (.inl fo)))] ++ wP cI u1_7 (va_up sv (slN ol n7) st) u0_7) s s.heap H locs := hw
  obtain ⟨e_7, x_7⟩ := e_7
  have e_7 : r_7 = nI (cntE st.1 (r * 480 + w * 80 + (4 + e9) * 4) 4) := e_7
  subst e_7
  refine lv_i2l hx hb dL_include_10 rfl ?_
  refine r_last hx hb hw 12 3 rfl rfl (i := 0) (by omega) (by decide) dL_include_11 (fun H locs hw => ?_)
  have hw : Wd D A [(cI, .int), (cR, .object RX1), (cC, .char), (cJ, .long)] ([(x9, .inr (3, [.ref (q 0), .ref (h9 0), .ref (t9 0)]))] ++ wS cI q (incS st r w e9) ++ wR cR h9 (fr7 u1_7 u0_7) (olN ol n7) (n7N n7) ++ wT cC t9 tx ln po ki rp tg nu ++ [(o9, .inl (cJ, 1, .inr (.inl (vp_updL fo 0 ((nI (cntE st.1 (r * 480 + w * 80 + (4 + e9) * 4) 4)).toInt64)))))] ++ wP cI u1_7 (va_up sv (slN ol n7) st) u0_7) s s.heap H locs := hw
  refine lv_goto (tgt := 23) hx hb dL_include_12 (by decide) ?_
  refine lv_iconst (v := nI 0) hx hb dL_include_23 kc_iconst_0 ?_
  exact hE (u0_7, u1_7) dL_include_24 (Nat.le_of_ble_eq_true rfl) (Nat.le_of_ble_eq_true rfl) ⟨⟨hw.1.1, fun k q hk => by cases hk⟩, hw.2.1, hw.2.2.1, hw.2.2.2⟩ ⟨(show nI 0 = nI 0 from rfl), x_7⟩
abbrev rmL_exclude_v : Room := { frames := 5, cells := 7, slots := 5790, locals := 145 }
set_option maxHeartbeats 4000000 in
set_option maxRecDepth 100000 in
theorem c_L_exclude_v (l : Launch) (D : va_G) (sz : Nat) (hl9 : l.stackTraces = false) (cI cR cC cJ : ClassId) (x9 : Nat) (q : Nat → Nat) (st : St) (h9 : Nat → Nat) (ad : Nat → Nat → Nat) (sv : Nat → St) (ol n7 n8 : Nat) (t9 : Nat → Nat) (tx : Nat → Nat) (ln po : Nat) (ki rp tg nu : Int32) (o9 : Nat) (fo : Nat → Int64) (r w e9 : Nat) (hh : hI ol n7 n8) (hr : r < 4) (hw5 : w < 6) (he : e9 < 16) : MZi l yL_exclude wsL_exclude rmL_exclude_v [.ref x9, .int (nI r), .int (nI w), .int (nI e9), .ref o9] D [(cI, .int), (cR, .object RX1), (cC, .char), (cJ, .long)] ([(x9, .inr (3, [.ref (q 0), .ref (h9 0), .ref (t9 0)]))] ++ wS cI q st ++ wR cR h9 (fr7 ad n8) ol n7 ++ wT cC t9 tx ln po ki rp tg nu ++ [(o9, .inl (cJ, 1, .inr (.inl fo)))] ++ wP cI ad sv n8) sz (fun rz (u9 : Nat × (Nat → Nat → Nat)) => rz = nI 0 ∧ hI (olN ol n7) (n7N n7) u9.1) (fun u9 => []) (fun u9 => [(x9, .inr (3, [.ref (q 0), .ref (h9 0), .ref (t9 0)]))] ++ wS cI q (excS st r w e9) ++ wR cR h9 (fr7 u9.2 u9.1) (olN ol n7) (n7N n7) ++ wT cC t9 tx ln po ki rp tg nu ++ [(o9, .inl (cJ, 1, .inr (.inl (vp_updL fo 0 ((nI (cntE st.1 (r * 480 + w * 80 + (4 + e9) * 4) 4))).toInt64))))] ++ wP cI u9.2 (va_up sv (slN ol n7) st) u9.1) 7 5790 := by
  refine met_zi (own := RL) (cc := cL_exclude) (maxL := 6) (hh := [(0, 12, 15, 13), (0, 12, 19, 15)]) (by decide) rfl rfl (Nat.le_of_ble_eq_true rfl) ?_
  intro p e s m args below meth c Q A hsz S htab hz hxe hzq hw hA hE ls hl
  obtain ⟨hx, hb, hml, hown, hts⟩ := id S
  have hl : lv_has ls 6 [(0, .ref x9), (1, .int (nI r)), (2, .int (nI w)), (3, .int (nI e9)), (4, .ref o9)] := hl
  refine lv_aload hx hb dL_exclude_0 (lv_at hl 4 rfl) ?_
  refine lv_iconst (v := nI 0) hx hb dL_exclude_2 kc_iconst_0 ?_
  refine lv_aload_n hx hb dL_exclude_3 rfl (lv_at hl 0 rfl) ?_
  refine lv_iload_n hx hb dL_exclude_4 rfl (lv_at hl 1 rfl) ?_
  refine lv_iload_n hx hb dL_exclude_5 rfl (lv_at hl 2 rfl) ?_
  refine lv_iload_n hx hb dL_exclude_6 rfl (lv_at hl 3 rfl) ?_
  refine cpx_i (w1 := fun (u9 : Nat × (Nat → Nat → Nat)) => [(x9, .inr (3, [.ref (q 0), .ref (h9 0), .ref (t9 0)]))] ++ wS cI q (excS st r w e9) ++ wR cR h9 (fr7 u9.2 u9.1) (olN ol n7) (n7N n7) ++ wT cC t9 tx ln po ki rp tg nu) (pl := fun (u9 : Nat × (Nat → Nat → Nat)) => wP cI u9.2 (va_up sv (slN ol n7) st) u9.1) (As := [.int (nI r), .int (nI w), .int (nI e9)]) (rest := [.int (nI 0), .ref o9]) (wc := [(x9, .inr (3, [.ref (q 0), .ref (h9 0), .ref (t9 0)]))] ++ wS cI q st ++ wR cR h9 (fr7 ad n8) ol n7 ++ wT cC t9 tx ln po ki rp tg nu) (wr := [(o9, .inl (cJ, 1, .inr (.inl fo)))]) S hz (c_X3_exclude l D (sz := s.heap.size) (cI := cI) (cR := cR) (cC := cC) (x9 := x9) (q := q) (st := st) (h9 := h9) (ad := ad) (sv := sv) (ol := ol) (n7 := n7) (n8 := n8) (t9 := t9) (tx := tx) (ln := ln) (po := po) (ki := ki) (rp := rp) (tg := tg) (nu := nu) (r := r) (w := w) (e9 := e9) (hh := hh) (hr := by omega) (hw5 := by omega) (he := by omega)) (cwV 3 hts gL_exclude_X3_exclude rfl rfl rfl (by decide +kernel) ⟨Nat.le_of_ble_eq_true rfl, Nat.le_of_ble_eq_true rfl⟩) hw hA [0, 1, 2, 3, 4, 5, 6, 7, 8, 9, 10, 11] [12] [0, 1, 2] rfl rfl (k0 := 13) rfl (by decide) rfl 0 rfl rfl rfl hl.1 (Nat.le_of_ble_eq_true rfl) ⟨Nat.le_of_ble_eq_true rfl, Nat.le_of_ble_eq_true rfl⟩ rfl dL_exclude_7 (fun r_7 u_7 H locs e_7 hw => ?_)
  obtain ⟨u0_7, u1_7⟩ := u_7
  have hw : Wd D A [(cI, .int), (cR, .object RX1), (cC, .char), (cJ, .long)] ([(x9, .inr (3, [.ref (q 0), .ref (h9 0), .ref (t9 0)]))] ++ wS cI q (excS st r w e9) ++ wR cR h9 (fr7 u1_7 u0_7) (olN ol n7) (n7N n7) ++ wT cC t9 tx ln po ki rp tg nu ++ [(o9, .inl (cJ, 1, .inr (.inl fo)))] ++ wP cI u1_7 (va_up sv (slN ol n7) st) u0_7) s s.heap H locs := hw
  obtain ⟨e_7, x_7⟩ := e_7
  have e_7 : r_7 = nI (cntE st.1 (r * 480 + w * 80 + (4 + e9) * 4) 4) := e_7
  subst e_7
  refine lv_i2l hx hb dL_exclude_10 rfl ?_
  refine r_last hx hb hw 12 3 rfl rfl (i := 0) (by omega) (by decide) dL_exclude_11 (fun H locs hw => ?_)
  have hw : Wd D A [(cI, .int), (cR, .object RX1), (cC, .char), (cJ, .long)] ([(x9, .inr (3, [.ref (q 0), .ref (h9 0), .ref (t9 0)]))] ++ wS cI q (excS st r w e9) ++ wR cR h9 (fr7 u1_7 u0_7) (olN ol n7) (n7N n7) ++ wT cC t9 tx ln po ki rp tg nu ++ [(o9, .inl (cJ, 1, .inr (.inl (vp_updL fo 0 ((nI (cntE st.1 (r * 480 + w * 80 + (4 + e9) * 4) 4)).toInt64)))))] ++ wP cI u1_7 (va_up sv (slN ol n7) st) u0_7) s s.heap H locs := hw
  refine lv_goto (tgt := 23) hx hb dL_exclude_12 (by decide) ?_
  refine lv_iconst (v := nI 0) hx hb dL_exclude_23 kc_iconst_0 ?_
  exact hE (u0_7, u1_7) dL_exclude_24 (Nat.le_of_ble_eq_true rfl) (Nat.le_of_ble_eq_true rfl) ⟨⟨hw.1.1, fun k q hk => by cases hk⟩, hw.2.1, hw.2.2.1, hw.2.2.2⟩ ⟨(show nI 0 = nI 0 from rfl), x_7⟩
abbrev rmL_delete_v : Room := { frames := 4, cells := 7, slots := 5790, locals := 144 }
set_option maxHeartbeats 4000000 in
set_option maxRecDepth 100000 in
theorem c_L_delete_v (l : Launch) (D : va_G) (sz : Nat) (hl9 : l.stackTraces = false) (cI cR cC cJ : ClassId) (x9 : Nat) (q : Nat → Nat) (st : St) (h9 : Nat → Nat) (ad : Nat → Nat → Nat) (sv : Nat → St) (ol n7 n8 : Nat) (t9 : Nat → Nat) (tx : Nat → Nat) (ln po : Nat) (ki rp tg nu : Int32) (o9 : Nat) (fo : Nat → Int64) (r w : Nat) (hh : hI ol n7 n8) (hr : r < 4) (hw5 : w < 6) : MZi l yL_delete wsL_delete rmL_delete_v [.ref x9, .int (nI r), .int (nI w), .ref o9] D [(cI, .int), (cR, .object RX1), (cC, .char), (cJ, .long)] ([(x9, .inr (3, [.ref (q 0), .ref (h9 0), .ref (t9 0)]))] ++ wS cI q st ++ wR cR h9 (fr7 ad n8) ol n7 ++ wT cC t9 tx ln po ki rp tg nu ++ [(o9, .inl (cJ, 1, .inr (.inl fo)))] ++ wP cI ad sv n8) sz (fun rz (u9 : Nat × (Nat → Nat → Nat)) => rz = nI 0 ∧ hI (olN ol n7) (n7N n7) u9.1) (fun u9 => []) (fun u9 => [(x9, .inr (3, [.ref (q 0), .ref (h9 0), .ref (t9 0)]))] ++ wS cI q (delS st r w) ++ wR cR h9 (fr7 u9.2 u9.1) (olN ol n7) (n7N n7) ++ wT cC t9 tx ln po ki rp tg nu ++ [(o9, .inl (cJ, 1, .inr (.inl (vp_updL fo 0 ((nI (cntE st.1 (r * 480 + w * 80 + 0 * 4) 80))).toInt64))))] ++ wP cI u9.2 (va_up sv (slN ol n7) st) u9.1) 7 5790 := by
  refine met_zi (own := RL) (cc := cL_delete) (maxL := 5) (hh := [(0, 10, 13, 13)]) (by decide) rfl rfl (Nat.le_of_ble_eq_true rfl) ?_
  intro p e s m args below meth c Q A hsz S htab hz hxe hzq hw hA hE ls hl
  obtain ⟨hx, hb, hml, hown, hts⟩ := id S
  have hl : lv_has ls 5 [(0, .ref x9), (1, .int (nI r)), (2, .int (nI w)), (3, .ref o9)] := hl
  refine lv_aload_n hx hb dL_delete_0 rfl (lv_at hl 3 rfl) ?_
  refine lv_iconst (v := nI 0) hx hb dL_delete_1 kc_iconst_0 ?_
  refine lv_aload_n hx hb dL_delete_2 rfl (lv_at hl 0 rfl) ?_
  refine lv_iload_n hx hb dL_delete_3 rfl (lv_at hl 1 rfl) ?_
  refine lv_iload_n hx hb dL_delete_4 rfl (lv_at hl 2 rfl) ?_
  refine cpx_i (w1 := fun (u9 : Nat × (Nat → Nat → Nat)) => [(x9, .inr (3, [.ref (q 0), .ref (h9 0), .ref (t9 0)]))] ++ wS cI q (delS st r w) ++ wR cR h9 (fr7 u9.2 u9.1) (olN ol n7) (n7N n7) ++ wT cC t9 tx ln po ki rp tg nu) (pl := fun (u9 : Nat × (Nat → Nat → Nat)) => wP cI u9.2 (va_up sv (slN ol n7) st) u9.1) (As := [.int (nI r), .int (nI w)]) (rest := [.int (nI 0), .ref o9]) (wc := [(x9, .inr (3, [.ref (q 0), .ref (h9 0), .ref (t9 0)]))] ++ wS cI q st ++ wR cR h9 (fr7 ad n8) ol n7 ++ wT cC t9 tx ln po ki rp tg nu) (wr := [(o9, .inl (cJ, 1, .inr (.inl fo)))]) S hz (c_X3_delete l D (sz := s.heap.size) (cI := cI) (cR := cR) (cC := cC) (x9 := x9) (q := q) (st := st) (h9 := h9) (ad := ad) (sv := sv) (ol := ol) (n7 := n7) (n8 := n8) (t9 := t9) (tx := tx) (ln := ln) (po := po) (ki := ki) (rp := rp) (tg := tg) (nu := nu) (r := r) (w := w) (hh := hh) (hr := by omega) (hw5 := by omega)) (cwV 2 hts gL_delete_X3_delete rfl rfl rfl (by decide +kernel) ⟨Nat.le_of_ble_eq_true rfl, Nat.le_of_ble_eq_true rfl⟩) hw hA [0, 1, 2, 3, 4, 5, 6, 7, 8, 9, 10, 11] [12] [0, 1, 2] rfl rfl (k0 := 13) rfl (by decide) rfl 0 rfl rfl rfl hl.1 (Nat.le_of_ble_eq_true rfl) ⟨Nat.le_of_ble_eq_true rfl, Nat.le_of_ble_eq_true rfl⟩ rfl dL_delete_5 (fun r_5 u_5 H locs e_5 hw => ?_)
  obtain ⟨u0_5, u1_5⟩ := u_5
  have hw : Wd D A [(cI, .int), (cR, .object RX1), (cC, .char), (cJ, .long)] ([(x9, .inr (3, [.ref (q 0), .ref (h9 0), .ref (t9 0)]))] ++ wS cI q (delS st r w) ++ wR cR h9 (fr7 u1_5 u0_5) (olN ol n7) (n7N n7) ++ wT cC t9 tx ln po ki rp tg nu ++ [(o9, .inl (cJ, 1, .inr (.inl fo)))] ++ wP cI u1_5 (va_up sv (slN ol n7) st) u0_5) s s.heap H locs := hw
  obtain ⟨e_5, x_5⟩ := e_5
  have e_5 : r_5 = nI (cntE st.1 (r * 480 + w * 80 + 0 * 4) 80) := e_5
  subst e_5
  refine lv_i2l hx hb dL_delete_8 rfl ?_
  refine r_last hx hb hw 12 3 rfl rfl (i := 0) (by omega) (by decide) dL_delete_9 (fun H locs hw => ?_)
  have hw : Wd D A [(cI, .int), (cR, .object RX1), (cC, .char), (cJ, .long)] ([(x9, .inr (3, [.ref (q 0), .ref (h9 0), .ref (t9 0)]))] ++ wS cI q (delS st r w) ++ wR cR h9 (fr7 u1_5 u0_5) (olN ol n7) (n7N n7) ++ wT cC t9 tx ln po ki rp tg nu ++ [(o9, .inl (cJ, 1, .inr (.inl (vp_updL fo 0 ((nI (cntE st.1 (r * 480 + w * 80 + 0 * 4) 80)).toInt64)))))] ++ wP cI u1_5 (va_up sv (slN ol n7) st) u0_5) s s.heap H locs := hw
  refine lv_goto (tgt := 17) hx hb dL_delete_10 (by decide) ?_
  refine lv_iconst (v := nI 0) hx hb dL_delete_17 kc_iconst_0 ?_
  exact hE (u0_5, u1_5) dL_delete_18 (Nat.le_of_ble_eq_true rfl) (Nat.le_of_ble_eq_true rfl) ⟨⟨hw.1.1, fun k q hk => by cases hk⟩, hw.2.1, hw.2.2.1, hw.2.2.2⟩ ⟨(show nI 0 = nI 0 from rfl), x_5⟩
abbrev rmL_merge_v : Room := { frames := 5, cells := 7, slots := 5790, locals := 144 }
set_option maxHeartbeats 4000000 in
set_option maxRecDepth 100000 in
theorem c_L_merge_v (l : Launch) (D : va_G) (sz : Nat) (hl9 : l.stackTraces = false) (cI cR cC cJ : ClassId) (x9 : Nat) (q : Nat → Nat) (st : St) (h9 : Nat → Nat) (ad : Nat → Nat → Nat) (sv : Nat → St) (ol n7 n8 : Nat) (t9 : Nat → Nat) (tx : Nat → Nat) (ln po : Nat) (ki rp tg nu : Int32) (o9 : Nat) (fo : Nat → Int64) (f t : Nat) (hh : hI ol n7 n8) (hf4 : f < 4) (ht4 : t < 4) (hne : f ≠ t) : MZi l yL_merge wsL_merge rmL_merge_v [.ref x9, .int (nI f), .int (nI t), .ref o9] D [(cI, .int), (cR, .object RX1), (cC, .char), (cJ, .long)] ([(x9, .inr (3, [.ref (q 0), .ref (h9 0), .ref (t9 0)]))] ++ wS cI q st ++ wR cR h9 (fr7 ad n8) ol n7 ++ wT cC t9 tx ln po ki rp tg nu ++ [(o9, .inl (cJ, 1, .inr (.inl fo)))] ++ wP cI ad sv n8) sz (fun rz (u9 : Nat × (Nat → Nat → Nat)) => rz = nI 0 ∧ hI (olN ol n7) (n7N n7) u9.1) (fun u9 => []) (fun u9 => [(x9, .inr (3, [.ref (q 0), .ref (h9 0), .ref (t9 0)]))] ++ wS cI q (mgS st f t) ++ wR cR h9 (fr7 u9.2 u9.1) (olN ol n7) (n7N n7) ++ wT cC t9 tx ln po ki rp tg nu ++ [(o9, .inl (cJ, 1, .inr (.inl (vp_updL fo 0 ((nI (cntP (fun o => addP st f t o) 480 + cntP (fun o => remP st f t o) 480))).toInt64))))] ++ wP cI u9.2 (va_up sv (slN ol n7) st) u9.1) 7 5790 := by
  refine met_zi (own := RL) (cc := cL_merge) (maxL := 5) (hh := [(0, 10, 13, 13), (0, 10, 17, 15)]) (by decide) rfl rfl (Nat.le_of_ble_eq_true rfl) ?_
  intro p e s m args below meth c Q A hsz S htab hz hxe hzq hw hA hE ls hl
  obtain ⟨hx, hb, hml, hown, hts⟩ := id S
  have hl : lv_has ls 5 [(0, .ref x9), (1, .int (nI f)), (2, .int (nI t)), (3, .ref o9)] := hl
  refine lv_aload_n hx hb dL_merge_0 rfl (lv_at hl 3 rfl) ?_
  refine lv_iconst (v := nI 0) hx hb dL_merge_1 kc_iconst_0 ?_
  refine lv_aload_n hx hb dL_merge_2 rfl (lv_at hl 0 rfl) ?_
  refine lv_iload_n hx hb dL_merge_3 rfl (lv_at hl 1 rfl) ?_
  refine lv_iload_n hx hb dL_merge_4 rfl (lv_at hl 2 rfl) ?_
  refine cpx_i (w1 := fun (u9 : Nat × (Nat → Nat → Nat)) => [(x9, .inr (3, [.ref (q 0), .ref (h9 0), .ref (t9 0)]))] ++ wS cI q (mgS st f t) ++ wR cR h9 (fr7 u9.2 u9.1) (olN ol n7) (n7N n7) ++ wT cC t9 tx ln po ki rp tg nu) (pl := fun (u9 : Nat × (Nat → Nat → Nat)) => wP cI u9.2 (va_up sv (slN ol n7) st) u9.1) (As := [.int (nI f), .int (nI t)]) (rest := [.int (nI 0), .ref o9]) (wc := [(x9, .inr (3, [.ref (q 0), .ref (h9 0), .ref (t9 0)]))] ++ wS cI q st ++ wR cR h9 (fr7 ad n8) ol n7 ++ wT cC t9 tx ln po ki rp tg nu) (wr := [(o9, .inl (cJ, 1, .inr (.inl fo)))]) S hz (c_X3_merge l D (sz := s.heap.size) (cI := cI) (cR := cR) (cC := cC) (x9 := x9) (q := q) (st := st) (h9 := h9) (ad := ad) (sv := sv) (ol := ol) (n7 := n7) (n8 := n8) (t9 := t9) (tx := tx) (ln := ln) (po := po) (ki := ki) (rp := rp) (tg := tg) (nu := nu) (f := f) (t := t) (hh := hh) (hf4 := by omega) (ht4 := by omega) (hne := by omega)) (cwV 2 hts gL_merge_X3_merge rfl rfl rfl (by decide +kernel) ⟨Nat.le_of_ble_eq_true rfl, Nat.le_of_ble_eq_true rfl⟩) hw hA [0, 1, 2, 3, 4, 5, 6, 7, 8, 9, 10, 11] [12] [0, 1, 2] rfl rfl (k0 := 13) rfl (by decide) rfl 0 rfl rfl rfl hl.1 (Nat.le_of_ble_eq_true rfl) ⟨Nat.le_of_ble_eq_true rfl, Nat.le_of_ble_eq_true rfl⟩ rfl dL_merge_5 (fun r_5 u_5 H locs e_5 hw => ?_)
  obtain ⟨u0_5, u1_5⟩ := u_5
  have hw : Wd D A [(cI, .int), (cR, .object RX1), (cC, .char), (cJ, .long)] ([(x9, .inr (3, [.ref (q 0), .ref (h9 0), .ref (t9 0)]))] ++ wS cI q (mgS st f t) ++ wR cR h9 (fr7 u1_5 u0_5) (olN ol n7) (n7N n7) ++ wT cC t9 tx ln po ki rp tg nu ++ [(o9, .inl (cJ, 1, .inr (.inl fo)))] ++ wP cI u1_5 (va_up sv (slN ol n7) st) u0_5) s s.heap H locs := hw
  obtain ⟨e_5, x_5⟩ := e_5
  have e_5 : r_5 = nI (cntP (fun o => addP st f t o) 480 + cntP (fun o => remP st f t o) 480) := e_5
  subst e_5
  refine lv_i2l hx hb dL_merge_8 rfl ?_
  refine r_last hx hb hw 12 3 rfl rfl (i := 0) (by omega) (by decide) dL_merge_9 (fun H locs hw => ?_)
  have hw : Wd D A [(cI, .int), (cR, .object RX1), (cC, .char), (cJ, .long)] ([(x9, .inr (3, [.ref (q 0), .ref (h9 0), .ref (t9 0)]))] ++ wS cI q (mgS st f t) ++ wR cR h9 (fr7 u1_5 u0_5) (olN ol n7) (n7N n7) ++ wT cC t9 tx ln po ki rp tg nu ++ [(o9, .inl (cJ, 1, .inr (.inl (vp_updL fo 0 ((nI (cntP (fun o => addP st f t o) 480 + cntP (fun o => remP st f t o) 480)).toInt64)))))] ++ wP cI u1_5 (va_up sv (slN ol n7) st) u0_5) s s.heap H locs := hw
  refine lv_goto (tgt := 21) hx hb dL_merge_10 (by decide) ?_
  refine lv_iconst (v := nI 0) hx hb dL_merge_21 kc_iconst_0 ?_
  exact hE (u0_5, u1_5) dL_merge_22 (Nat.le_of_ble_eq_true rfl) (Nat.le_of_ble_eq_true rfl) ⟨⟨hw.1.1, fun k q hk => by cases hk⟩, hw.2.1, hw.2.2.1, hw.2.2.2⟩ ⟨(show nI 0 = nI 0 from rfl), x_5⟩
abbrev rmL_put_e1 : Room := { frames := 8, cells := 1, slots := 6, locals := 164 }
set_option maxHeartbeats 4000000 in
set_option maxRecDepth 100000 in
theorem c_L_put_e1 (l : Launch) (D : va_G) (sz : Nat) (hl9 : l.stackTraces = false) (cI cR cC cJ : ClassId) (x9 : Nat) (q : Nat → Nat) (st : St) (h9 : Nat → Nat) (ad : Nat → Nat → Nat) (sv : Nat → St) (ol n7 n8 : Nat) (t9 : Nat → Nat) (tx : Nat → Nat) (ln po : Nat) (ki rp tg nu : Int32) (o9 : Nat) (fo : Nat → Int64) (p0 p1 p2 p3 : Int32) (hh : hI ol n7 n8) (hv : ¬ ((inP p0 (nI 0) (nI 3) ∧ inP p1 (nI 0) (nI 5)) ∧ inP p2 (nI 0) (nI 2))) : MZi l yL_put wsL_put rmL_put_e1 [.ref x9, .int p0, .int p1, .int p2, .int p3, .ref o9] D [(cI, .int), (cR, .object RX1), (cC, .char), (cJ, .long)] ([(x9, .inr (3, [.ref (q 0), .ref (h9 0), .ref (t9 0)]))] ++ wS cI q st ++ wR cR h9 (fr7 ad n8) ol n7 ++ wT cC t9 tx ln po ki rp tg nu ++ [(o9, .inl (cJ, 1, .inr (.inl fo)))] ++ wP cI ad sv n8) sz (fun rz (u9 : Unit) => rz = nI 1) (fun u9 => []) (fun u9 => [(x9, .inr (3, [.ref (q 0), .ref (h9 0), .ref (t9 0)]))] ++ wS cI q st ++ wR cR h9 (fr7 ad n8) ol n7 ++ wT cC t9 tx ln po ki rp tg nu ++ [(o9, .inl (cJ, 1, .inr (.inl fo)))] ++ wP cI ad sv n8) 1 6 := by
  refine met_zi (own := RL) (cc := cL_put) (maxL := 7) (hh := [(0, 14, 17, 13), (0, 14, 21, 15)]) (by decide) rfl rfl (Nat.le_of_ble_eq_true rfl) ?_
  intro p e s m args below meth c Q A hsz S htab hz hxe hzq hw hA hE ls hl
  obtain ⟨hx, hb, hml, hown, hts⟩ := id S
  have hl : lv_has ls 7 [(0, .ref x9), (1, .int p0), (2, .int p1), (3, .int p2), (4, .int p3), (5, .ref o9)] := hl
  refine lv_aload hx hb dL_put_0 (lv_at hl 5 rfl) ?_
  refine lv_iconst (v := nI 0) hx hb dL_put_2 kc_iconst_0 ?_
  refine lv_aload_n hx hb dL_put_3 rfl (lv_at hl 0 rfl) ?_
  refine lv_iload_n hx hb dL_put_4 rfl (lv_at hl 1 rfl) ?_
  refine lv_iload_n hx hb dL_put_5 rfl (lv_at hl 2 rfl) ?_
  refine lv_iload_n hx hb dL_put_6 rfl (lv_at hl 3 rfl) ?_
  refine lv_iload hx hb dL_put_7 (lv_at hl 4 rfl) ?_
  refine cpt_i (As := [.int p0, .int p1, .int p2, .int p3]) (rest := [.int (nI 0), .ref o9]) (X := [(x9, .inr (3, [.ref (q 0), .ref (h9 0), .ref (t9 0)]))] ++ wS cI q st ++ wR cR h9 (fr7 ad n8) ol n7 ++ wT cC t9 tx ln po ki rp tg nu ++ [(o9, .inl (cJ, 1, .inr (.inl fo)))]) (tail := wP cI ad sv n8) (wc := []) (wr := [(x9, .inr (3, [.ref (q 0), .ref (h9 0), .ref (t9 0)]))] ++ wS cI q st ++ wR cR h9 (fr7 ad n8) ol n7 ++ wT cC t9 tx ln po ki rp tg nu ++ [(o9, .inl (cJ, 1, .inr (.inl fo)))]) S hz hxe hzq (c_X3_put_e1 l D (sz := s.heap.size) hl9 (x9 := x9) (p0 := p0) (p1 := p1) (p2 := p2) (p3 := p3) (hv := hv)) (cwV 4 hts gL_put_X3_put rfl rfl rfl (by decide +kernel) ⟨Nat.le_of_ble_eq_true rfl, Nat.le_of_ble_eq_true rfl⟩) hw hA [] [0, 1, 2, 3, 4, 5, 6, 7, 8, 9, 10, 11, 12] [] rfl rfl (k0 := 13) rfl (by decide) rfl 0 rfl rfl rfl hl.1 (Nat.le_of_ble_eq_true rfl) ⟨Nat.le_of_ble_eq_true rfl, Nat.le_of_ble_eq_true rfl⟩ rfl dL_put_9 (fun q9 ce u_9 H locs p_9 hw h1 h2 h3 => ?_)
  have hw : Wd D A [(cI, .int), (cR, .object RX1), (cC, .char), (cJ, .long)] ([(x9, .inr (3, [.ref (q 0), .ref (h9 0), .ref (t9 0)]))] ++ wS cI q st ++ wR cR h9 (fr7 ad n8) ol n7 ++ wT cC t9 tx ln po ki rp tg nu ++ [(o9, .inl (cJ, 1, .inr (.inl fo)))] ++ wP cI ad sv n8) s s.heap H locs := hw
  refine vx_catch (own := RL) (E := "java/lang/IndexOutOfBoundsException") hown [] ⟨0, 14, 17, 13⟩ [⟨0, 14, 21, 15⟩] (htab.trans rfl) (fun z hz9 => nomatch hz9) rfl (by decide) (hts (.classLink RL 13 "java/lang/IndexOutOfBoundsException") (by decide +kernel)) (hxe.at _ (List.mem_of_getElem? (i := 3) rfl)) h1 h2 h3 ?_
  refine lv_astore (lv' := [(6, .ref q9), (0, .ref x9), (1, .int p0), (2, .int p1), (3, .int p2), (4, .int p3), (5, .ref o9)]) hx hb dL_put_17 hl (by decide) rfl (fun ls hl => ?_)
  refine lv_iconst (v := nI 1) hx hb dL_put_19 kc_iconst_1 ?_
  exact hE () dL_put_20 (Nat.le_of_ble_eq_true rfl) (Nat.le_of_ble_eq_true rfl) ⟨⟨hw.1.1, fun k q hk => by cases hk⟩, hw.2.1, hw.2.2.1, hw.2.2.2⟩ (show nI 1 = nI 1 from rfl)
abbrev rmL_add_e1 : Room := { frames := 8, cells := 1, slots := 6, locals := 163 }
set_option maxHeartbeats 4000000 in
set_option maxRecDepth 100000 in
theorem c_L_add_e1 (l : Launch) (D : va_G) (sz : Nat) (hl9 : l.stackTraces = false) (cI cR cC cJ : ClassId) (x9 : Nat) (q : Nat → Nat) (st : St) (h9 : Nat → Nat) (ad : Nat → Nat → Nat) (sv : Nat → St) (ol n7 n8 : Nat) (t9 : Nat → Nat) (tx : Nat → Nat) (ln po : Nat) (ki rp tg nu : Int32) (o9 : Nat) (fo : Nat → Int64) (p0 p1 p2 : Int32) (hh : hI ol n7 n8) (hv : ¬ (inP p0 (nI 0) (nI 3) ∧ inP p1 (nI 0) (nI 5))) : MZi l yL_add wsL_add rmL_add_e1 [.ref x9, .int p0, .int p1, .int p2, .ref o9] D [(cI, .int), (cR, .object RX1), (cC, .char), (cJ, .long)] ([(x9, .inr (3, [.ref (q 0), .ref (h9 0), .ref (t9 0)]))] ++ wS cI q st ++ wR cR h9 (fr7 ad n8) ol n7 ++ wT cC t9 tx ln po ki rp tg nu ++ [(o9, .inl (cJ, 1, .inr (.inl fo)))] ++ wP cI ad sv n8) sz (fun rz (u9 : Unit) => rz = nI 1) (fun u9 => []) (fun u9 => [(x9, .inr (3, [.ref (q 0), .ref (h9 0), .ref (t9 0)]))] ++ wS cI q st ++ wR cR h9 (fr7 ad n8) ol n7 ++ wT cC t9 tx ln po ki rp tg nu ++ [(o9, .inl (cJ, 1, .inr (.inl fo)))] ++ wP cI ad sv n8) 1 6 := by
  refine met_zi (own := RL) (cc := cL_add) (maxL := 6) (hh := [(0, 12, 15, 13), (0, 12, 19, 15)]) (by decide) rfl rfl (Nat.le_of_ble_eq_true rfl) ?_
  intro p e s m args below meth c Q A hsz S htab hz hxe hzq hw hA hE ls hl
  obtain ⟨hx, hb, hml, hown, hts⟩ := id S
  have hl : lv_has ls 6 [(0, .ref x9), (1, .int p0), (2, .int p1), (3, .int p2), (4, .ref o9)] := hl
  refine lv_aload hx hb dL_add_0 (lv_at hl 4 rfl) ?_
  refine lv_iconst (v := nI 0) hx hb dL_add_2 kc_iconst_0 ?_
  refine lv_aload_n hx hb dL_add_3 rfl (lv_at hl 0 rfl) ?_
  refine lv_iload_n hx hb dL_add_4 rfl (lv_at hl 1 rfl) ?_
  refine lv_iload_n hx hb dL_add_5 rfl (lv_at hl 2 rfl) ?_
  refine lv_iload_n hx hb dL_add_6 rfl (lv_at hl 3 rfl) ?_
  refine cpt_i (As := [.int p0, .int p1, .int p2]) (rest := [.int (nI 0), .ref o9]) (X := [(x9, .inr (3, [.ref (q 0), .ref (h9 0), .ref (t9 0)]))] ++ wS cI q st ++ wR cR h9 (fr7 ad n8) ol n7 ++ wT cC t9 tx ln po ki rp tg nu ++ [(o9, .inl (cJ, 1, .inr (.inl fo)))]) (tail := wP cI ad sv n8) (wc := []) (wr := [(x9, .inr (3, [.ref (q 0), .ref (h9 0), .ref (t9 0)]))] ++ wS cI q st ++ wR cR h9 (fr7 ad n8) ol n7 ++ wT cC t9 tx ln po ki rp tg nu ++ [(o9, .inl (cJ, 1, .inr (.inl fo)))]) S hz hxe hzq (c_X3_add_e1 l D (sz := s.heap.size) hl9 (x9 := x9) (p0 := p0) (p1 := p1) (p2 := p2) (hv := hv)) (cwV 3 hts gL_add_X3_add rfl rfl rfl (by decide +kernel) ⟨Nat.le_of_ble_eq_true rfl, Nat.le_of_ble_eq_true rfl⟩) hw hA [] [0, 1, 2, 3, 4, 5, 6, 7, 8, 9, 10, 11, 12] [] rfl rfl (k0 := 13) rfl (by decide) rfl 0 rfl rfl rfl hl.1 (Nat.le_of_ble_eq_true rfl) ⟨Nat.le_of_ble_eq_true rfl, Nat.le_of_ble_eq_true rfl⟩ rfl dL_add_7 (fun q9 ce u_7 H locs p_7 hw h1 h2 h3 => ?_)
  have hw : Wd D A [(cI, .int), (cR, .object RX1), (cC, .char), (cJ, .long)] ([(x9, .inr (3, [.ref (q 0), .ref (h9 0), .ref (t9 0)]))] ++ wS cI q st ++ wR cR h9 (fr7 ad n8) ol n7 ++ wT cC t9 tx ln po ki rp tg nu ++ [(o9, .inl (cJ, 1, .inr (.inl fo)))] ++ wP cI ad sv n8) s s.heap H locs := hw
  refine vx_catch (own := RL) (E := "java/lang/IndexOutOfBoundsException") hown [] ⟨0, 12, 15, 13⟩ [⟨0, 12, 19, 15⟩] (htab.trans rfl) (fun z hz9 => nomatch hz9) rfl (by decide) (hts (.classLink RL 13 "java/lang/IndexOutOfBoundsException") (by decide +kernel)) (hxe.at _ (List.mem_of_getElem? (i := 3) rfl)) h1 h2 h3 ?_
  refine lv_astore (lv' := [(5, .ref q9), (0, .ref x9), (1, .int p0), (2, .int p1), (3, .int p2), (4, .ref o9)]) hx hb dL_add_15 hl (by decide) rfl (fun ls hl => ?_)
  refine lv_iconst (v := nI 1) hx hb dL_add_17 kc_iconst_1 ?_
  exact hE () dL_add_18 (Nat.le_of_ble_eq_true rfl) (Nat.le_of_ble_eq_true rfl) ⟨⟨hw.1.1, fun k q hk => by cases hk⟩, hw.2.1, hw.2.2.1, hw.2.2.2⟩ (show nI 1 = nI 1 from rfl)
abbrev rmL_include_e1 : Room := { frames := 8, cells := 1, slots := 6, locals := 163 }
set_option maxHeartbeats 4000000 in
set_option maxRecDepth 100000 in
theorem c_L_include_e1 (l : Launch) (D : va_G) (sz : Nat) (hl9 : l.stackTraces = false) (cI cR cC cJ : ClassId) (x9 : Nat) (q : Nat → Nat) (st : St) (h9 : Nat → Nat) (ad : Nat → Nat → Nat) (sv : Nat → St) (ol n7 n8 : Nat) (t9 : Nat → Nat) (tx : Nat → Nat) (ln po : Nat) (ki rp tg nu : Int32) (o9 : Nat) (fo : Nat → Int64) (p0 p1 p2 : Int32) (hh : hI ol n7 n8) (hv : ¬ (inP p0 (nI 0) (nI 3) ∧ inP p1 (nI 0) (nI 5))) : MZi l yL_include wsL_include rmL_include_e1 [.ref x9, .int p0, .int p1, .int p2, .ref o9] D [(cI, .int), (cR, .object RX1), (cC, .char), (cJ, .long)] ([(x9, .inr (3, [.ref (q 0), .ref (h9 0), .ref (t9 0)]))] ++ wS cI q st ++ wR cR h9 (fr7 ad n8) ol n7 ++ wT cC t9 tx ln po ki rp tg nu ++ [(o9, .inl (cJ, 1, .inr (.inl fo)))] ++ wP cI ad sv n8) sz (fun rz (u9 : Unit) => rz = nI 1) (fun u9 => []) (fun u9 => [(x9, .inr (3, [.ref (q 0), .ref (h9 0), .ref (t9 0)]))] ++ wS cI q st ++ wR cR h9 (fr7 ad n8) ol n7 ++ wT cC t9 tx ln po ki rp tg nu ++ [(o9, .inl (cJ, 1, .inr (.inl fo)))] ++ wP cI ad sv n8) 1 6 := by
  refine met_zi (own := RL) (cc := cL_include) (maxL := 6) (hh := [(0, 12, 15, 13), (0, 12, 19, 15)]) (by decide) rfl rfl (Nat.le_of_ble_eq_true rfl) ?_
  intro p e s m args below meth c Q A hsz S htab hz hxe hzq hw hA hE ls hl
  obtain ⟨hx, hb, hml, hown, hts⟩ := id S
  have hl : lv_has ls 6 [(0, .ref x9), (1, .int p0), (2, .int p1), (3, .int p2), (4, .ref o9)] := hl
  refine lv_aload hx hb dL_include_0 (lv_at hl 4 rfl) ?_
  refine lv_iconst (v := nI 0) hx hb dL_include_2 kc_iconst_0 ?_
  refine lv_aload_n hx hb dL_include_3 rfl (lv_at hl 0 rfl) ?_
  refine lv_iload_n hx hb dL_include_4 rfl (lv_at hl 1 rfl) ?_
  refine lv_iload_n hx hb dL_include_5 rfl (lv_at hl 2 rfl) ?_
  refine lv_iload_n hx hb dL_include_6 rfl (lv_at hl 3 rfl) ?_
  refine cpt_i (As := [.int p0, .int p1, .int p2]) (rest := [.int (nI 0), .ref o9]) (X := [(x9, .inr (3, [.ref (q 0), .ref (h9 0), .ref (t9 0)]))] ++ wS cI q st ++ wR cR h9 (fr7 ad n8) ol n7 ++ wT cC t9 tx ln po ki rp tg nu ++ [(o9, .inl (cJ, 1, .inr (.inl fo)))]) (tail := wP cI ad sv n8) (wc := []) (wr := [(x9, .inr (3, [.ref (q 0), .ref (h9 0), .ref (t9 0)]))] ++ wS cI q st ++ wR cR h9 (fr7 ad n8) ol n7 ++ wT cC t9 tx ln po ki rp tg nu ++ [(o9, .inl (cJ, 1, .inr (.inl fo)))]) S hz hxe hzq (c_X3_include_e1 l D (sz := s.heap.size) hl9 (x9 := x9) (p0 := p0) (p1 := p1) (p2 := p2) (hv := hv)) (cwV 3 hts gL_include_X3_include rfl rfl rfl (by decide +kernel) ⟨Nat.le_of_ble_eq_true rfl, Nat.le_of_ble_eq_true rfl⟩) hw hA [] [0, 1, 2, 3, 4, 5, 6, 7, 8, 9, 10, 11, 12] [] rfl rfl (k0 := 13) rfl (by decide) rfl 0 rfl rfl rfl hl.1 (Nat.le_of_ble_eq_true rfl) ⟨Nat.le_of_ble_eq_true rfl, Nat.le_of_ble_eq_true rfl⟩ rfl dL_include_7 (fun q9 ce u_7 H locs p_7 hw h1 h2 h3 => ?_)
  have hw : Wd D A [(cI, .int), (cR, .object RX1), (cC, .char), (cJ, .long)] ([(x9, .inr (3, [.ref (q 0), .ref (h9 0), .ref (t9 0)]))] ++ wS cI q st ++ wR cR h9 (fr7 ad n8) ol n7 ++ wT cC t9 tx ln po ki rp tg nu ++ [(o9, .inl (cJ, 1, .inr (.inl fo)))] ++ wP cI ad sv n8) s s.heap H locs := hw
  refine vx_catch (own := RL) (E := "java/lang/IndexOutOfBoundsException") hown [] ⟨0, 12, 15, 13⟩ [⟨0, 12, 19, 15⟩] (htab.trans rfl) (fun z hz9 => nomatch hz9) rfl (by decide) (hts (.classLink RL 13 "java/lang/IndexOutOfBoundsException") (by decide +kernel)) (hxe.at _ (List.mem_of_getElem? (i := 3) rfl)) h1 h2 h3 ?_
  refine lv_astore (lv' := [(5, .ref q9), (0, .ref x9), (1, .int p0), (2, .int p1), (3, .int p2), (4, .ref o9)]) hx hb dL_include_15 hl (by decide) rfl (fun ls hl => ?_)
  refine lv_iconst (v := nI 1) hx hb dL_include_17 kc_iconst_1 ?_
  exact hE () dL_include_18 (Nat.le_of_ble_eq_true rfl) (Nat.le_of_ble_eq_true rfl) ⟨⟨hw.1.1, fun k q hk => by cases hk⟩, hw.2.1, hw.2.2.1, hw.2.2.2⟩ (show nI 1 = nI 1 from rfl)
abbrev rmL_exclude_e1 : Room := { frames := 8, cells := 1, slots := 6, locals := 163 }
set_option maxHeartbeats 4000000 in
set_option maxRecDepth 100000 in
theorem c_L_exclude_e1 (l : Launch) (D : va_G) (sz : Nat) (hl9 : l.stackTraces = false) (cI cR cC cJ : ClassId) (x9 : Nat) (q : Nat → Nat) (st : St) (h9 : Nat → Nat) (ad : Nat → Nat → Nat) (sv : Nat → St) (ol n7 n8 : Nat) (t9 : Nat → Nat) (tx : Nat → Nat) (ln po : Nat) (ki rp tg nu : Int32) (o9 : Nat) (fo : Nat → Int64) (p0 p1 p2 : Int32) (hh : hI ol n7 n8) (hv : ¬ (inP p0 (nI 0) (nI 3) ∧ inP p1 (nI 0) (nI 5))) : MZi l yL_exclude wsL_exclude rmL_exclude_e1 [.ref x9, .int p0, .int p1, .int p2, .ref o9] D [(cI, .int), (cR, .object RX1), (cC, .char), (cJ, .long)] ([(x9, .inr (3, [.ref (q 0), .ref (h9 0), .ref (t9 0)]))] ++ wS cI q st ++ wR cR h9 (fr7 ad n8) ol n7 ++ wT cC t9 tx ln po ki rp tg nu ++ [(o9, .inl (cJ, 1, .inr (.inl fo)))] ++ wP cI ad sv n8) sz (fun rz (u9 : Unit) => rz = nI 1) (fun u9 => []) (fun u9 => [(x9, .inr (3, [.ref (q 0), .ref (h9 0), .ref (t9 0)]))] ++ wS cI q st ++ wR cR h9 (fr7 ad n8) ol n7 ++ wT cC t9 tx ln po ki rp tg nu ++ [(o9, .inl (cJ, 1, .inr (.inl fo)))] ++ wP cI ad sv n8) 1 6 := by
  refine met_zi (own := RL) (cc := cL_exclude) (maxL := 6) (hh := [(0, 12, 15, 13), (0, 12, 19, 15)]) (by decide) rfl rfl (Nat.le_of_ble_eq_true rfl) ?_
  intro p e s m args below meth c Q A hsz S htab hz hxe hzq hw hA hE ls hl
  obtain ⟨hx, hb, hml, hown, hts⟩ := id S
  have hl : lv_has ls 6 [(0, .ref x9), (1, .int p0), (2, .int p1), (3, .int p2), (4, .ref o9)] := hl
  refine lv_aload hx hb dL_exclude_0 (lv_at hl 4 rfl) ?_
  refine lv_iconst (v := nI 0) hx hb dL_exclude_2 kc_iconst_0 ?_
  refine lv_aload_n hx hb dL_exclude_3 rfl (lv_at hl 0 rfl) ?_
  refine lv_iload_n hx hb dL_exclude_4 rfl (lv_at hl 1 rfl) ?_
  refine lv_iload_n hx hb dL_exclude_5 rfl (lv_at hl 2 rfl) ?_
  refine lv_iload_n hx hb dL_exclude_6 rfl (lv_at hl 3 rfl) ?_
  refine cpt_i (As := [.int p0, .int p1, .int p2]) (rest := [.int (nI 0), .ref o9]) (X := [(x9, .inr (3, [.ref (q 0), .ref (h9 0), .ref (t9 0)]))] ++ wS cI q st ++ wR cR h9 (fr7 ad n8) ol n7 ++ wT cC t9 tx ln po ki rp tg nu ++ [(o9, .inl (cJ, 1, .inr (.inl fo)))]) (tail := wP cI ad sv n8) (wc := []) (wr := [(x9, .inr (3, [.ref (q 0), .ref (h9 0), .ref (t9 0)]))] ++ wS cI q st ++ wR cR h9 (fr7 ad n8) ol n7 ++ wT cC t9 tx ln po ki rp tg nu ++ [(o9, .inl (cJ, 1, .inr (.inl fo)))]) S hz hxe hzq (c_X3_exclude_e1 l D (sz := s.heap.size) hl9 (x9 := x9) (p0 := p0) (p1 := p1) (p2 := p2) (hv := hv)) (cwV 3 hts gL_exclude_X3_exclude rfl rfl rfl (by decide +kernel) ⟨Nat.le_of_ble_eq_true rfl, Nat.le_of_ble_eq_true rfl⟩) hw hA [] [0, 1, 2, 3, 4, 5, 6, 7, 8, 9, 10, 11, 12] [] rfl rfl (k0 := 13) rfl (by decide) rfl 0 rfl rfl rfl hl.1 (Nat.le_of_ble_eq_true rfl) ⟨Nat.le_of_ble_eq_true rfl, Nat.le_of_ble_eq_true rfl⟩ rfl dL_exclude_7 (fun q9 ce u_7 H locs p_7 hw h1 h2 h3 => ?_)
  have hw : Wd D A [(cI, .int), (cR, .object RX1), (cC, .char), (cJ, .long)] ([(x9, .inr (3, [.ref (q 0), .ref (h9 0), .ref (t9 0)]))] ++ wS cI q st ++ wR cR h9 (fr7 ad n8) ol n7 ++ wT cC t9 tx ln po ki rp tg nu ++ [(o9, .inl (cJ, 1, .inr (.inl fo)))] ++ wP cI ad sv n8) s s.heap H locs := hw
  refine vx_catch (own := RL) (E := "java/lang/IndexOutOfBoundsException") hown [] ⟨0, 12, 15, 13⟩ [⟨0, 12, 19, 15⟩] (htab.trans rfl) (fun z hz9 => nomatch hz9) rfl (by decide) (hts (.classLink RL 13 "java/lang/IndexOutOfBoundsException") (by decide +kernel)) (hxe.at _ (List.mem_of_getElem? (i := 3) rfl)) h1 h2 h3 ?_
  refine lv_astore (lv' := [(5, .ref q9), (0, .ref x9), (1, .int p0), (2, .int p1), (3, .int p2), (4, .ref o9)]) hx hb dL_exclude_15 hl (by decide) rfl (fun ls hl => ?_)
  refine lv_iconst (v := nI 1) hx hb dL_exclude_17 kc_iconst_1 ?_
  exact hE () dL_exclude_18 (Nat.le_of_ble_eq_true rfl) (Nat.le_of_ble_eq_true rfl) ⟨⟨hw.1.1, fun k q hk => by cases hk⟩, hw.2.1, hw.2.2.1, hw.2.2.2⟩ (show nI 1 = nI 1 from rfl)
abbrev rmL_delete_e1 : Room := { frames := 8, cells := 1, slots := 6, locals := 162 }
set_option maxHeartbeats 4000000 in
set_option maxRecDepth 100000 in
theorem c_L_delete_e1 (l : Launch) (D : va_G) (sz : Nat) (hl9 : l.stackTraces = false) (cI cR cC cJ : ClassId) (x9 : Nat) (q : Nat → Nat) (st : St) (h9 : Nat → Nat) (ad : Nat → Nat → Nat) (sv : Nat → St) (ol n7 n8 : Nat) (t9 : Nat → Nat) (tx : Nat → Nat) (ln po : Nat) (ki rp tg nu : Int32) (o9 : Nat) (fo : Nat → Int64) (p0 p1 : Int32) (hh : hI ol n7 n8) (hv : ¬ (inP p0 (nI 0) (nI 3) ∧ inP p1 (nI 0) (nI 5))) : MZi l yL_delete wsL_delete rmL_delete_e1 [.ref x9, .int p0, .int p1, .ref o9] D [(cI, .int), (cR, .object RX1), (cC, .char), (cJ, .long)] ([(x9, .inr (3, [.ref (q 0), .ref (h9 0), .ref (t9 0)]))] ++ wS cI q st ++ wR cR h9 (fr7 ad n8) ol n7 ++ wT cC t9 tx ln po ki rp tg nu ++ [(o9, .inl (cJ, 1, .inr (.inl fo)))] ++ wP cI ad sv n8) sz (fun rz (u9 : Unit) => rz = nI 1) (fun u9 => []) (fun u9 => [(x9, .inr (3, [.ref (q 0), .ref (h9 0), .ref (t9 0)]))] ++ wS cI q st ++ wR cR h9 (fr7 ad n8) ol n7 ++ wT cC t9 tx ln po ki rp tg nu ++ [(o9, .inl (cJ, 1, .inr (.inl fo)))] ++ wP cI ad sv n8) 1 6 := by
  refine met_zi (own := RL) (cc := cL_delete) (maxL := 5) (hh := [(0, 10, 13, 13)]) (by decide) rfl rfl (Nat.le_of_ble_eq_true rfl) ?_
  intro p e s m args below meth c Q A hsz S htab hz hxe hzq hw hA hE ls hl
  obtain ⟨hx, hb, hml, hown, hts⟩ := id S
  have hl : lv_has ls 5 [(0, .ref x9), (1, .int p0), (2, .int p1), (3, .ref o9)] := hl
  refine lv_aload_n hx hb dL_delete_0 rfl (lv_at hl 3 rfl) ?_
  refine lv_iconst (v := nI 0) hx hb dL_delete_1 kc_iconst_0 ?_
  refine lv_aload_n hx hb dL_delete_2 rfl (lv_at hl 0 rfl) ?_
  refine lv_iload_n hx hb dL_delete_3 rfl (lv_at hl 1 rfl) ?_
  refine lv_iload_n hx hb dL_delete_4 rfl (lv_at hl 2 rfl) ?_
  refine cpt_i (As := [.int p0, .int p1]) (rest := [.int (nI 0), .ref o9]) (X := [(x9, .inr (3, [.ref (q 0), .ref (h9 0), .ref (t9 0)]))] ++ wS cI q st ++ wR cR h9 (fr7 ad n8) ol n7 ++ wT cC t9 tx ln po ki rp tg nu ++ [(o9, .inl (cJ, 1, .inr (.inl fo)))]) (tail := wP cI ad sv n8) (wc := []) (wr := [(x9, .inr (3, [.ref (q 0), .ref (h9 0), .ref (t9 0)]))] ++ wS cI q st ++ wR cR h9 (fr7 ad n8) ol n7 ++ wT cC t9 tx ln po ki rp tg nu ++ [(o9, .inl (cJ, 1, .inr (.inl fo)))]) S hz hxe hzq (c_X3_delete_e1 l D (sz := s.heap.size) hl9 (x9 := x9) (p0 := p0) (p1 := p1) (hv := hv)) (cwV 2 hts gL_delete_X3_delete rfl rfl rfl (by decide +kernel) ⟨Nat.le_of_ble_eq_true rfl, Nat.le_of_ble_eq_true rfl⟩) hw hA [] [0, 1, 2, 3, 4, 5, 6, 7, 8, 9, 10, 11, 12] [] rfl rfl (k0 := 13) rfl (by decide) rfl 0 rfl rfl rfl hl.1 (Nat.le_of_ble_eq_true rfl) ⟨Nat.le_of_ble_eq_true rfl, Nat.le_of_ble_eq_true rfl⟩ rfl dL_delete_5 (fun q9 ce u_5 H locs p_5 hw h1 h2 h3 => ?_)
  have hw : Wd D A [(cI, .int), (cR, .object RX1), (cC, .char), (cJ, .long)] ([(x9, .inr (3, [.ref (q 0), .ref (h9 0), .ref (t9 0)]))] ++ wS cI q st ++ wR cR h9 (fr7 ad n8) ol n7 ++ wT cC t9 tx ln po ki rp tg nu ++ [(o9, .inl (cJ, 1, .inr (.inl fo)))] ++ wP cI ad sv n8) s s.heap H locs := hw
  refine vx_catch (own := RL) (E := "java/lang/IndexOutOfBoundsException") hown [] ⟨0, 10, 13, 13⟩ [] (htab.trans rfl) (fun z hz9 => nomatch hz9) rfl (by decide) (hts (.classLink RL 13 "java/lang/IndexOutOfBoundsException") (by decide +kernel)) (hxe.at _ (List.mem_of_getElem? (i := 3) rfl)) h1 h2 h3 ?_
  refine lv_astore (lv' := [(4, .ref q9), (0, .ref x9), (1, .int p0), (2, .int p1), (3, .ref o9)]) hx hb dL_delete_13 hl (by decide) rfl (fun ls hl => ?_)
  refine lv_iconst (v := nI 1) hx hb dL_delete_15 kc_iconst_1 ?_
  exact hE () dL_delete_16 (Nat.le_of_ble_eq_true rfl) (Nat.le_of_ble_eq_true rfl) ⟨⟨hw.1.1, fun k q hk => by cases hk⟩, hw.2.1, hw.2.2.1, hw.2.2.2⟩ (show nI 1 = nI 1 from rfl)
abbrev rmL_latest_e1 : Room := { frames := 8, cells := 1, slots := 6, locals := 162 }
set_option maxHeartbeats 4000000 in
set_option maxRecDepth 100000 in
theorem c_L_latest_e1 (l : Launch) (D : va_G) (sz : Nat) (hl9 : l.stackTraces = false) (cI cR cC cJ : ClassId) (x9 : Nat) (q : Nat → Nat) (st : St) (h9 : Nat → Nat) (ad : Nat → Nat → Nat) (sv : Nat → St) (ol n7 n8 : Nat) (t9 : Nat → Nat) (tx : Nat → Nat) (ln po : Nat) (ki rp tg nu : Int32) (o9 : Nat) (fo : Nat → Int64) (p0 p1 : Int32) (hh : hI ol n7 n8) (hv : ¬ (inP p0 (nI 0) (nI 3) ∧ inP p1 (nI 0) (nI 5))) : MZi l yL_latest wsL_latest rmL_latest_e1 [.ref x9, .int p0, .int p1, .ref o9] D [(cI, .int), (cR, .object RX1), (cC, .char), (cJ, .long)] ([(x9, .inr (3, [.ref (q 0), .ref (h9 0), .ref (t9 0)]))] ++ wS cI q st ++ wR cR h9 (fr7 ad n8) ol n7 ++ wT cC t9 tx ln po ki rp tg nu ++ [(o9, .inl (cJ, 1, .inr (.inl fo)))] ++ wP cI ad sv n8) sz (fun rz (u9 : Unit) => rz = nI 1) (fun u9 => []) (fun u9 => [(x9, .inr (3, [.ref (q 0), .ref (h9 0), .ref (t9 0)]))] ++ wS cI q st ++ wR cR h9 (fr7 ad n8) ol n7 ++ wT cC t9 tx ln po ki rp tg nu ++ [(o9, .inl (cJ, 1, .inr (.inl fo)))] ++ wP cI ad sv n8) 1 6 := by
  refine met_zi (own := RL) (cc := cL_latest) (maxL := 5) (hh := [(0, 10, 13, 13)]) (by decide) rfl rfl (Nat.le_of_ble_eq_true rfl) ?_
  intro p e s m args below meth c Q A hsz S htab hz hxe hzq hw hA hE ls hl
  obtain ⟨hx, hb, hml, hown, hts⟩ := id S
  have hl : lv_has ls 5 [(0, .ref x9), (1, .int p0), (2, .int p1), (3, .ref o9)] := hl
  refine lv_aload_n hx hb dL_latest_0 rfl (lv_at hl 3 rfl) ?_
  refine lv_iconst (v := nI 0) hx hb dL_latest_1 kc_iconst_0 ?_
  refine lv_aload_n hx hb dL_latest_2 rfl (lv_at hl 0 rfl) ?_
  refine lv_iload_n hx hb dL_latest_3 rfl (lv_at hl 1 rfl) ?_
  refine lv_iload_n hx hb dL_latest_4 rfl (lv_at hl 2 rfl) ?_
  refine cpt_i (As := [.int p0, .int p1]) (rest := [.int (nI 0), .ref o9]) (X := [(x9, .inr (3, [.ref (q 0), .ref (h9 0), .ref (t9 0)]))] ++ wS cI q st ++ wR cR h9 (fr7 ad n8) ol n7 ++ wT cC t9 tx ln po ki rp tg nu ++ [(o9, .inl (cJ, 1, .inr (.inl fo)))]) (tail := wP cI ad sv n8) (wc := []) (wr := [(x9, .inr (3, [.ref (q 0), .ref (h9 0), .ref (t9 0)]))] ++ wS cI q st ++ wR cR h9 (fr7 ad n8) ol n7 ++ wT cC t9 tx ln po ki rp tg nu ++ [(o9, .inl (cJ, 1, .inr (.inl fo)))]) S hz hxe hzq (c_X3_latest_e1 l D (sz := s.heap.size) hl9 (x9 := x9) (p0 := p0) (p1 := p1) (hv := hv)) (cwV 2 hts gL_latest_X3_latest rfl rfl rfl (by decide +kernel) ⟨Nat.le_of_ble_eq_true rfl, Nat.le_of_ble_eq_true rfl⟩) hw hA [] [0, 1, 2, 3, 4, 5, 6, 7, 8, 9, 10, 11, 12] [] rfl rfl (k0 := 13) rfl (by decide) rfl 0 rfl rfl rfl hl.1 (Nat.le_of_ble_eq_true rfl) ⟨Nat.le_of_ble_eq_true rfl, Nat.le_of_ble_eq_true rfl⟩ rfl dL_latest_5 (fun q9 ce u_5 H locs p_5 hw h1 h2 h3 => ?_)
  have hw : Wd D A [(cI, .int), (cR, .object RX1), (cC, .char), (cJ, .long)] ([(x9, .inr (3, [.ref (q 0), .ref (h9 0), .ref (t9 0)]))] ++ wS cI q st ++ wR cR h9 (fr7 ad n8) ol n7 ++ wT cC t9 tx ln po ki rp tg nu ++ [(o9, .inl (cJ, 1, .inr (.inl fo)))] ++ wP cI ad sv n8) s s.heap H locs := hw
  refine vx_catch (own := RL) (E := "java/lang/IndexOutOfBoundsException") hown [] ⟨0, 10, 13, 13⟩ [] (htab.trans rfl) (fun z hz9 => nomatch hz9) rfl (by decide) (hts (.classLink RL 13 "java/lang/IndexOutOfBoundsException") (by decide +kernel)) (hxe.at _ (List.mem_of_getElem? (i := 3) rfl)) h1 h2 h3 ?_
  refine lv_astore (lv' := [(4, .ref q9), (0, .ref x9), (1, .int p0), (2, .int p1), (3, .ref o9)]) hx hb dL_latest_13 hl (by decide) rfl (fun ls hl => ?_)
  refine lv_iconst (v := nI 1) hx hb dL_latest_15 kc_iconst_1 ?_
  exact hE () dL_latest_16 (Nat.le_of_ble_eq_true rfl) (Nat.le_of_ble_eq_true rfl) ⟨⟨hw.1.1, fun k q hk => by cases hk⟩, hw.2.1, hw.2.2.1, hw.2.2.2⟩ (show nI 1 = nI 1 from rfl)
abbrev rmL_greatest_e1 : Room := { frames := 8, cells := 1, slots := 6, locals := 162 }
set_option maxHeartbeats 4000000 in
set_option maxRecDepth 100000 in
theorem c_L_greatest_e1 (l : Launch) (D : va_G) (sz : Nat) (hl9 : l.stackTraces = false) (cI cR cC cJ : ClassId) (x9 : Nat) (q : Nat → Nat) (st : St) (h9 : Nat → Nat) (ad : Nat → Nat → Nat) (sv : Nat → St) (ol n7 n8 : Nat) (t9 : Nat → Nat) (tx : Nat → Nat) (ln po : Nat) (ki rp tg nu : Int32) (o9 : Nat) (fo : Nat → Int64) (p0 p1 : Int32) (hh : hI ol n7 n8) (hv : ¬ (inP p0 (nI 0) (nI 3) ∧ inP p1 (nI 0) (nI 5))) : MZi l yL_greatest wsL_greatest rmL_greatest_e1 [.ref x9, .int p0, .int p1, .ref o9] D [(cI, .int), (cR, .object RX1), (cC, .char), (cJ, .long)] ([(x9, .inr (3, [.ref (q 0), .ref (h9 0), .ref (t9 0)]))] ++ wS cI q st ++ wR cR h9 (fr7 ad n8) ol n7 ++ wT cC t9 tx ln po ki rp tg nu ++ [(o9, .inl (cJ, 1, .inr (.inl fo)))] ++ wP cI ad sv n8) sz (fun rz (u9 : Unit) => rz = nI 1) (fun u9 => []) (fun u9 => [(x9, .inr (3, [.ref (q 0), .ref (h9 0), .ref (t9 0)]))] ++ wS cI q st ++ wR cR h9 (fr7 ad n8) ol n7 ++ wT cC t9 tx ln po ki rp tg nu ++ [(o9, .inl (cJ, 1, .inr (.inl fo)))] ++ wP cI ad sv n8) 1 6 := by
  refine met_zi (own := RL) (cc := cL_greatest) (maxL := 5) (hh := [(0, 10, 13, 13)]) (by decide) rfl rfl (Nat.le_of_ble_eq_true rfl) ?_
  intro p e s m args below meth c Q A hsz S htab hz hxe hzq hw hA hE ls hl
  obtain ⟨hx, hb, hml, hown, hts⟩ := id S
  have hl : lv_has ls 5 [(0, .ref x9), (1, .int p0), (2, .int p1), (3, .ref o9)] := hl
  refine lv_aload_n hx hb dL_greatest_0 rfl (lv_at hl 3 rfl) ?_
  refine lv_iconst (v := nI 0) hx hb dL_greatest_1 kc_iconst_0 ?_
  refine lv_aload_n hx hb dL_greatest_2 rfl (lv_at hl 0 rfl) ?_
  refine lv_iload_n hx hb dL_greatest_3 rfl (lv_at hl 1 rfl) ?_
  refine lv_iload_n hx hb dL_greatest_4 rfl (lv_at hl 2 rfl) ?_
  refine cpt_i (As := [.int p0, .int p1]) (rest := [.int (nI 0), .ref o9]) (X := [(x9, .inr (3, [.ref (q 0), .ref (h9 0), .ref (t9 0)]))] ++ wS cI q st ++ wR cR h9 (fr7 ad n8) ol n7 ++ wT cC t9 tx ln po ki rp tg nu ++ [(o9, .inl (cJ, 1, .inr (.inl fo)))]) (tail := wP cI ad sv n8) (wc := []) (wr := [(x9, .inr (3, [.ref (q 0), .ref (h9 0), .ref (t9 0)]))] ++ wS cI q st ++ wR cR h9 (fr7 ad n8) ol n7 ++ wT cC t9 tx ln po ki rp tg nu ++ [(o9, .inl (cJ, 1, .inr (.inl fo)))]) S hz hxe hzq (c_X3_greatest_e1 l D (sz := s.heap.size) hl9 (x9 := x9) (p0 := p0) (p1 := p1) (hv := hv)) (cwV 2 hts gL_greatest_X3_greatest rfl rfl rfl (by decide +kernel) ⟨Nat.le_of_ble_eq_true rfl, Nat.le_of_ble_eq_true rfl⟩) hw hA [] [0, 1, 2, 3, 4, 5, 6, 7, 8, 9, 10, 11, 12] [] rfl rfl (k0 := 13) rfl (by decide) rfl 0 rfl rfl rfl hl.1 (Nat.le_of_ble_eq_true rfl) ⟨Nat.le_of_ble_eq_true rfl, Nat.le_of_ble_eq_true rfl⟩ rfl dL_greatest_5 (fun q9 ce u_5 H locs p_5 hw h1 h2 h3 => ?_)
  have hw : Wd D A [(cI, .int), (cR, .object RX1), (cC, .char), (cJ, .long)] ([(x9, .inr (3, [.ref (q 0), .ref (h9 0), .ref (t9 0)]))] ++ wS cI q st ++ wR cR h9 (fr7 ad n8) ol n7 ++ wT cC t9 tx ln po ki rp tg nu ++ [(o9, .inl (cJ, 1, .inr (.inl fo)))] ++ wP cI ad sv n8) s s.heap H locs := hw
  refine vx_catch (own := RL) (E := "java/lang/IndexOutOfBoundsException") hown [] ⟨0, 10, 13, 13⟩ [] (htab.trans rfl) (fun z hz9 => nomatch hz9) rfl (by decide) (hts (.classLink RL 13 "java/lang/IndexOutOfBoundsException") (by decide +kernel)) (hxe.at _ (List.mem_of_getElem? (i := 3) rfl)) h1 h2 h3 ?_
  refine lv_astore (lv' := [(4, .ref q9), (0, .ref x9), (1, .int p0), (2, .int p1), (3, .ref o9)]) hx hb dL_greatest_13 hl (by decide) rfl (fun ls hl => ?_)
  refine lv_iconst (v := nI 1) hx hb dL_greatest_15 kc_iconst_1 ?_
  exact hE () dL_greatest_16 (Nat.le_of_ble_eq_true rfl) (Nat.le_of_ble_eq_true rfl) ⟨⟨hw.1.1, fun k q hk => by cases hk⟩, hw.2.1, hw.2.2.1, hw.2.2.2⟩ (show nI 1 = nI 1 from rfl)
abbrev rmL_counter_e1 : Room := { frames := 8, cells := 1, slots := 6, locals := 162 }
set_option maxHeartbeats 4000000 in
set_option maxRecDepth 100000 in
theorem c_L_counter_e1 (l : Launch) (D : va_G) (sz : Nat) (hl9 : l.stackTraces = false) (cI cR cC cJ : ClassId) (x9 : Nat) (q : Nat → Nat) (st : St) (h9 : Nat → Nat) (ad : Nat → Nat → Nat) (sv : Nat → St) (ol n7 n8 : Nat) (t9 : Nat → Nat) (tx : Nat → Nat) (ln po : Nat) (ki rp tg nu : Int32) (o9 : Nat) (fo : Nat → Int64) (p0 p1 : Int32) (hh : hI ol n7 n8) (hv : ¬ (inP p0 (nI 0) (nI 3) ∧ inP p1 (nI 0) (nI 5))) : MZi l yL_counter wsL_counter rmL_counter_e1 [.ref x9, .int p0, .int p1, .ref o9] D [(cI, .int), (cR, .object RX1), (cC, .char), (cJ, .long)] ([(x9, .inr (3, [.ref (q 0), .ref (h9 0), .ref (t9 0)]))] ++ wS cI q st ++ wR cR h9 (fr7 ad n8) ol n7 ++ wT cC t9 tx ln po ki rp tg nu ++ [(o9, .inl (cJ, 1, .inr (.inl fo)))] ++ wP cI ad sv n8) sz (fun rz (u9 : Unit) => rz = nI 1) (fun u9 => []) (fun u9 => [(x9, .inr (3, [.ref (q 0), .ref (h9 0), .ref (t9 0)]))] ++ wS cI q st ++ wR cR h9 (fr7 ad n8) ol n7 ++ wT cC t9 tx ln po ki rp tg nu ++ [(o9, .inl (cJ, 1, .inr (.inl fo)))] ++ wP cI ad sv n8) 1 6 := by
  refine met_zi (own := RL) (cc := cL_counter) (maxL := 5) (hh := [(0, 10, 13, 13)]) (by decide) rfl rfl (Nat.le_of_ble_eq_true rfl) ?_
  intro p e s m args below meth c Q A hsz S htab hz hxe hzq hw hA hE ls hl
  obtain ⟨hx, hb, hml, hown, hts⟩ := id S
  have hl : lv_has ls 5 [(0, .ref x9), (1, .int p0), (2, .int p1), (3, .ref o9)] := hl
  refine lv_aload_n hx hb dL_counter_0 rfl (lv_at hl 3 rfl) ?_
  refine lv_iconst (v := nI 0) hx hb dL_counter_1 kc_iconst_0 ?_
  refine lv_aload_n hx hb dL_counter_2 rfl (lv_at hl 0 rfl) ?_
  refine lv_iload_n hx hb dL_counter_3 rfl (lv_at hl 1 rfl) ?_
  refine lv_iload_n hx hb dL_counter_4 rfl (lv_at hl 2 rfl) ?_
  refine cpt_i (As := [.int p0, .int p1]) (rest := [.int (nI 0), .ref o9]) (X := [(x9, .inr (3, [.ref (q 0), .ref (h9 0), .ref (t9 0)]))] ++ wS cI q st ++ wR cR h9 (fr7 ad n8) ol n7 ++ wT cC t9 tx ln po ki rp tg nu ++ [(o9, .inl (cJ, 1, .inr (.inl fo)))]) (tail := wP cI ad sv n8) (wc := []) (wr := [(x9, .inr (3, [.ref (q 0), .ref (h9 0), .ref (t9 0)]))] ++ wS cI q st ++ wR cR h9 (fr7 ad n8) ol n7 ++ wT cC t9 tx ln po ki rp tg nu ++ [(o9, .inl (cJ, 1, .inr (.inl fo)))]) S hz hxe hzq (c_X3_counter_e1 l D (sz := s.heap.size) hl9 (x9 := x9) (p0 := p0) (p1 := p1) (hv := hv)) (cwV 2 hts gL_counter_X3_counter rfl rfl rfl (by decide +kernel) ⟨Nat.le_of_ble_eq_true rfl, Nat.le_of_ble_eq_true rfl⟩) hw hA [] [0, 1, 2, 3, 4, 5, 6, 7, 8, 9, 10, 11, 12] [] rfl rfl (k0 := 13) rfl (by decide) rfl 0 rfl rfl rfl hl.1 (Nat.le_of_ble_eq_true rfl) ⟨Nat.le_of_ble_eq_true rfl, Nat.le_of_ble_eq_true rfl⟩ rfl dL_counter_5 (fun q9 ce u_5 H locs p_5 hw h1 h2 h3 => ?_)
  have hw : Wd D A [(cI, .int), (cR, .object RX1), (cC, .char), (cJ, .long)] ([(x9, .inr (3, [.ref (q 0), .ref (h9 0), .ref (t9 0)]))] ++ wS cI q st ++ wR cR h9 (fr7 ad n8) ol n7 ++ wT cC t9 tx ln po ki rp tg nu ++ [(o9, .inl (cJ, 1, .inr (.inl fo)))] ++ wP cI ad sv n8) s s.heap H locs := hw
  refine vx_catch (own := RL) (E := "java/lang/IndexOutOfBoundsException") hown [] ⟨0, 10, 13, 13⟩ [] (htab.trans rfl) (fun z hz9 => nomatch hz9) rfl (by decide) (hts (.classLink RL 13 "java/lang/IndexOutOfBoundsException") (by decide +kernel)) (hxe.at _ (List.mem_of_getElem? (i := 3) rfl)) h1 h2 h3 ?_
  refine lv_astore (lv' := [(4, .ref q9), (0, .ref x9), (1, .int p0), (2, .int p1), (3, .ref o9)]) hx hb dL_counter_13 hl (by decide) rfl (fun ls hl => ?_)
  refine lv_iconst (v := nI 1) hx hb dL_counter_15 kc_iconst_1 ?_
  exact hE () dL_counter_16 (Nat.le_of_ble_eq_true rfl) (Nat.le_of_ble_eq_true rfl) ⟨⟨hw.1.1, fun k q hk => by cases hk⟩, hw.2.1, hw.2.2.1, hw.2.2.2⟩ (show nI 1 = nI 1 from rfl)
abbrev rmL_elements_e1 : Room := { frames := 8, cells := 1, slots := 6, locals := 162 }
set_option maxHeartbeats 4000000 in
set_option maxRecDepth 100000 in
theorem c_L_elements_e1 (l : Launch) (D : va_G) (sz : Nat) (hl9 : l.stackTraces = false) (cI cR cC cJ : ClassId) (x9 : Nat) (q : Nat → Nat) (st : St) (h9 : Nat → Nat) (ad : Nat → Nat → Nat) (sv : Nat → St) (ol n7 n8 : Nat) (t9 : Nat → Nat) (tx : Nat → Nat) (ln po : Nat) (ki rp tg nu : Int32) (o9 : Nat) (fo : Nat → Int64) (p0 p1 : Int32) (hh : hI ol n7 n8) (hv : ¬ (inP p0 (nI 0) (nI 3) ∧ inP p1 (nI 0) (nI 5))) : MZi l yL_elements wsL_elements rmL_elements_e1 [.ref x9, .int p0, .int p1, .ref o9] D [(cI, .int), (cR, .object RX1), (cC, .char), (cJ, .long)] ([(x9, .inr (3, [.ref (q 0), .ref (h9 0), .ref (t9 0)]))] ++ wS cI q st ++ wR cR h9 (fr7 ad n8) ol n7 ++ wT cC t9 tx ln po ki rp tg nu ++ [(o9, .inl (cJ, 1, .inr (.inl fo)))] ++ wP cI ad sv n8) sz (fun rz (u9 : Unit) => rz = nI 1) (fun u9 => []) (fun u9 => [(x9, .inr (3, [.ref (q 0), .ref (h9 0), .ref (t9 0)]))] ++ wS cI q st ++ wR cR h9 (fr7 ad n8) ol n7 ++ wT cC t9 tx ln po ki rp tg nu ++ [(o9, .inl (cJ, 1, .inr (.inl fo)))] ++ wP cI ad sv n8) 1 6 := by
  refine met_zi (own := RL) (cc := cL_elements) (maxL := 5) (hh := [(0, 10, 13, 13)]) (by decide) rfl rfl (Nat.le_of_ble_eq_true rfl) ?_
  intro p e s m args below meth c Q A hsz S htab hz hxe hzq hw hA hE ls hl
  obtain ⟨hx, hb, hml, hown, hts⟩ := id S
  have hl : lv_has ls 5 [(0, .ref x9), (1, .int p0), (2, .int p1), (3, .ref o9)] := hl
  refine lv_aload_n hx hb dL_elements_0 rfl (lv_at hl 3 rfl) ?_
  refine lv_iconst (v := nI 0) hx hb dL_elements_1 kc_iconst_0 ?_
  refine lv_aload_n hx hb dL_elements_2 rfl (lv_at hl 0 rfl) ?_
  refine lv_iload_n hx hb dL_elements_3 rfl (lv_at hl 1 rfl) ?_
  refine lv_iload_n hx hb dL_elements_4 rfl (lv_at hl 2 rfl) ?_
  refine cpt_i (As := [.int p0, .int p1]) (rest := [.int (nI 0), .ref o9]) (X := [(x9, .inr (3, [.ref (q 0), .ref (h9 0), .ref (t9 0)]))] ++ wS cI q st ++ wR cR h9 (fr7 ad n8) ol n7 ++ wT cC t9 tx ln po ki rp tg nu ++ [(o9, .inl (cJ, 1, .inr (.inl fo)))]) (tail := wP cI ad sv n8) (wc := []) (wr := [(x9, .inr (3, [.ref (q 0), .ref (h9 0), .ref (t9 0)]))] ++ wS cI q st ++ wR cR h9 (fr7 ad n8) ol n7 ++ wT cC t9 tx ln po ki rp tg nu ++ [(o9, .inl (cJ, 1, .inr (.inl fo)))]) S hz hxe hzq (c_X3_elements_e1 l D (sz := s.heap.size) hl9 (x9 := x9) (p0 := p0) (p1 := p1) (hv := hv)) (cwV 2 hts gL_elements_X3_elements rfl rfl rfl (by decide +kernel) ⟨Nat.le_of_ble_eq_true rfl, Nat.le_of_ble_eq_true rfl⟩) hw hA [] [0, 1, 2, 3, 4, 5, 6, 7, 8, 9, 10, 11, 12] [] rfl rfl (k0 := 13) rfl (by decide) rfl 0 rfl rfl rfl hl.1 (Nat.le_of_ble_eq_true rfl) ⟨Nat.le_of_ble_eq_true rfl, Nat.le_of_ble_eq_true rfl⟩ rfl dL_elements_5 (fun q9 ce u_5 H locs p_5 hw h1 h2 h3 => ?_)
  have hw : Wd D A [(cI, .int), (cR, .object RX1), (cC, .char), (cJ, .long)] ([(x9, .inr (3, [.ref (q 0), .ref (h9 0), .ref (t9 0)]))] ++ wS cI q st ++ wR cR h9 (fr7 ad n8) ol n7 ++ wT cC t9 tx ln po ki rp tg nu ++ [(o9, .inl (cJ, 1, .inr (.inl fo)))] ++ wP cI ad sv n8) s s.heap H locs := hw
  refine vx_catch (own := RL) (E := "java/lang/IndexOutOfBoundsException") hown [] ⟨0, 10, 13, 13⟩ [] (htab.trans rfl) (fun z hz9 => nomatch hz9) rfl (by decide) (hts (.classLink RL 13 "java/lang/IndexOutOfBoundsException") (by decide +kernel)) (hxe.at _ (List.mem_of_getElem? (i := 3) rfl)) h1 h2 h3 ?_
  refine lv_astore (lv' := [(4, .ref q9), (0, .ref x9), (1, .int p0), (2, .int p1), (3, .ref o9)]) hx hb dL_elements_13 hl (by decide) rfl (fun ls hl => ?_)
  refine lv_iconst (v := nI 1) hx hb dL_elements_15 kc_iconst_1 ?_
  exact hE () dL_elements_16 (Nat.le_of_ble_eq_true rfl) (Nat.le_of_ble_eq_true rfl) ⟨⟨hw.1.1, fun k q hk => by cases hk⟩, hw.2.1, hw.2.2.1, hw.2.2.2⟩ (show nI 1 = nI 1 from rfl)
abbrev rmL_exists_e1 : Room := { frames := 8, cells := 1, slots := 6, locals := 162 }
set_option maxHeartbeats 4000000 in
set_option maxRecDepth 100000 in
theorem c_L_exists_e1 (l : Launch) (D : va_G) (sz : Nat) (hl9 : l.stackTraces = false) (cI cR cC cJ : ClassId) (x9 : Nat) (q : Nat → Nat) (st : St) (h9 : Nat → Nat) (ad : Nat → Nat → Nat) (sv : Nat → St) (ol n7 n8 : Nat) (t9 : Nat → Nat) (tx : Nat → Nat) (ln po : Nat) (ki rp tg nu : Int32) (o9 : Nat) (fo : Nat → Int64) (p0 p1 : Int32) (hh : hI ol n7 n8) (hv : ¬ (inP p0 (nI 0) (nI 3) ∧ inP p1 (nI 0) (nI 5))) : MZi l yL_exists wsL_exists rmL_exists_e1 [.ref x9, .int p0, .int p1, .ref o9] D [(cI, .int), (cR, .object RX1), (cC, .char), (cJ, .long)] ([(x9, .inr (3, [.ref (q 0), .ref (h9 0), .ref (t9 0)]))] ++ wS cI q st ++ wR cR h9 (fr7 ad n8) ol n7 ++ wT cC t9 tx ln po ki rp tg nu ++ [(o9, .inl (cJ, 1, .inr (.inl fo)))] ++ wP cI ad sv n8) sz (fun rz (u9 : Unit) => rz = nI 1) (fun u9 => []) (fun u9 => [(x9, .inr (3, [.ref (q 0), .ref (h9 0), .ref (t9 0)]))] ++ wS cI q st ++ wR cR h9 (fr7 ad n8) ol n7 ++ wT cC t9 tx ln po ki rp tg nu ++ [(o9, .inl (cJ, 1, .inr (.inl fo)))] ++ wP cI ad sv n8) 1 6 := by
  refine met_zi (own := RL) (cc := cL_exists) (maxL := 5) (hh := [(0, 17, 20, 13)]) (by decide) rfl rfl (Nat.le_of_ble_eq_true rfl) ?_
  intro p e s m args below meth c Q A hsz S htab hz hxe hzq hw hA hE ls hl
  obtain ⟨hx, hb, hml, hown, hts⟩ := id S
  have hl : lv_has ls 5 [(0, .ref x9), (1, .int p0), (2, .int p1), (3, .ref o9)] := hl
  refine lv_aload_n hx hb dL_exists_0 rfl (lv_at hl 3 rfl) ?_
  refine lv_iconst (v := nI 0) hx hb dL_exists_1 kc_iconst_0 ?_
  refine lv_aload_n hx hb dL_exists_2 rfl (lv_at hl 0 rfl) ?_
  refine lv_iload_n hx hb dL_exists_3 rfl (lv_at hl 1 rfl) ?_
  refine lv_iload_n hx hb dL_exists_4 rfl (lv_at hl 2 rfl) ?_
  refine cpt_i (As := [.int p0, .int p1]) (rest := [.int (nI 0), .ref o9]) (X := [(x9, .inr (3, [.ref (q 0), .ref (h9 0), .ref (t9 0)]))] ++ wS cI q st ++ wR cR h9 (fr7 ad n8) ol n7 ++ wT cC t9 tx ln po ki rp tg nu ++ [(o9, .inl (cJ, 1, .inr (.inl fo)))]) (tail := wP cI ad sv n8) (wc := []) (wr := [(x9, .inr (3, [.ref (q 0), .ref (h9 0), .ref (t9 0)]))] ++ wS cI q st ++ wR cR h9 (fr7 ad n8) ol n7 ++ wT cC t9 tx ln po ki rp tg nu ++ [(o9, .inl (cJ, 1, .inr (.inl fo)))]) S hz hxe hzq (c_X3_exists_e1 l D (sz := s.heap.size) hl9 (x9 := x9) (p0 := p0) (p1 := p1) (hv := hv)) (cwV 2 hts gL_exists_X3_exists rfl rfl rfl (by decide +kernel) ⟨Nat.le_of_ble_eq_true rfl, Nat.le_of_ble_eq_true rfl⟩) hw hA [] [0, 1, 2, 3, 4, 5, 6, 7, 8, 9, 10, 11, 12] [] rfl rfl (k0 := 13) rfl (by decide) rfl 0 rfl rfl rfl hl.1 (Nat.le_of_ble_eq_true rfl) ⟨Nat.le_of_ble_eq_true rfl, Nat.le_of_ble_eq_true rfl⟩ rfl dL_exists_5 (fun q9 ce u_5 H locs p_5 hw h1 h2 h3 => ?_)
  have hw : Wd D A [(cI, .int), (cR, .object RX1), (cC, .char), (cJ, .long)] ([(x9, .inr (3, [.ref (q 0), .ref (h9 0), .ref (t9 0)]))] ++ wS cI q st ++ wR cR h9 (fr7 ad n8) ol n7 ++ wT cC t9 tx ln po ki rp tg nu ++ [(o9, .inl (cJ, 1, .inr (.inl fo)))] ++ wP cI ad sv n8) s s.heap H locs := hw
  refine vx_catch (own := RL) (E := "java/lang/IndexOutOfBoundsException") hown [] ⟨0, 17, 20, 13⟩ [] (htab.trans rfl) (fun z hz9 => nomatch hz9) rfl (by decide) (hts (.classLink RL 13 "java/lang/IndexOutOfBoundsException") (by decide +kernel)) (hxe.at _ (List.mem_of_getElem? (i := 3) rfl)) h1 h2 h3 ?_
  refine lv_astore (lv' := [(4, .ref q9), (0, .ref x9), (1, .int p0), (2, .int p1), (3, .ref o9)]) hx hb dL_exists_20 hl (by decide) rfl (fun ls hl => ?_)
  refine lv_iconst (v := nI 1) hx hb dL_exists_22 kc_iconst_1 ?_
  exact hE () dL_exists_23 (Nat.le_of_ble_eq_true rfl) (Nat.le_of_ble_eq_true rfl) ⟨⟨hw.1.1, fun k q hk => by cases hk⟩, hw.2.1, hw.2.2.1, hw.2.2.2⟩ (show nI 1 = nI 1 from rfl)
abbrev rmL_sibling_e1 : Room := { frames := 8, cells := 1, slots := 6, locals := 163 }
set_option maxHeartbeats 4000000 in
set_option maxRecDepth 100000 in
theorem c_L_sibling_e1 (l : Launch) (D : va_G) (sz : Nat) (hl9 : l.stackTraces = false) (cI cR cC cJ : ClassId) (x9 : Nat) (q : Nat → Nat) (st : St) (h9 : Nat → Nat) (ad : Nat → Nat → Nat) (sv : Nat → St) (ol n7 n8 : Nat) (t9 : Nat → Nat) (tx : Nat → Nat) (ln po : Nat) (ki rp tg nu : Int32) (o9 : Nat) (fo : Nat → Int64) (p0 p1 p2 : Int32) (hh : hI ol n7 n8) (hv : ¬ ((inP p0 (nI 0) (nI 3) ∧ inP p1 (nI 0) (nI 5)) ∧ ¬ p2 < 0)) : MZi l yL_sibling wsL_sibling rmL_sibling_e1 [.ref x9, .int p0, .int p1, .int p2, .ref o9] D [(cI, .int), (cR, .object RX1), (cC, .char), (cJ, .long)] ([(x9, .inr (3, [.ref (q 0), .ref (h9 0), .ref (t9 0)]))] ++ wS cI q st ++ wR cR h9 (fr7 ad n8) ol n7 ++ wT cC t9 tx ln po ki rp tg nu ++ [(o9, .inl (cJ, 1, .inr (.inl fo)))] ++ wP cI ad sv n8) sz (fun rz (u9 : Unit) => rz = nI 1) (fun u9 => []) (fun u9 => [(x9, .inr (3, [.ref (q 0), .ref (h9 0), .ref (t9 0)]))] ++ wS cI q st ++ wR cR h9 (fr7 ad n8) ol n7 ++ wT cC t9 tx ln po ki rp tg nu ++ [(o9, .inl (cJ, 1, .inr (.inl fo)))] ++ wP cI ad sv n8) 1 6 := by
  refine met_zi (own := RL) (cc := cL_sibling) (maxL := 6) (hh := [(0, 12, 15, 13)]) (by decide) rfl rfl (Nat.le_of_ble_eq_true rfl) ?_
  intro p e s m args below meth c Q A hsz S htab hz hxe hzq hw hA hE ls hl
  obtain ⟨hx, hb, hml, hown, hts⟩ := id S
  have hl : lv_has ls 6 [(0, .ref x9), (1, .int p0), (2, .int p1), (3, .int p2), (4, .ref o9)] := hl
  refine lv_aload hx hb dL_sibling_0 (lv_at hl 4 rfl) ?_
  refine lv_iconst (v := nI 0) hx hb dL_sibling_2 kc_iconst_0 ?_
  refine lv_aload_n hx hb dL_sibling_3 rfl (lv_at hl 0 rfl) ?_
  refine lv_iload_n hx hb dL_sibling_4 rfl (lv_at hl 1 rfl) ?_
  refine lv_iload_n hx hb dL_sibling_5 rfl (lv_at hl 2 rfl) ?_
  refine lv_iload_n hx hb dL_sibling_6 rfl (lv_at hl 3 rfl) ?_
  refine cpt_i (As := [.int p0, .int p1, .int p2]) (rest := [.int (nI 0), .ref o9]) (X := [(x9, .inr (3, [.ref (q 0), .ref (h9 0), .ref (t9 0)]))] ++ wS cI q st ++ wR cR h9 (fr7 ad n8) ol n7 ++ wT cC t9 tx ln po ki rp tg nu ++ [(o9, .inl (cJ, 1, .inr (.inl fo)))]) (tail := wP cI ad sv n8) (wc := []) (wr := [(x9, .inr (3, [.ref (q 0), .ref (h9 0), .ref (t9 0)]))] ++ wS cI q st ++ wR cR h9 (fr7 ad n8) ol n7 ++ wT cC t9 tx ln po ki rp tg nu ++ [(o9, .inl (cJ, 1, .inr (.inl fo)))]) S hz hxe hzq (c_X3_sibling_e1 l D (sz := s.heap.size) hl9 (x9 := x9) (p0 := p0) (p1 := p1) (p2 := p2) (hv := hv)) (cwV 3 hts gL_sibling_X3_sibling rfl rfl rfl (by decide +kernel) ⟨Nat.le_of_ble_eq_true rfl, Nat.le_of_ble_eq_true rfl⟩) hw hA [] [0, 1, 2, 3, 4, 5, 6, 7, 8, 9, 10, 11, 12] [] rfl rfl (k0 := 13) rfl (by decide) rfl 0 rfl rfl rfl hl.1 (Nat.le_of_ble_eq_true rfl) ⟨Nat.le_of_ble_eq_true rfl, Nat.le_of_ble_eq_true rfl⟩ rfl dL_sibling_7 (fun q9 ce u_7 H locs p_7 hw h1 h2 h3 => ?_)
  have hw : Wd D A [(cI, .int), (cR, .object RX1), (cC, .char), (cJ, .long)] ([(x9, .inr (3, [.ref (q 0), .ref (h9 0), .ref (t9 0)]))] ++ wS cI q st ++ wR cR h9 (fr7 ad n8) ol n7 ++ wT cC t9 tx ln po ki rp tg nu ++ [(o9, .inl (cJ, 1, .inr (.inl fo)))] ++ wP cI ad sv n8) s s.heap H locs := hw
  refine vx_catch (own := RL) (E := "java/lang/IndexOutOfBoundsException") hown [] ⟨0, 12, 15, 13⟩ [] (htab.trans rfl) (fun z hz9 => nomatch hz9) rfl (by decide) (hts (.classLink RL 13 "java/lang/IndexOutOfBoundsException") (by decide +kernel)) (hxe.at _ (List.mem_of_getElem? (i := 3) rfl)) h1 h2 h3 ?_
  refine lv_astore (lv' := [(5, .ref q9), (0, .ref x9), (1, .int p0), (2, .int p1), (3, .int p2), (4, .ref o9)]) hx hb dL_sibling_15 hl (by decide) rfl (fun ls hl => ?_)
  refine lv_iconst (v := nI 1) hx hb dL_sibling_17 kc_iconst_1 ?_
  exact hE () dL_sibling_18 (Nat.le_of_ble_eq_true rfl) (Nat.le_of_ble_eq_true rfl) ⟨⟨hw.1.1, fun k q hk => by cases hk⟩, hw.2.1, hw.2.2.1, hw.2.2.2⟩ (show nI 1 = nI 1 from rfl)
abbrev rmL_entries_e1 : Room := { frames := 8, cells := 1, slots := 6, locals := 163 }
set_option maxHeartbeats 4000000 in
set_option maxRecDepth 100000 in
theorem c_L_entries_e1 (l : Launch) (D : va_G) (sz : Nat) (hl9 : l.stackTraces = false) (cI cR cC cJ : ClassId) (x9 : Nat) (q : Nat → Nat) (st : St) (h9 : Nat → Nat) (ad : Nat → Nat → Nat) (sv : Nat → St) (ol n7 n8 : Nat) (t9 : Nat → Nat) (tx : Nat → Nat) (ln po : Nat) (ki rp tg nu : Int32) (o9 : Nat) (fo : Nat → Int64) (p0 p1 p2 : Int32) (hh : hI ol n7 n8) (hv : ¬ ((inP p0 (nI 0) (nI 3) ∧ inP p1 (nI 0) (nI 5)) ∧ inP p2 (nI 0) (nI 4))) : MZi l yL_entries wsL_entries rmL_entries_e1 [.ref x9, .int p0, .int p1, .int p2, .ref o9] D [(cI, .int), (cR, .object RX1), (cC, .char), (cJ, .long)] ([(x9, .inr (3, [.ref (q 0), .ref (h9 0), .ref (t9 0)]))] ++ wS cI q st ++ wR cR h9 (fr7 ad n8) ol n7 ++ wT cC t9 tx ln po ki rp tg nu ++ [(o9, .inl (cJ, 1, .inr (.inl fo)))] ++ wP cI ad sv n8) sz (fun rz (u9 : Unit) => rz = nI 1) (fun u9 => []) (fun u9 => [(x9, .inr (3, [.ref (q 0), .ref (h9 0), .ref (t9 0)]))] ++ wS cI q st ++ wR cR h9 (fr7 ad n8) ol n7 ++ wT cC t9 tx ln po ki rp tg nu ++ [(o9, .inl (cJ, 1, .inr (.inl fo)))] ++ wP cI ad sv n8) 1 6 := by
  refine met_zi (own := RL) (cc := cL_entries) (maxL := 6) (hh := [(0, 12, 15, 13)]) (by decide) rfl rfl (Nat.le_of_ble_eq_true rfl) ?_
  intro p e s m args below meth c Q A hsz S htab hz hxe hzq hw hA hE ls hl
  obtain ⟨hx, hb, hml, hown, hts⟩ := id S
  have hl : lv_has ls 6 [(0, .ref x9), (1, .int p0), (2, .int p1), (3, .int p2), (4, .ref o9)] := hl
  refine lv_aload hx hb dL_entries_0 (lv_at hl 4 rfl) ?_
  refine lv_iconst (v := nI 0) hx hb dL_entries_2 kc_iconst_0 ?_
  refine lv_aload_n hx hb dL_entries_3 rfl (lv_at hl 0 rfl) ?_
  refine lv_iload_n hx hb dL_entries_4 rfl (lv_at hl 1 rfl) ?_
  refine lv_iload_n hx hb dL_entries_5 rfl (lv_at hl 2 rfl) ?_
  refine lv_iload_n hx hb dL_entries_6 rfl (lv_at hl 3 rfl) ?_
  refine cpt_i (As := [.int p0, .int p1, .int p2]) (rest := [.int (nI 0), .ref o9]) (X := [(x9, .inr (3, [.ref (q 0), .ref (h9 0), .ref (t9 0)]))] ++ wS cI q st ++ wR cR h9 (fr7 ad n8) ol n7 ++ wT cC t9 tx ln po ki rp tg nu ++ [(o9, .inl (cJ, 1, .inr (.inl fo)))]) (tail := wP cI ad sv n8) (wc := []) (wr := [(x9, .inr (3, [.ref (q 0), .ref (h9 0), .ref (t9 0)]))] ++ wS cI q st ++ wR cR h9 (fr7 ad n8) ol n7 ++ wT cC t9 tx ln po ki rp tg nu ++ [(o9, .inl (cJ, 1, .inr (.inl fo)))]) S hz hxe hzq (c_X3_entries_e1 l D (sz := s.heap.size) hl9 (x9 := x9) (p0 := p0) (p1 := p1) (p2 := p2) (hv := hv)) (cwV 3 hts gL_entries_X3_entries rfl rfl rfl (by decide +kernel) ⟨Nat.le_of_ble_eq_true rfl, Nat.le_of_ble_eq_true rfl⟩) hw hA [] [0, 1, 2, 3, 4, 5, 6, 7, 8, 9, 10, 11, 12] [] rfl rfl (k0 := 13) rfl (by decide) rfl 0 rfl rfl rfl hl.1 (Nat.le_of_ble_eq_true rfl) ⟨Nat.le_of_ble_eq_true rfl, Nat.le_of_ble_eq_true rfl⟩ rfl dL_entries_7 (fun q9 ce u_7 H locs p_7 hw h1 h2 h3 => ?_)
  have hw : Wd D A [(cI, .int), (cR, .object RX1), (cC, .char), (cJ, .long)] ([(x9, .inr (3, [.ref (q 0), .ref (h9 0), .ref (t9 0)]))] ++ wS cI q st ++ wR cR h9 (fr7 ad n8) ol n7 ++ wT cC t9 tx ln po ki rp tg nu ++ [(o9, .inl (cJ, 1, .inr (.inl fo)))] ++ wP cI ad sv n8) s s.heap H locs := hw
  refine vx_catch (own := RL) (E := "java/lang/IndexOutOfBoundsException") hown [] ⟨0, 12, 15, 13⟩ [] (htab.trans rfl) (fun z hz9 => nomatch hz9) rfl (by decide) (hts (.classLink RL 13 "java/lang/IndexOutOfBoundsException") (by decide +kernel)) (hxe.at _ (List.mem_of_getElem? (i := 3) rfl)) h1 h2 h3 ?_
  refine lv_astore (lv' := [(5, .ref q9), (0, .ref x9), (1, .int p0), (2, .int p1), (3, .int p2), (4, .ref o9)]) hx hb dL_entries_15 hl (by decide) rfl (fun ls hl => ?_)
  refine lv_iconst (v := nI 1) hx hb dL_entries_17 kc_iconst_1 ?_
  exact hE () dL_entries_18 (Nat.le_of_ble_eq_true rfl) (Nat.le_of_ble_eq_true rfl) ⟨⟨hw.1.1, fun k q hk => by cases hk⟩, hw.2.1, hw.2.2.1, hw.2.2.2⟩ (show nI 1 = nI 1 from rfl)
