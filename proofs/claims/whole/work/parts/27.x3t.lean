abbrev rmX3_mean : Room := { frames := 3, cells := 0, slots := 0, locals := 70 }
set_option maxHeartbeats 4000000 in
set_option maxRecDepth 100000 in
theorem c_X3_mean (l : Launch) (D : va_G) (sz : Nat) (cI cR cC : ClassId) (x9 : Nat) (q : Nat → Nat) (st : St) (h9 : Nat → Nat) (ad : Nat → Nat → Nat) (sv : Nat → St) (ol n7 n8 : Nat) (t9 : Nat → Nat) (tx : Nat → Nat) (ln po : Nat) (ki rp tg nu : Int32) (r w : Nat) (hh : hI ol n7 n8) (hr : r < 4) (hw5 : w < 6) : MXf l yX3_mean wsX3_mean rmX3_mean [.ref x9, .int (nI r), .int (nI w)] D [(cI, .int), (cR, .object RX1), (cC, .char)] ([(x9, .inr (3, [.ref (q 0), .ref (h9 0), .ref (t9 0)]))] ++ wS cI q st ++ wR cR h9 (fr7 ad n8) ol n7 ++ wT cC t9 tx ln po ki rp tg nu ++ wP cI ad sv n8) sz (fun rz (u9 : Unit) => rz = mnF (cntE st.1 (r * 480 + w * 80 + 1 * 4) (cE 1 * 4 - 1 * 4)) (smE st (r * 480 + w * 80 + 1 * 4) (cE 1 * 4 - 1 * 4))) (fun u9 => []) (fun u9 => [(x9, .inr (3, [.ref (q 0), .ref (h9 0), .ref (t9 0)]))] ++ wS cI q st ++ wR cR h9 (fr7 ad n8) ol n7 ++ wT cC t9 tx ln po ki rp tg nu ++ wP cI ad sv n8) 0 0 := by
  refine met_xf (own := RX3) (cc := cX3_mean) (maxL := 4) (by decide) rfl rfl (Nat.le_of_ble_eq_true rfl) ?_
  intro p e s m args below meth c Q A hsz S hz hw hA hE ls hl
  obtain ⟨hx, hb, hml, hown, hts⟩ := id S
  have k10 := hts (.fieldLink RX3 10 "CausalTable" "state" "LCausalTable$State;") (by decide +kernel)
  have hin3 := (show ∀ w ∈ wsX30, w ∈ wsX3_mean by decide +kernel)
  have hl : lv_has ls 4 [(0, .ref x9), (1, .int (nI r)), (2, .int (nI w))] := hl
  have hcn := cntE_le st.1 (r * 480 + w * 80 + 1 * 4) (cE 1 * 4 - 1 * 4)
  have hce : cE 1 * 4 - 1 * 4 = 4 := rfl
  refine lv_iload_n hx hb dX3_mean_0 rfl (lv_at hl 1 rfl) ?_
  refine cp_Sv (As := [.int (nI r)]) (rest := []) S (c_X3_checkReplica l D (sz := s.heap.size) (r := r) (hr := by omega)) (va_cwS 1 hts gX3_mean_X3_checkReplica rfl rfl rfl (by decide +kernel) ⟨Nat.le_of_ble_eq_true rfl, Nat.le_of_ble_eq_true rfl⟩) hw hA rfl hl.1 (Nat.le_of_ble_eq_true rfl) ⟨Nat.le_of_ble_eq_true rfl, Nat.le_of_ble_eq_true rfl⟩ rfl dX3_mean_1 (fun H locs hw => ?_)
  have hw : Wd D A [(cI, .int), (cR, .object RX1), (cC, .char)] ([(x9, .inr (3, [.ref (q 0), .ref (h9 0), .ref (t9 0)]))] ++ wS cI q st ++ wR cR h9 (fr7 ad n8) ol n7 ++ wT cC t9 tx ln po ki rp tg nu ++ wP cI ad sv n8) s s.heap H locs := hw
  refine lv_iload_n hx hb dX3_mean_4 rfl (lv_at hl 2 rfl) ?_
  refine cp_Sv (As := [.int (nI w)]) (rest := []) S (c_X3_checkRow l D (sz := H.size) (w := w) (hw5 := by omega)) (va_cwS 1 hts gX3_mean_X3_checkRow rfl rfl rfl (by decide +kernel) ⟨Nat.le_of_ble_eq_true rfl, Nat.le_of_ble_eq_true rfl⟩) hw hA rfl hl.1 (Nat.le_of_ble_eq_true rfl) ⟨Nat.le_of_ble_eq_true rfl, Nat.le_of_ble_eq_true rfl⟩ rfl dX3_mean_5 (fun H locs hw => ?_)
  have hw : Wd D A [(cI, .int), (cR, .object RX1), (cC, .char)] ([(x9, .inr (3, [.ref (q 0), .ref (h9 0), .ref (t9 0)]))] ++ wS cI q st ++ wR cR h9 (fr7 ad n8) ol n7 ++ wT cC t9 tx ln po ki rp tg nu ++ wP cI ad sv n8) s s.heap H locs := hw
  refine lv_aload_n hx hb dX3_mean_8 rfl (lv_at hl 0 rfl) ?_
  refine r_get hx hb hts hown hw.q 0 0 hin3 rfl rfl (by decide) k10 rfl dX3_mean_9 ?_
  refine lv_iload_n hx hb dX3_mean_12 rfl (lv_at hl 1 rfl) ?_
  refine lv_iload_n hx hb dX3_mean_13 rfl (lv_at hl 2 rfl) ?_
  refine lv_iconst (v := nI 1) hx hb dX3_mean_14 kc_iconst_1 ?_
  refine cq_V (As := [.int (nI r), .int (nI w), .int (nI 1)]) (rest := []) S (c_X1_countInCell l D (cI := cI) (q := q) (st := st) (r := r) (w := w) (g := 1) (hr := by omega) (hw5 := by omega) (hg := by omega)) (cwV 3 hts gX3_mean_X1_countInCell rfl rfl rfl (by decide +kernel) ⟨Nat.le_of_ble_eq_true rfl, Nat.le_of_ble_eq_true rfl⟩) (hw.q.sub [1, 2, 3, 4, 5, 6, 7] [0] rfl rfl) 0 rfl rfl rfl hl.1 (Nat.le_of_ble_eq_true rfl) ⟨Nat.le_of_ble_eq_true rfl, Nat.le_of_ble_eq_true rfl⟩ rfl dX3_mean_15 (fun r_15 e_15 => ?_)
  have e_15 : r_15 = nI (cntE st.1 (r * 480 + w * 80 + 1 * 4) (cE 1 * 4 - 1 * 4)) := e_15
  subst e_15
  refine lv_istore_n (lv' := [(3, .int (nI (cntE st.1 (r * 480 + w * 80 + 1 * 4) (cE 1 * 4 - 1 * 4)))), (0, .ref x9), (1, .int (nI r)), (2, .int (nI w))]) hx hb dX3_mean_18 rfl hl (by decide) rfl (fun ls hl => ?_)
  refine lv_iload_n hx hb dX3_mean_19 rfl (lv_at hl 0 rfl) ?_
  refine r_if_neN (tgt := 25) hx hb (by omega) dX3_mean_20 (by decide) (fun c_20 => ?_) (fun c_20 => ?_)
  ·
    refine lv_aload_n hx hb dX3_mean_25 rfl (lv_at hl 1 rfl) ?_
    refine r_get hx hb hts hown hw.q 0 0 hin3 rfl rfl (by decide) k10 rfl dX3_mean_26 ?_
    refine lv_iload_n hx hb dX3_mean_29 rfl (lv_at hl 2 rfl) ?_
    refine lv_iload_n hx hb dX3_mean_30 rfl (lv_at hl 3 rfl) ?_
    refine lv_iconst (v := nI 1) hx hb dX3_mean_31 kc_iconst_1 ?_
    refine cq_V (As := [.int (nI r), .int (nI w), .int (nI 1)]) (rest := []) S (c_X1_sumOfCell l D (cI := cI) (q := q) (st := st) (r := r) (w := w) (g := 1) (hr := by omega) (hw5 := by omega) (hg := by omega)) (cwV 3 hts gX3_mean_X1_sumOfCell rfl rfl rfl (by decide +kernel) ⟨Nat.le_of_ble_eq_true rfl, Nat.le_of_ble_eq_true rfl⟩) (hw.q.sub [1, 2, 3, 4, 5, 6, 7] [0] rfl rfl) 0 rfl rfl rfl hl.1 (Nat.le_of_ble_eq_true rfl) ⟨Nat.le_of_ble_eq_true rfl, Nat.le_of_ble_eq_true rfl⟩ rfl dX3_mean_32 (fun r_32 e_32 => ?_)
    have e_32 : r_32 = smE st (r * 480 + w * 80 + 1 * 4) (cE 1 * 4 - 1 * 4) := e_32
    subst e_32
    refine lv_i2f hx hb dX3_mean_35 ?_
    refine lv_iload_n hx hb dX3_mean_36 rfl (lv_at hl 0 rfl) ?_
    refine lv_i2f hx hb dX3_mean_37 ?_
    refine lv_fdiv hx hb dX3_mean_38 (fl_n32 (fl_mean _ c_20 (by omega))) ?_
    exact hE () dX3_mean_39 (Nat.le_of_ble_eq_true rfl) (Nat.le_of_ble_eq_true rfl) ⟨⟨hw.1.1, fun k q hk => by cases hk⟩, hw.2.1, hw.2.2.1, hw.2.2.2⟩ (show FP.fdiv (FP.i2f (smE st (r * 480 + w * 80 + 1 * 4) (cE 1 * 4 - 1 * 4))) (FP.i2f (nI (cntE st.1 (r * 480 + w * 80 + 1 * 4) (cE 1 * 4 - 1 * 4)))) = mnF (cntE st.1 (r * 480 + w * 80 + 1 * 4) (cE 1 * 4 - 1 * 4)) (smE st (r * 480 + w * 80 + 1 * 4) (cE 1 * 4 - 1 * 4)) from mnF_p _ c_20)
  ·
    refine lv_fconst0 hx hb dX3_mean_23 ?_
    exact hE () dX3_mean_24 (Nat.le_of_ble_eq_true rfl) (Nat.le_of_ble_eq_true rfl) ⟨⟨hw.1.1, fun k q hk => by cases hk⟩, hw.2.1, hw.2.2.1, hw.2.2.2⟩ (show FP.fconst0 = mnF (cntE st.1 (r * 480 + w * 80 + 1 * 4) (cE 1 * 4 - 1 * 4)) (smE st (r * 480 + w * 80 + 1 * 4) (cE 1 * 4 - 1 * 4)) from mnF_0 _ c_20)
abbrev rmX4_mean_v : Room := { frames := 3, cells := 0, slots := 0, locals := 73 }
set_option maxHeartbeats 4000000 in
set_option maxRecDepth 100000 in
theorem c_X4_mean_v (l : Launch) (D : va_G) (sz : Nat) (cI : ClassId) (m9 : Nat → Nat) (sa : Nat → Int32) (tx : Nat → Nat) (th : Int32) (sv ln po : Nat) (lt fi sc nu : Int32) (ad rv : Nat) (r w : Nat) (hr : r < 4) (hw5 : w < 6) : MUf l yX4_mean wsX4_mean rmX4_mean_v [.ref (m9 0), .int (nI r), .int (nI w)] D [(cI, .int)] (wM cI m9 sa tx th sv ln po lt fi sc nu ad rv) sz (fun rz (u9 : Unit) => rz = mnF (enM sa r w 1 4) (smM sa r w 1 4)) (fun u9 => []) (fun u9 => wM cI m9 sa tx (nI 0) sv ln po lt fi sc nu ad rv) 0 0 := by
  refine met_uf (own := RX4) (cc := cX4_mean) (maxL := 4) (by decide) rfl rfl (Nat.le_of_ble_eq_true rfl) ?_
  intro p e s m args below meth c Q A hsz S hw hA hE ls hl
  obtain ⟨hx, hb, hml, hown, hts⟩ := id S
  have hl : lv_has ls 4 [(0, .ref (m9 0)), (1, .int (nI r)), (2, .int (nI w))] := hl
  have hen := enM_le sa r w 1 4
  refine lv_aload_n hx hb dX4_mean_0 rfl (lv_at hl 0 rfl) ?_
  refine lv_iload_n hx hb dX4_mean_1 rfl (lv_at hl 1 rfl) ?_
  refine lv_iload_n hx hb dX4_mean_2 rfl (lv_at hl 2 rfl) ?_
  refine cq_S (As := [.int (nI r), .int (nI w)]) (rest := [.ref (m9 0)]) S (c_X4_isRow l D (x := nI r) (y := nI w)) (va_cwS 2 hts gX4_mean_X4_isRow rfl rfl rfl (by decide +kernel) ⟨Nat.le_of_ble_eq_true rfl, Nat.le_of_ble_eq_true rfl⟩) (hw.q.sub [] [] rfl rfl) rfl hl.1 (Nat.le_of_ble_eq_true rfl) ⟨Nat.le_of_ble_eq_true rfl, Nat.le_of_ble_eq_true rfl⟩ rfl dX4_mean_3 (fun r_3 e_3 => ?_)
  have e_3 : r_3 = b2 (inP (nI r) (nI 0) (nI 3) ∧ inP (nI w) (nI 0) (nI 5)) := e_3
  subst e_3
  refine r_if_eqB (tgt := 13) hx hb dX4_mean_6 (by decide) (fun h => absurd (rowP_n hr hw5) h) (fun _ => ?_)
  refine lv_iconst (v := nI 0) hx hb dX4_mean_9 kc_iconst_0 ?_
  refine lv_goto (tgt := 14) hx hb dX4_mean_10 (by decide) ?_
  refine cu_Vi (As := [.int (nI 0)]) (rest := []) (wc := wM cI m9 sa tx th sv ln po lt fi sc nu ad rv) (wr := []) S (c_X4_holds l D (sz := s.heap.size) (cI := cI) (m9 := m9) (sa := sa) (tx := tx) (th := th) (sv := sv) (ln := ln) (po := po) (lt := lt) (fi := fi) (sc := sc) (nu := nu) (ad := ad) (rv := rv) (x := nI 0)) (cwV 1 hts gX4_mean_X4_holds rfl rfl rfl (by decide +kernel) ⟨Nat.le_of_ble_eq_true rfl, Nat.le_of_ble_eq_true rfl⟩) hw hA [0, 1, 2] [] [0] rfl rfl rfl (by decide) (by decide) (by decide) 0 rfl rfl rfl hl.1 (Nat.le_of_ble_eq_true rfl) ⟨Nat.le_of_ble_eq_true rfl, Nat.le_of_ble_eq_true rfl⟩ rfl dX4_mean_14 (fun r_14 u_14 H locs e_14 hw => ?_)
  have hw : Wd D A [(cI, .int)] (wM cI m9 sa tx (nI 0) sv ln po lt fi sc nu ad rv) s s.heap H locs := hw
  have e_14 : r_14 = b2 ((nI 0) = 0) := e_14
  subst e_14
  refine r_if_neB (tgt := 22) hx hb dX4_mean_17 (by decide) (fun _ => ?_) (fun h => absurd (rfl) h)
  refine lv_aload_n hx hb dX4_mean_22 rfl (lv_at hl 0 rfl) ?_
  refine lv_iload_n hx hb dX4_mean_23 rfl (lv_at hl 1 rfl) ?_
  refine lv_iload_n hx hb dX4_mean_24 rfl (lv_at hl 2 rfl) ?_
  refine lv_iconst (v := nI 1) hx hb dX4_mean_25 kc_iconst_1 ?_
  refine cq_V (As := [.int (nI r), .int (nI w), .int (nI 1)]) (rest := []) S (c_X4_entriesOf l D (cI := cI) (m9 := m9) (sa := sa) (tx := tx) (th := (nI 0)) (sv := sv) (ln := ln) (po := po) (lt := lt) (fi := fi) (sc := sc) (nu := nu) (ad := ad) (rv := rv) (r := r) (w := w) (c9 := 1) (hr := by omega) (hw5 := by omega) (hc := by omega)) (cwV 3 hts gX4_mean_X4_entriesOf rfl rfl rfl (by decide +kernel) ⟨Nat.le_of_ble_eq_true rfl, Nat.le_of_ble_eq_true rfl⟩) (hw.q.sub [0, 1, 2] [0] rfl rfl) 0 rfl rfl rfl hl.1 (Nat.le_of_ble_eq_true rfl) ⟨Nat.le_of_ble_eq_true rfl, Nat.le_of_ble_eq_true rfl⟩ rfl dX4_mean_26 (fun r_26 e_26 => ?_)
  have e_26 : r_26 = nI (enM sa r w 1 4) := e_26
  subst e_26
  refine lv_istore_n (lv' := [(3, .int (nI (enM sa r w 1 4))), (0, .ref (m9 0)), (1, .int (nI r)), (2, .int (nI w))]) hx hb dX4_mean_29 rfl hl (by decide) rfl (fun ls hl => ?_)
  refine lv_iload_n hx hb dX4_mean_30 rfl (lv_at hl 0 rfl) ?_
  refine r_if_neN (tgt := 38) hx hb (by omega) dX4_mean_31 (by decide) (fun c_31 => ?_) (fun c_31 => ?_)
  ·
    refine lv_aload_n hx hb dX4_mean_38 rfl (lv_at hl 1 rfl) ?_
    refine lv_iload_n hx hb dX4_mean_39 rfl (lv_at hl 2 rfl) ?_
    refine lv_iload_n hx hb dX4_mean_40 rfl (lv_at hl 3 rfl) ?_
    refine lv_iconst (v := nI 1) hx hb dX4_mean_41 kc_iconst_1 ?_
    refine cq_V (As := [.int (nI r), .int (nI w), .int (nI 1)]) (rest := []) S (c_X4_sumOf l D (cI := cI) (m9 := m9) (sa := sa) (tx := tx) (th := (nI 0)) (sv := sv) (ln := ln) (po := po) (lt := lt) (fi := fi) (sc := sc) (nu := nu) (ad := ad) (rv := rv) (r := r) (w := w) (c9 := 1) (hr := by omega) (hw5 := by omega) (hc := by omega)) (cwV 3 hts gX4_mean_X4_sumOf rfl rfl rfl (by decide +kernel) ⟨Nat.le_of_ble_eq_true rfl, Nat.le_of_ble_eq_true rfl⟩) (hw.q.sub [0, 1, 2] [0] rfl rfl) 0 rfl rfl rfl hl.1 (Nat.le_of_ble_eq_true rfl) ⟨Nat.le_of_ble_eq_true rfl, Nat.le_of_ble_eq_true rfl⟩ rfl dX4_mean_42 (fun r_42 e_42 => ?_)
    have e_42 : r_42 = smM sa r w 1 4 := e_42
    subst e_42
    refine lv_i2f hx hb dX4_mean_45 ?_
    refine lv_iload_n hx hb dX4_mean_46 rfl (lv_at hl 0 rfl) ?_
    refine lv_i2f hx hb dX4_mean_47 ?_
    refine lv_fdiv hx hb dX4_mean_48 (fl_n32 (fl_mean _ c_31 (by omega))) ?_
    exact hE () dX4_mean_49 (Nat.le_of_ble_eq_true rfl) (Nat.le_of_ble_eq_true rfl) (hw.sub [0, 1, 2] [] (by decide) rfl rfl) (show FP.fdiv (FP.i2f (smM sa r w 1 4)) (FP.i2f (nI (enM sa r w 1 4))) = mnF (enM sa r w 1 4) (smM sa r w 1 4) from mnF_p _ c_31)
  ·
    refine lv_fconst0 hx hb dX4_mean_34 ?_
    refine lv_goto (tgt := 49) hx hb dX4_mean_35 (by decide) ?_
    exact hE () dX4_mean_49 (Nat.le_of_ble_eq_true rfl) (Nat.le_of_ble_eq_true rfl) (hw.sub [0, 1, 2] [] (by decide) rfl rfl) (show FP.fconst0 = mnF (enM sa r w 1 4) (smM sa r w 1 4) from mnF_0 _ c_31)
abbrev rmX4_mean_e1 : Room := { frames := 3, cells := 0, slots := 0, locals := 63 }
set_option maxHeartbeats 4000000 in
set_option maxRecDepth 100000 in
theorem c_X4_mean_e1 (l : Launch) (D : va_G) (sz : Nat) (cI : ClassId) (m9 : Nat → Nat) (sa : Nat → Int32) (tx : Nat → Nat) (th : Int32) (sv ln po : Nat) (lt fi sc nu : Int32) (ad rv : Nat) (p0 p1 : Int32) (hv : ¬ (inP p0 (nI 0) (nI 3) ∧ inP p1 (nI 0) (nI 5))) : MUf l yX4_mean wsX4_mean rmX4_mean_e1 [.ref (m9 0), .int p0, .int p1] D [(cI, .int)] (wM cI m9 sa tx th sv ln po lt fi sc nu ad rv) sz (fun rz (u9 : Unit) => rz = FP.fconst0) (fun u9 => []) (fun u9 => wM cI m9 sa tx (nI 1) sv ln po lt fi sc nu ad rv) 0 0 := by
  refine met_uf (own := RX4) (cc := cX4_mean) (maxL := 4) (by decide) rfl rfl (Nat.le_of_ble_eq_true rfl) ?_
  intro p e s m args below meth c Q A hsz S hw hA hE ls hl
  obtain ⟨hx, hb, hml, hown, hts⟩ := id S
  have hl : lv_has ls 4 [(0, .ref (m9 0)), (1, .int p0), (2, .int p1)] := hl
  refine lv_aload_n hx hb dX4_mean_0 rfl (lv_at hl 0 rfl) ?_
  refine lv_iload_n hx hb dX4_mean_1 rfl (lv_at hl 1 rfl) ?_
  refine lv_iload_n hx hb dX4_mean_2 rfl (lv_at hl 2 rfl) ?_
  refine cq_S (As := [.int p0, .int p1]) (rest := [.ref (m9 0)]) S (c_X4_isRow l D (x := p0) (y := p1)) (va_cwS 2 hts gX4_mean_X4_isRow rfl rfl rfl (by decide +kernel) ⟨Nat.le_of_ble_eq_true rfl, Nat.le_of_ble_eq_true rfl⟩) (hw.q.sub [] [] rfl rfl) rfl hl.1 (Nat.le_of_ble_eq_true rfl) ⟨Nat.le_of_ble_eq_true rfl, Nat.le_of_ble_eq_true rfl⟩ rfl dX4_mean_3 (fun r_3 e_3 => ?_)
  have e_3 : r_3 = b2 (inP p0 (nI 0) (nI 3) ∧ inP p1 (nI 0) (nI 5)) := e_3
  subst e_3
  refine r_if_eqB (tgt := 13) hx hb dX4_mean_6 (by decide) (fun _ => ?_) (fun h => absurd h (hv))
  refine lv_iconst (v := nI 1) hx hb dX4_mean_13 kc_iconst_1 ?_
  refine cu_Vi (As := [.int (nI 1)]) (rest := []) (wc := wM cI m9 sa tx th sv ln po lt fi sc nu ad rv) (wr := []) S (c_X4_holds l D (sz := s.heap.size) (cI := cI) (m9 := m9) (sa := sa) (tx := tx) (th := th) (sv := sv) (ln := ln) (po := po) (lt := lt) (fi := fi) (sc := sc) (nu := nu) (ad := ad) (rv := rv) (x := nI 1)) (cwV 1 hts gX4_mean_X4_holds rfl rfl rfl (by decide +kernel) ⟨Nat.le_of_ble_eq_true rfl, Nat.le_of_ble_eq_true rfl⟩) hw hA [0, 1, 2] [] [0] rfl rfl rfl (by decide) (by decide) (by decide) 0 rfl rfl rfl hl.1 (Nat.le_of_ble_eq_true rfl) ⟨Nat.le_of_ble_eq_true rfl, Nat.le_of_ble_eq_true rfl⟩ rfl dX4_mean_14 (fun r_14 u_14 H locs e_14 hw => ?_)
  have hw : Wd D A [(cI, .int)] (wM cI m9 sa tx (nI 1) sv ln po lt fi sc nu ad rv) s s.heap H locs := hw
  have e_14 : r_14 = b2 ((nI 1) = 0) := e_14
  subst e_14
  refine r_if_neB (tgt := 22) hx hb dX4_mean_17 (by decide) (fun h => absurd h (by decide)) (fun _ => ?_)
  refine lv_fconst0 hx hb dX4_mean_20 ?_
  exact hE () dX4_mean_21 (Nat.le_of_ble_eq_true rfl) (Nat.le_of_ble_eq_true rfl) (hw.sub [0, 1, 2] [] (by decide) rfl rfl) (show FP.fconst0 = FP.fconst0 from rfl)
def agJ (st : St) (w : Nat) : Nat → Nat
  | 0 => 0
  | k + 1 => agJ st w k + if agP st w k then 1 else 0
def agW (st : St) : Nat → Nat
  | 0 => 0
  | k + 1 => agW st k + agJ st k 5
theorem agJ_le (st : St) (w : Nat) : ∀ n, agJ st w n ≤ n
  | 0 => Nat.le_refl 0
  | n + 1 => by
    have := agJ_le st w n
    unfold agJ; split <;> omega
theorem agW_le (st : St) : ∀ n, agW st n ≤ 5 * n
  | 0 => Nat.le_refl 0
  | n + 1 => by
    have h1 := agW_le st n
    have h2 := agJ_le st n 5
    unfold agW; omega
theorem agJ_p {st : St} {w k : Nat} (h : agP st w k) : agJ st w k + 1 = agJ st w (k + 1) := by rw [agJ, if_pos h]
theorem agJ_n {st : St} {w k : Nat} (h : ¬ agP st w k) : agJ st w k = agJ st w (k + 1) := by rw [agJ, if_neg h]; rfl
theorem agM_p {sa : Nat → Int32} {k : Nat} (h1 : liM sa 1 (k / 5) (k % 5) 64) (h2 : liM sa 2 (k / 5) (k % 5) 64) (h3 : liM sa 3 (k / 5) (k % 5) 64) : agM sa k + 1 = agM sa (k + 1) := by rw [agM, if_pos ⟨h1, h2, h3⟩]
theorem agM_1 {sa : Nat → Int32} {k : Nat} (h : ¬ liM sa 1 (k / 5) (k % 5) 64) : agM sa k + 0 = agM sa (k + 1) := by rw [agM, if_neg (fun z => h z.1)]
theorem agM_2 {sa : Nat → Int32} {k : Nat} (h : ¬ liM sa 2 (k / 5) (k % 5) 64) : agM sa k + 0 = agM sa (k + 1) := by rw [agM, if_neg (fun z => h z.2.1)]
theorem agM_3 {sa : Nat → Int32} {k : Nat} (h : ¬ liM sa 3 (k / 5) (k % 5) 64) : agM sa k + 0 = agM sa (k + 1) := by rw [agM, if_neg (fun z => h z.2.2)]
abbrev rmX3_agreement : Room := { frames := 3, cells := 0, slots := 0, locals := 69 }
set_option maxHeartbeats 4000000 in
set_option maxRecDepth 100000 in
theorem c_X3_agreement (l : Launch) (D : va_G) (sz : Nat) (cI cR cC : ClassId) (x9 : Nat) (q : Nat → Nat) (st : St) (h9 : Nat → Nat) (ad : Nat → Nat → Nat) (sv : Nat → St) (ol n7 n8 : Nat) (t9 : Nat → Nat) (tx : Nat → Nat) (ln po : Nat) (ki rp tg nu : Int32) (hh : hI ol n7 n8) : MXd l yX3_agreement wsX3_agreement rmX3_agreement [.ref x9] D [(cI, .int), (cR, .object RX1), (cC, .char)] ([(x9, .inr (3, [.ref (q 0), .ref (h9 0), .ref (t9 0)]))] ++ wS cI q st ++ wR cR h9 (fr7 ad n8) ol n7 ++ wT cC t9 tx ln po ki rp tg nu ++ wP cI ad sv n8) sz (fun rz (u9 : Unit) => rz = agF (agW st 6)) (fun u9 => []) (fun u9 => [(x9, .inr (3, [.ref (q 0), .ref (h9 0), .ref (t9 0)]))] ++ wS cI q st ++ wR cR h9 (fr7 ad n8) ol n7 ++ wT cC t9 tx ln po ki rp tg nu ++ wP cI ad sv n8) 0 0 := by
  refine met_xd (own := RX3) (cc := cX3_agreement) (maxL := 4) (by decide) rfl rfl (Nat.le_of_ble_eq_true rfl) ?_
  intro p e s m args below meth c Q A hsz S hz hw hA hE ls hl
  obtain ⟨hx, hb, hml, hown, hts⟩ := id S
  have cd162 := hts (.constantDouble RX3 162 (4629137466983448576 : UInt64)) (by decide +kernel)
  have k10 := hts (.fieldLink RX3 10 "CausalTable" "state" "LCausalTable$State;") (by decide +kernel)
  have hin3 := (show ∀ w ∈ wsX30, w ∈ wsX3_agreement by decide +kernel)
  have hl : lv_has ls 4 [(0, .ref x9)] := hl
  refine lv_iconst (v := nI 0) hx hb dX3_agreement_0 kc_iconst_0 ?_
  refine lv_istore_n (lv' := [(1, .int (nI 0)), (0, .ref x9)]) hx hb dX3_agreement_1 rfl hl (by decide) rfl (fun ls hl => ?_)
  refine lv_iconst (v := nI 0) hx hb dX3_agreement_2 kc_iconst_0 ?_
  refine lv_istore_n (lv' := [(2, .int (nI 0)), (1, .int (nI 0)), (0, .ref x9)]) hx hb dX3_agreement_3 rfl hl (by decide) rfl (fun ls hl => ?_)
  have L4_1 : ∀ (fu_2 k : Nat), k ≤ 6 → 6 - k < fu_2 → ∀ ls : Array Slot, lv_has ls 4 [(2, .int (nI k)), (1, .int (nI (agW st k))), (0, .ref x9)] → W p l e rmX3_agreement s m args below meth c s.heap [] 0 0 Q (F0 m 4 ls []) := by
    intro fu_2
    induction fu_2 with
    | zero => intro k _ h9; exact absurd h9 (Nat.not_lt_zero _)
    | succ fu_2 ih_4 =>
      intro k hk_4 hf_4 ls hl
      have h8 := agW_le st k
      refine lv_iload_n hx hb dX3_agreement_4 rfl (lv_at hl 0 rfl) ?_
      refine lv_bipush (v := nI 6) hx hb dX3_agreement_5 kc_bipush_6 ?_
      refine r_icmp_geN (tgt := 44) hx hb (by omega) (by omega) dX3_agreement_7 (by decide) (fun c_7 => ?_) (fun c_7 => ?_)
      ·
        have hk6 : k = 6 := by omega
        refine lv_iload_n hx hb dX3_agreement_44 rfl (lv_at hl 1 rfl) ?_
        refine lv_i2d hx hb dX3_agreement_45 ?_
        refine lv_ldc2d (v := d30) hx hb hown cd162 dX3_agreement_46 ?_
        refine lv_ddiv hx hb dX3_agreement_49 (fl_n64 (fl_agr _)) ?_
        exact hE () dX3_agreement_50 (Nat.le_of_ble_eq_true rfl) (Nat.le_of_ble_eq_true rfl) ⟨⟨hw.1.1, fun k q hk => by cases hk⟩, hw.2.1, hw.2.2.1, hw.2.2.2⟩ (show FP.ddiv (FP.i2d (nI (agW st k))) d30 = agF (agW st 6) from by rw [hk6]; rfl)
      ·
        refine lv_iconst (v := nI 0) hx hb dX3_agreement_10 kc_iconst_0 ?_
        refine lv_istore_n (lv' := [(3, .int (nI 0)), (2, .int (nI k)), (1, .int (nI (agW st k))), (0, .ref x9)]) hx hb dX3_agreement_11 rfl hl (by decide) rfl (fun ls hl => ?_)
        have L12_3 : ∀ (fu_4 j : Nat), j ≤ 5 → 5 - j < fu_4 → ∀ ls : Array Slot, lv_has ls 4 [(3, .int (nI j)), (2, .int (nI k)), (1, .int (nI (agW st k + agJ st k j))), (0, .ref x9)] → W p l e rmX3_agreement s m args below meth c s.heap [] 0 0 Q (F0 m 12 ls []) := by
          intro fu_4
          induction fu_4 with
          | zero => intro j _ h9; exact absurd h9 (Nat.not_lt_zero _)
          | succ fu_4 ih_12 =>
            intro j hk_12 hf_12 ls hl
            have h9 := agJ_le st k j
            refine lv_iload_n hx hb dX3_agreement_12 rfl (lv_at hl 0 rfl) ?_
            refine lv_iconst (v := nI 5) hx hb dX3_agreement_13 kc_iconst_5 ?_
            refine r_icmp_geN (tgt := 38) hx hb (by omega) (by omega) dX3_agreement_14 (by decide) (fun c_14 => ?_) (fun c_14 => ?_)
            ·
              have hj5 : j = 5 := by omega
              have h7 : agW st k + agJ st k j = agW st (k + 1) := by rw [hj5, agW]
              refine lv_iinc (v := nI (k + 1)) (lv' := [(2, .int (nI (k + 1))), (3, .int (nI j)), (1, .int (nI (agW st k + agJ st k j))), (0, .ref x9)]) hx hb dX3_agreement_38 hl (k := 1) rfl (nI_add k 1) (by decide) rfl (fun ls hl => ?_)
              refine lv_goto (tgt := 4) hx hb dX3_agreement_41 (by decide) ?_
              have hl : lv_has ls 4 [(2, .int (nI (k + 1))), (1, .int (nI (agW st k + agJ st k j))), (0, .ref x9)] := lv_sub hl [0, 2, 3] rfl
              have hl : lv_has ls 4 [(2, .int (nI (k + 1))), (1, .int (nI (agW st (k + 1)))), (0, .ref x9)] := lv_rep hl 1 rfl (congrArg (fun z => Value.int (nI z)) (show agW st k + agJ st k j = agW st (k + 1) from by omega))
              exact ih_4 (k + 1) (by omega) (by omega) ls hl
            ·
              refine lv_aload_n hx hb dX3_agreement_17 rfl (lv_at hl 3 rfl) ?_
              refine r_get hx hb hts hown hw.q 0 0 hin3 rfl rfl (by decide) k10 rfl dX3_agreement_18 ?_
              refine lv_iload_n hx hb dX3_agreement_21 rfl (lv_at hl 1 rfl) ?_
              refine lv_iload_n hx hb dX3_agreement_22 rfl (lv_at hl 0 rfl) ?_
              refine cq_V (As := [.int (nI k), .int (nI j)]) (rest := []) S (c_X1_isAgreed l D (cI := cI) (q := q) (st := st) (w := k) (g := j) (hw5 := by omega) (hg := by omega)) (cwV 2 hts gX3_agreement_X1_isAgreed rfl rfl rfl (by decide +kernel) ⟨Nat.le_of_ble_eq_true rfl, Nat.le_of_ble_eq_true rfl⟩) (hw.q.sub [1, 2, 3, 4, 5, 6, 7] [0] rfl rfl) 0 rfl rfl rfl hl.1 (Nat.le_of_ble_eq_true rfl) ⟨Nat.le_of_ble_eq_true rfl, Nat.le_of_ble_eq_true rfl⟩ rfl dX3_agreement_23 (fun r_23 e_23 => ?_)
              have e_23 : r_23 = b2 (agP st k j) := e_23
              subst e_23
              refine r_if_eqB (tgt := 32) hx hb dX3_agreement_26 (by decide) (fun c_26 => ?_) (fun c_26 => ?_)
              ·
                refine lv_iinc (v := nI (j + 1)) (lv' := [(3, .int (nI (j + 1))), (2, .int (nI k)), (1, .int (nI (agW st k + agJ st k j))), (0, .ref x9)]) hx hb dX3_agreement_32 hl (k := 0) rfl (nI_add j 1) (by decide) rfl (fun ls hl => ?_)
                refine lv_goto (tgt := 12) hx hb dX3_agreement_35 (by decide) ?_
                have hl : lv_has ls 4 [(3, .int (nI (j + 1))), (2, .int (nI k)), (1, .int (nI (agW st k + agJ st k j))), (0, .ref x9)] := lv_sub hl [0, 1, 2, 3] rfl
                have hl : lv_has ls 4 [(3, .int (nI (j + 1))), (2, .int (nI k)), (1, .int (nI (agW st k + agJ st k (j + 1)))), (0, .ref x9)] := lv_rep hl 2 rfl (congrArg (fun z => Value.int (nI z)) (show agW st k + agJ st k j = agW st k + agJ st k (j + 1) from by rw [← agJ_n c_26]))
                exact ih_12 (j + 1) (by omega) (by omega) ls hl
              ·
                refine lv_iinc (v := nI ((agW st k + agJ st k j) + 1)) (lv' := [(1, .int (nI ((agW st k + agJ st k j) + 1))), (3, .int (nI j)), (2, .int (nI k)), (0, .ref x9)]) hx hb dX3_agreement_29 hl (k := 2) rfl (nI_add (agW st k + agJ st k j) 1) (by decide) rfl (fun ls hl => ?_)
                refine lv_iinc (v := nI (j + 1)) (lv' := [(3, .int (nI (j + 1))), (1, .int (nI ((agW st k + agJ st k j) + 1))), (2, .int (nI k)), (0, .ref x9)]) hx hb dX3_agreement_32 hl (k := 1) rfl (nI_add j 1) (by decide) rfl (fun ls hl => ?_)
                refine lv_goto (tgt := 12) hx hb dX3_agreement_35 (by decide) ?_
                have hl : lv_has ls 4 [(3, .int (nI (j + 1))), (2, .int (nI k)), (1, .int (nI ((agW st k + agJ st k j) + 1))), (0, .ref x9)] := lv_sub hl [0, 2, 1, 3] rfl
                have hl : lv_has ls 4 [(3, .int (nI (j + 1))), (2, .int (nI k)), (1, .int (nI (agW st k + agJ st k (j + 1)))), (0, .ref x9)] := lv_rep hl 2 rfl (congrArg (fun z => Value.int (nI z)) (show (agW st k + agJ st k j) + 1 = agW st k + agJ st k (j + 1) from by rw [← agJ_p c_26, Nat.add_assoc]))
                exact ih_12 (j + 1) (by omega) (by omega) ls hl
        have hl : lv_has ls 4 [(3, .int (nI 0)), (2, .int (nI k)), (1, .int (nI (agW st k))), (0, .ref x9)] := lv_sub hl [0, 1, 2, 3] rfl
        have hl : lv_has ls 4 [(3, .int (nI 0)), (2, .int (nI k)), (1, .int (nI (agW st k + agJ st k 0))), (0, .ref x9)] := lv_rep hl 2 rfl (congrArg (fun z => Value.int (nI z)) (show agW st k = agW st k + agJ st k 0 from rfl))
        exact L12_3 (5 + 1) (0) (by omega) (by omega) ls hl
  have hl : lv_has ls 4 [(2, .int (nI 0)), (1, .int (nI 0)), (0, .ref x9)] := lv_sub hl [0, 1, 2] rfl
  have hl : lv_has ls 4 [(2, .int (nI 0)), (1, .int (nI (agW st 0))), (0, .ref x9)] := lv_rep hl 1 rfl (congrArg (fun z => Value.int (nI z)) (show 0 = agW st 0 from rfl))
  exact L4_1 (6 + 1) (0) (by omega) (by omega) ls hl
abbrev rmX4_agreement : Room := { frames := 3, cells := 0, slots := 0, locals := 74 }
set_option maxHeartbeats 4000000 in
set_option maxRecDepth 100000 in
theorem c_X4_agreement (l : Launch) (D : va_G) (sz : Nat) (cI : ClassId) (m9 : Nat → Nat) (sa : Nat → Int32) (tx : Nat → Nat) (th : Int32) (sv ln po : Nat) (lt fi sc nu : Int32) (ad rv : Nat) : MUd l yX4_agreement wsX4_agreement rmX4_agreement [.ref (m9 0)] D [(cI, .int)] (wM cI m9 sa tx th sv ln po lt fi sc nu ad rv) sz (fun rz (u9 : Unit) => rz = agF (agM sa 30)) (fun u9 => []) (fun u9 => wM cI m9 sa tx (nI 0) sv ln po lt fi sc nu ad rv) 0 0 := by
  refine met_ud (own := RX4) (cc := cX4_agreement) (maxL := 5) (by decide) rfl rfl (Nat.le_of_ble_eq_true rfl) ?_
  intro p e s m args below meth c Q A hsz S hw hA hE ls hl
  obtain ⟨hx, hb, hml, hown, hts⟩ := id S
  have k16 := hts (.fieldLink RX4 16 "CausalTableModel" "thrown" "I") (by decide +kernel)
  have hin4 := (show ∀ w ∈ wsX40, w ∈ wsX4_agreement by decide +kernel)
  have cd181 := hts (.constantDouble RX4 181 (4629137466983448576 : UInt64)) (by decide +kernel)
  have hl : lv_has ls 5 [(0, .ref (m9 0))] := hl
  refine lv_aload_n hx hb dX4_agreement_0 rfl (lv_at hl 0 rfl) ?_
  refine lv_iconst (v := nI 0) hx hb dX4_agreement_1 kc_iconst_0 ?_
  refine r_put hx hb hts hown hw 0 0 (ty := .int) tyX4 tyX4_ok nmX4 hin4 rfl rfl (by decide) k16 rfl (by decide +kernel) rfl rfl (Nat.le_of_ble_eq_true rfl) dX4_agreement_2 (fun H locs hw => ?_)
  have hw : Wd D A [(cI, .int)] (wM cI m9 sa tx (nI 0) sv ln po lt fi sc nu ad rv) s s.heap H locs := hw
  refine lv_iconst (v := nI 0) hx hb dX4_agreement_5 kc_iconst_0 ?_
  refine lv_istore_n (lv' := [(1, .int (nI 0)), (0, .ref (m9 0))]) hx hb dX4_agreement_6 rfl hl (by decide) rfl (fun ls hl => ?_)
  refine lv_iconst (v := nI 0) hx hb dX4_agreement_7 kc_iconst_0 ?_
  refine lv_istore_n (lv' := [(2, .int (nI 0)), (1, .int (nI 0)), (0, .ref (m9 0))]) hx hb dX4_agreement_8 rfl hl (by decide) rfl (fun ls hl => ?_)
  have L9_1 : ∀ (fu_2 k : Nat), k ≤ 30 → 30 - k < fu_2 → ∀ ls : Array Slot, lv_has ls 5 [(2, .int (nI k)), (1, .int (nI (agM sa k))), (0, .ref (m9 0))] → W p l e rmX4_agreement s m args below meth c H locs 0 0 Q (F0 m 9 ls []) := by
    intro fu_2
    induction fu_2 with
    | zero => intro k _ h9; exact absurd h9 (Nat.not_lt_zero _)
    | succ fu_2 ih_9 =>
      intro k hk_9 hf_9 ls hl
      refine lv_iload_n hx hb dX4_agreement_9 rfl (lv_at hl 0 rfl) ?_
      refine lv_bipush (v := nI 30) hx hb dX4_agreement_10 kc_bipush_30 ?_
      refine r_icmp_geN (tgt := 71) hx hb (by omega) (by omega) dX4_agreement_12 (by decide) (fun c_12 => ?_) (fun c_12 => ?_)
      ·
        refine lv_iload_n hx hb dX4_agreement_71 rfl (lv_at hl 1 rfl) ?_
        refine lv_i2d hx hb dX4_agreement_72 ?_
        refine lv_ldc2d (v := d30) hx hb hown cd181 dX4_agreement_73 ?_
        refine lv_ddiv hx hb dX4_agreement_76 (fl_n64 (fl_agr _)) ?_
        exact hE () dX4_agreement_77 (Nat.le_of_ble_eq_true rfl) (Nat.le_of_ble_eq_true rfl) (hw.sub [0, 1, 2] [] (by decide) rfl rfl) (show FP.ddiv (FP.i2d (nI (agM sa k))) d30 = agF (agM sa 30) from by rw [show k = 30 by omega]; rfl)
      ·
        refine lv_iload_n hx hb dX4_agreement_15 rfl (lv_at hl 0 rfl) ?_
        refine lv_iconst (v := nI 5) hx hb dX4_agreement_16 kc_iconst_5 ?_
        refine r_divN hx hb (by omega) (by omega) (by omega) dX4_agreement_17 ?_
        refine lv_istore_n (lv' := [(3, .int (nI (k / 5))), (2, .int (nI k)), (1, .int (nI (agM sa k))), (0, .ref (m9 0))]) hx hb dX4_agreement_18 rfl hl (by decide) rfl (fun ls hl => ?_)
        refine lv_iload_n hx hb dX4_agreement_19 rfl (lv_at hl 1 rfl) ?_
        refine lv_iconst (v := nI 5) hx hb dX4_agreement_20 kc_iconst_5 ?_
        refine r_remN hx hb (by omega) (by omega) (by omega) dX4_agreement_21 ?_
        refine lv_istore (lv' := [(4, .int (nI (k % 5))), (3, .int (nI (k / 5))), (2, .int (nI k)), (1, .int (nI (agM sa k))), (0, .ref (m9 0))]) hx hb dX4_agreement_22 hl (by decide) rfl (fun ls hl => ?_)
        refine lv_iload_n hx hb dX4_agreement_24 rfl (lv_at hl 3 rfl) ?_
        refine lv_aload_n hx hb dX4_agreement_25 rfl (lv_at hl 4 rfl) ?_
        refine lv_iconst (v := nI 1) hx hb dX4_agreement_26 kc_iconst_1 ?_
        refine lv_iload_n hx hb dX4_agreement_27 rfl (lv_at hl 1 rfl) ?_
        refine lv_iload hx hb dX4_agreement_28 (lv_at hl 0 rfl) ?_
        refine cq_V (As := [.int (nI 1), .int (nI (k / 5)), .int (nI (k % 5))]) (rest := [.int (nI (agM sa k))]) S (c_X4_isLike l D (cI := cI) (m9 := m9) (sa := sa) (tx := tx) (th := nI 0) (sv := sv) (ln := ln) (po := po) (lt := lt) (fi := fi) (sc := sc) (nu := nu) (ad := ad) (rv := rv) (r := 1) (w := k / 5) (c9 := k % 5) (hr := by omega) (hw5 := by omega) (hc := by omega)) (cwV 3 hts gX4_agreement_X4_isLike rfl rfl rfl (by decide +kernel) ⟨Nat.le_of_ble_eq_true rfl, Nat.le_of_ble_eq_true rfl⟩) (hw.q.sub [0, 1, 2] [0] rfl rfl) 0 rfl rfl rfl hl.1 (Nat.le_of_ble_eq_true rfl) ⟨Nat.le_of_ble_eq_true rfl, Nat.le_of_ble_eq_true rfl⟩ rfl dX4_agreement_30 (fun r_30 e_30 => ?_)
        have e_30 : r_30 = b2 (liM sa 1 (k / 5) (k % 5) 64) := e_30
        subst e_30
        refine r_if_eqB (tgt := 62) hx hb dX4_agreement_33 (by decide) (fun c_33 => ?_) (fun c_33 => ?_)
        ·
          refine lv_iconst (v := nI 0) hx hb dX4_agreement_62 kc_iconst_0 ?_
          refine r_addN hx hb dX4_agreement_63 ?_
          refine lv_istore_n (lv' := [(1, .int (nI ((agM sa k) + 0))), (4, .int (nI (k % 5))), (3, .int (nI (k / 5))), (2, .int (nI k)), (0, .ref (m9 0))]) hx hb dX4_agreement_64 rfl hl (by decide) rfl (fun ls hl => ?_)
          refine lv_iinc (v := nI (k + 1)) (lv' := [(2, .int (nI (k + 1))), (1, .int (nI ((agM sa k) + 0))), (4, .int (nI (k % 5))), (3, .int (nI (k / 5))), (0, .ref (m9 0))]) hx hb dX4_agreement_65 hl (k := 3) rfl (nI_add k 1) (by decide) rfl (fun ls hl => ?_)
          refine lv_goto (tgt := 9) hx hb dX4_agreement_68 (by decide) ?_
          have hl : lv_has ls 5 [(2, .int (nI (k + 1))), (1, .int (nI ((agM sa k) + 0))), (0, .ref (m9 0))] := lv_sub hl [0, 1, 4] rfl
          have hl : lv_has ls 5 [(2, .int (nI (k + 1))), (1, .int (nI (agM sa (k + 1)))), (0, .ref (m9 0))] := lv_rep hl 1 rfl (congrArg (fun z => Value.int (nI z)) (show (agM sa k) + 0 = agM sa (k + 1) from agM_1 c_33))
          exact ih_9 (k + 1) (by omega) (by omega) ls hl
        ·
          refine lv_aload_n hx hb dX4_agreement_36 rfl (lv_at hl 4 rfl) ?_
          refine lv_iconst (v := nI 2) hx hb dX4_agreement_37 kc_iconst_2 ?_
          refine lv_iload_n hx hb dX4_agreement_38 rfl (lv_at hl 1 rfl) ?_
          refine lv_iload hx hb dX4_agreement_39 (lv_at hl 0 rfl) ?_
          refine cq_V (As := [.int (nI 2), .int (nI (k / 5)), .int (nI (k % 5))]) (rest := [.int (nI (agM sa k))]) S (c_X4_isLike l D (cI := cI) (m9 := m9) (sa := sa) (tx := tx) (th := nI 0) (sv := sv) (ln := ln) (po := po) (lt := lt) (fi := fi) (sc := sc) (nu := nu) (ad := ad) (rv := rv) (r := 2) (w := k / 5) (c9 := k % 5) (hr := by omega) (hw5 := by omega) (hc := by omega)) (cwV 3 hts gX4_agreement_X4_isLike rfl rfl rfl (by decide +kernel) ⟨Nat.le_of_ble_eq_true rfl, Nat.le_of_ble_eq_true rfl⟩) (hw.q.sub [0, 1, 2] [0] rfl rfl) 0 rfl rfl rfl hl.1 (Nat.le_of_ble_eq_true rfl) ⟨Nat.le_of_ble_eq_true rfl, Nat.le_of_ble_eq_true rfl⟩ rfl dX4_agreement_41 (fun r_41 e_41 => ?_)
          have e_41 : r_41 = b2 (liM sa 2 (k / 5) (k % 5) 64) := e_41
          subst e_41
          refine r_if_eqB (tgt := 62) hx hb dX4_agreement_44 (by decide) (fun c_44 => ?_) (fun c_44 => ?_)
          ·
            refine lv_iconst (v := nI 0) hx hb dX4_agreement_62 kc_iconst_0 ?_
            refine r_addN hx hb dX4_agreement_63 ?_
            refine lv_istore_n (lv' := [(1, .int (nI ((agM sa k) + 0))), (4, .int (nI (k % 5))), (3, .int (nI (k / 5))), (2, .int (nI k)), (0, .ref (m9 0))]) hx hb dX4_agreement_64 rfl hl (by decide) rfl (fun ls hl => ?_)
            refine lv_iinc (v := nI (k + 1)) (lv' := [(2, .int (nI (k + 1))), (1, .int (nI ((agM sa k) + 0))), (4, .int (nI (k % 5))), (3, .int (nI (k / 5))), (0, .ref (m9 0))]) hx hb dX4_agreement_65 hl (k := 3) rfl (nI_add k 1) (by decide) rfl (fun ls hl => ?_)
            refine lv_goto (tgt := 9) hx hb dX4_agreement_68 (by decide) ?_
            have hl : lv_has ls 5 [(2, .int (nI (k + 1))), (1, .int (nI ((agM sa k) + 0))), (0, .ref (m9 0))] := lv_sub hl [0, 1, 4] rfl
            have hl : lv_has ls 5 [(2, .int (nI (k + 1))), (1, .int (nI (agM sa (k + 1)))), (0, .ref (m9 0))] := lv_rep hl 1 rfl (congrArg (fun z => Value.int (nI z)) (show (agM sa k) + 0 = agM sa (k + 1) from agM_2 c_44))
            exact ih_9 (k + 1) (by omega) (by omega) ls hl
          ·
            refine lv_aload_n hx hb dX4_agreement_47 rfl (lv_at hl 4 rfl) ?_
            refine lv_iconst (v := nI 3) hx hb dX4_agreement_48 kc_iconst_3 ?_
            refine lv_iload_n hx hb dX4_agreement_49 rfl (lv_at hl 1 rfl) ?_
            refine lv_iload hx hb dX4_agreement_50 (lv_at hl 0 rfl) ?_
            refine cq_V (As := [.int (nI 3), .int (nI (k / 5)), .int (nI (k % 5))]) (rest := [.int (nI (agM sa k))]) S (c_X4_isLike l D (cI := cI) (m9 := m9) (sa := sa) (tx := tx) (th := nI 0) (sv := sv) (ln := ln) (po := po) (lt := lt) (fi := fi) (sc := sc) (nu := nu) (ad := ad) (rv := rv) (r := 3) (w := k / 5) (c9 := k % 5) (hr := by omega) (hw5 := by omega) (hc := by omega)) (cwV 3 hts gX4_agreement_X4_isLike rfl rfl rfl (by decide +kernel) ⟨Nat.le_of_ble_eq_true rfl, Nat.le_of_ble_eq_true rfl⟩) (hw.q.sub [0, 1, 2] [0] rfl rfl) 0 rfl rfl rfl hl.1 (Nat.le_of_ble_eq_true rfl) ⟨Nat.le_of_ble_eq_true rfl, Nat.le_of_ble_eq_true rfl⟩ rfl dX4_agreement_52 (fun r_52 e_52 => ?_)
            have e_52 : r_52 = b2 (liM sa 3 (k / 5) (k % 5) 64) := e_52
            subst e_52
            refine r_if_eqB (tgt := 62) hx hb dX4_agreement_55 (by decide) (fun c_55 => ?_) (fun c_55 => ?_)
            ·
              refine lv_iconst (v := nI 0) hx hb dX4_agreement_62 kc_iconst_0 ?_
              refine r_addN hx hb dX4_agreement_63 ?_
              refine lv_istore_n (lv' := [(1, .int (nI ((agM sa k) + 0))), (4, .int (nI (k % 5))), (3, .int (nI (k / 5))), (2, .int (nI k)), (0, .ref (m9 0))]) hx hb dX4_agreement_64 rfl hl (by decide) rfl (fun ls hl => ?_)
              refine lv_iinc (v := nI (k + 1)) (lv' := [(2, .int (nI (k + 1))), (1, .int (nI ((agM sa k) + 0))), (4, .int (nI (k % 5))), (3, .int (nI (k / 5))), (0, .ref (m9 0))]) hx hb dX4_agreement_65 hl (k := 3) rfl (nI_add k 1) (by decide) rfl (fun ls hl => ?_)
              refine lv_goto (tgt := 9) hx hb dX4_agreement_68 (by decide) ?_
              have hl : lv_has ls 5 [(2, .int (nI (k + 1))), (1, .int (nI ((agM sa k) + 0))), (0, .ref (m9 0))] := lv_sub hl [0, 1, 4] rfl
              have hl : lv_has ls 5 [(2, .int (nI (k + 1))), (1, .int (nI (agM sa (k + 1)))), (0, .ref (m9 0))] := lv_rep hl 1 rfl (congrArg (fun z => Value.int (nI z)) (show (agM sa k) + 0 = agM sa (k + 1) from agM_3 c_55))
              exact ih_9 (k + 1) (by omega) (by omega) ls hl
            ·
              refine lv_iconst (v := nI 1) hx hb dX4_agreement_58 kc_iconst_1 ?_
              refine lv_goto (tgt := 63) hx hb dX4_agreement_59 (by decide) ?_
              refine r_addN hx hb dX4_agreement_63 ?_
              refine lv_istore_n (lv' := [(1, .int (nI ((agM sa k) + 1))), (4, .int (nI (k % 5))), (3, .int (nI (k / 5))), (2, .int (nI k)), (0, .ref (m9 0))]) hx hb dX4_agreement_64 rfl hl (by decide) rfl (fun ls hl => ?_)
              refine lv_iinc (v := nI (k + 1)) (lv' := [(2, .int (nI (k + 1))), (1, .int (nI ((agM sa k) + 1))), (4, .int (nI (k % 5))), (3, .int (nI (k / 5))), (0, .ref (m9 0))]) hx hb dX4_agreement_65 hl (k := 3) rfl (nI_add k 1) (by decide) rfl (fun ls hl => ?_)
              refine lv_goto (tgt := 9) hx hb dX4_agreement_68 (by decide) ?_
              have hl : lv_has ls 5 [(2, .int (nI (k + 1))), (1, .int (nI ((agM sa k) + 1))), (0, .ref (m9 0))] := lv_sub hl [0, 1, 4] rfl
              have hl : lv_has ls 5 [(2, .int (nI (k + 1))), (1, .int (nI (agM sa (k + 1)))), (0, .ref (m9 0))] := lv_rep hl 1 rfl (congrArg (fun z => Value.int (nI z)) (show (agM sa k) + 1 = agM sa (k + 1) from agM_p c_33 c_44 c_55))
              exact ih_9 (k + 1) (by omega) (by omega) ls hl
  have hl : lv_has ls 5 [(2, .int (nI 0)), (1, .int (nI 0)), (0, .ref (m9 0))] := lv_sub hl [0, 1, 2] rfl
  have hl : lv_has ls 5 [(2, .int (nI 0)), (1, .int (nI (agM sa 0))), (0, .ref (m9 0))] := lv_rep hl 1 rfl (congrArg (fun z => Value.int (nI z)) (show 0 = agM sa 0 from rfl))
  exact L9_1 (30 + 1) (0) (by omega) (by omega) ls hl
theorem le_of_ltn {x : Int32} {n : Nat} (h : x < nI (n + 1)) (h0 : ¬ x < 0 := by assumption) (hn : n + 1 < 2 ^ 31 := by decide) : x ≤ nI n := by
  obtain ⟨j, hj, rfl⟩ := nI_of h0
  exact nI_le (Nat.le_of_lt_succ ((nI_ltI hj hn).mp h)) (by omega)
theorem inP_to {x : Int32} {n : Nat} (hn : n < 2 ^ 31) (h : inP x (nI 0) (nI n)) : ∃ k, k ≤ n ∧ x = nI k := by
  have h0 : ¬ x < 0 := by rw [← nI_0]; exact Int32.not_lt.mpr h.1
  obtain ⟨j, hj, rfl⟩ := nI_of h0
  exact ⟨j, (nI_leI hj hn).mp h.2, rfl⟩
theorem inP_to1 {x : Int32} {n : Nat} (hn : n + 1 < 2 ^ 31) (h : inP x (nI 0) (nI n)) : ∃ k, k < n + 1 ∧ x = nI k := by
  obtain ⟨k, h1, h2⟩ := inP_to (by omega) h
  exact ⟨k, by omega, h2⟩
abbrev rmX3_checkReplica_t : Room := { frames := 6, cells := 1, slots := 6, locals := 82 }
set_option maxHeartbeats 4000000 in
set_option maxRecDepth 100000 in
theorem c_X3_checkReplica_t (l : Launch) (D : va_G) (sz : Nat) (hl9 : l.stackTraces = false) (p0 : Int32) (hv : ¬ inP p0 (nI 0) (nI 3)) : MTv l yX3_checkReplica wsX3_checkReplica rmX3_checkReplica_t [.int p0] D [] ([]) sz "java/lang/IndexOutOfBoundsException" (fun (_ : Unit) => True) (fun u9 => []) := by
  refine met_t (own := RX3) (cc := cX3_checkReplica) (maxL := 1) (ret := none) hl9 (by decide +kernel) (by decide) rfl rfl (Nat.le_of_ble_eq_true rfl) ?_
  intro p e s m args below meth c Q A hsz S hz hxe hzq hw hA hT hO ls hl
  obtain ⟨hx, hb, hml, hown, hts⟩ := id S
  have hl : lv_has ls 1 [(0, .int p0)] := hl
  refine lv_iload_n hx hb dX3_checkReplica_0 rfl (lv_at hl 0 rfl) ?_
  refine lv_if_lt (tgt := 9) hx hb dX3_checkReplica_1 (by decide) (fun c_1 => ?_) (fun c_1 => ?_)
  ·
    obtain ⟨sa9, hs9⟩ := hxe.str 11 rfl
    exact hT () (hts (.classLink RX3 37 "java/lang/IndexOutOfBoundsException") (by decide +kernel)) (hts (.initialized "java/lang/IndexOutOfBoundsException") (by decide +kernel)) hs9 (xa_1 (fun w h => hts w ((show ∀ w ∈ (vx_atS RX3 41 "java/lang/IndexOutOfBoundsException" ["java/lang/RuntimeException", "java/lang/Exception"]).filter goodWord, w ∈ wsX3_checkReplica by decide +kernel) w h)) hxe) xg_1 hl.1 dX3_checkReplica_9 dX3_checkReplica_12 dX3_checkReplica_13 dX3_checkReplica_15 dX3_checkReplica_18 (by decide) (Nat.le_of_ble_eq_true rfl) (Nat.le_refl _) (Nat.le_refl _) hw trivial
  ·
    refine lv_iload_n hx hb dX3_checkReplica_4 rfl (lv_at hl 0 rfl) ?_
    refine lv_iconst (v := nI 4) hx hb dX3_checkReplica_5 kc_iconst_4 ?_
    refine lv_icmp_lt (tgt := 19) hx hb dX3_checkReplica_6 (by decide) (fun c_6 => ?_) (fun c_6 => ?_)
    ·
      exact absurd ⟨by rw [nI_0]; exact Int32.not_lt.mp c_1, le_of_ltn (n := 3) c_6 c_1⟩ hv
    ·
      obtain ⟨sa9, hs9⟩ := hxe.str 11 rfl
      exact hT () (hts (.classLink RX3 37 "java/lang/IndexOutOfBoundsException") (by decide +kernel)) (hts (.initialized "java/lang/IndexOutOfBoundsException") (by decide +kernel)) hs9 (xa_1 (fun w h => hts w ((show ∀ w ∈ (vx_atS RX3 41 "java/lang/IndexOutOfBoundsException" ["java/lang/RuntimeException", "java/lang/Exception"]).filter goodWord, w ∈ wsX3_checkReplica by decide +kernel) w h)) hxe) xg_1 hl.1 dX3_checkReplica_9 dX3_checkReplica_12 dX3_checkReplica_13 dX3_checkReplica_15 dX3_checkReplica_18 (by decide) (Nat.le_of_ble_eq_true rfl) (Nat.le_refl _) (Nat.le_refl _) hw trivial
abbrev rmX3_checkRow_t : Room := { frames := 6, cells := 1, slots := 6, locals := 82 }
set_option maxHeartbeats 4000000 in
set_option maxRecDepth 100000 in
theorem c_X3_checkRow_t (l : Launch) (D : va_G) (sz : Nat) (hl9 : l.stackTraces = false) (p1 : Int32) (hv : ¬ inP p1 (nI 0) (nI 5)) : MTv l yX3_checkRow wsX3_checkRow rmX3_checkRow_t [.int p1] D [] ([]) sz "java/lang/IndexOutOfBoundsException" (fun (_ : Unit) => True) (fun u9 => []) := by
  refine met_t (own := RX3) (cc := cX3_checkRow) (maxL := 1) (ret := none) hl9 (by decide +kernel) (by decide) rfl rfl (Nat.le_of_ble_eq_true rfl) ?_
  intro p e s m args below meth c Q A hsz S hz hxe hzq hw hA hT hO ls hl
  obtain ⟨hx, hb, hml, hown, hts⟩ := id S
  have hl : lv_has ls 1 [(0, .int p1)] := hl
  refine lv_iload_n hx hb dX3_checkRow_0 rfl (lv_at hl 0 rfl) ?_
  refine lv_if_lt (tgt := 10) hx hb dX3_checkRow_1 (by decide) (fun c_1 => ?_) (fun c_1 => ?_)
  ·
    obtain ⟨sa9, hs9⟩ := hxe.str 12 rfl
    exact hT () (hts (.classLink RX3 37 "java/lang/IndexOutOfBoundsException") (by decide +kernel)) (hts (.initialized "java/lang/IndexOutOfBoundsException") (by decide +kernel)) hs9 (xa_1 (fun w h => hts w ((show ∀ w ∈ (vx_atS RX3 41 "java/lang/IndexOutOfBoundsException" ["java/lang/RuntimeException", "java/lang/Exception"]).filter goodWord, w ∈ wsX3_checkRow by decide +kernel) w h)) hxe) xg_1 hl.1 dX3_checkRow_10 dX3_checkRow_13 dX3_checkRow_14 dX3_checkRow_16 dX3_checkRow_19 (by decide) (Nat.le_of_ble_eq_true rfl) (Nat.le_refl _) (Nat.le_refl _) hw trivial
  ·
    refine lv_iload_n hx hb dX3_checkRow_4 rfl (lv_at hl 0 rfl) ?_
    refine lv_bipush (v := nI 6) hx hb dX3_checkRow_5 kc_bipush_6 ?_
    refine lv_icmp_lt (tgt := 20) hx hb dX3_checkRow_7 (by decide) (fun c_7 => ?_) (fun c_7 => ?_)
    ·
      exact absurd ⟨by rw [nI_0]; exact Int32.not_lt.mp c_1, le_of_ltn (n := 5) c_7 c_1⟩ hv
    ·
      obtain ⟨sa9, hs9⟩ := hxe.str 12 rfl
      exact hT () (hts (.classLink RX3 37 "java/lang/IndexOutOfBoundsException") (by decide +kernel)) (hts (.initialized "java/lang/IndexOutOfBoundsException") (by decide +kernel)) hs9 (xa_1 (fun w h => hts w ((show ∀ w ∈ (vx_atS RX3 41 "java/lang/IndexOutOfBoundsException" ["java/lang/RuntimeException", "java/lang/Exception"]).filter goodWord, w ∈ wsX3_checkRow by decide +kernel) w h)) hxe) xg_1 hl.1 dX3_checkRow_10 dX3_checkRow_13 dX3_checkRow_14 dX3_checkRow_16 dX3_checkRow_19 (by decide) (Nat.le_of_ble_eq_true rfl) (Nat.le_refl _) (Nat.le_refl _) hw trivial
abbrev rmX3_checkElement_t : Room := { frames := 6, cells := 1, slots := 6, locals := 82 }
set_option maxHeartbeats 4000000 in
set_option maxRecDepth 100000 in
theorem c_X3_checkElement_t (l : Launch) (D : va_G) (sz : Nat) (hl9 : l.stackTraces = false) (p2 : Int32) (hv : ¬ inP p2 (nI 0) (nI 15)) : MTv l yX3_checkElement wsX3_checkElement rmX3_checkElement_t [.int p2] D [] ([]) sz "java/lang/IllegalArgumentException" (fun (_ : Unit) => True) (fun u9 => []) := by
  refine met_t (own := RX3) (cc := cX3_checkElement) (maxL := 1) (ret := none) hl9 (by decide +kernel) (by decide) rfl rfl (Nat.le_of_ble_eq_true rfl) ?_
  intro p e s m args below meth c Q A hsz S hz hxe hzq hw hA hT hO ls hl
  obtain ⟨hx, hb, hml, hown, hts⟩ := id S
  have hl : lv_has ls 1 [(0, .int p2)] := hl
  refine lv_iload_n hx hb dX3_checkElement_0 rfl (lv_at hl 0 rfl) ?_
  refine lv_if_lt (tgt := 10) hx hb dX3_checkElement_1 (by decide) (fun c_1 => ?_) (fun c_1 => ?_)
  ·
    obtain ⟨sa9, hs9⟩ := hxe.str 13 rfl
    exact hT () (hts (.classLink RX3 44 "java/lang/IllegalArgumentException") (by decide +kernel)) (hts (.initialized "java/lang/IllegalArgumentException") (by decide +kernel)) hs9 (xa_2 (fun w h => hts w ((show ∀ w ∈ (vx_atS RX3 48 "java/lang/IllegalArgumentException" ["java/lang/RuntimeException", "java/lang/Exception"]).filter goodWord, w ∈ wsX3_checkElement by decide +kernel) w h)) hxe) xg_2 hl.1 dX3_checkElement_10 dX3_checkElement_13 dX3_checkElement_14 dX3_checkElement_16 dX3_checkElement_19 (by decide) (Nat.le_of_ble_eq_true rfl) (Nat.le_refl _) (Nat.le_refl _) hw trivial
  ·
    refine lv_iload_n hx hb dX3_checkElement_4 rfl (lv_at hl 0 rfl) ?_
    refine lv_bipush (v := nI 16) hx hb dX3_checkElement_5 kc_bipush_16 ?_
    refine lv_icmp_lt (tgt := 20) hx hb dX3_checkElement_7 (by decide) (fun c_7 => ?_) (fun c_7 => ?_)
    ·
      exact absurd ⟨by rw [nI_0]; exact Int32.not_lt.mp c_1, le_of_ltn (n := 15) c_7 c_1⟩ hv
    ·
      obtain ⟨sa9, hs9⟩ := hxe.str 13 rfl
      exact hT () (hts (.classLink RX3 44 "java/lang/IllegalArgumentException") (by decide +kernel)) (hts (.initialized "java/lang/IllegalArgumentException") (by decide +kernel)) hs9 (xa_2 (fun w h => hts w ((show ∀ w ∈ (vx_atS RX3 48 "java/lang/IllegalArgumentException" ["java/lang/RuntimeException", "java/lang/Exception"]).filter goodWord, w ∈ wsX3_checkElement by decide +kernel) w h)) hxe) xg_2 hl.1 dX3_checkElement_10 dX3_checkElement_13 dX3_checkElement_14 dX3_checkElement_16 dX3_checkElement_19 (by decide) (Nat.le_of_ble_eq_true rfl) (Nat.le_refl _) (Nat.le_refl _) hw trivial
abbrev rmX3_checkDifferent_t : Room := { frames := 6, cells := 1, slots := 6, locals := 82 }
set_option maxHeartbeats 4000000 in
set_option maxRecDepth 100000 in
theorem c_X3_checkDifferent_t (l : Launch) (D : va_G) (sz : Nat) (hl9 : l.stackTraces = false) (f : Nat) : MTv l yX3_checkDifferent wsX3_checkDifferent rmX3_checkDifferent_t [.int (nI f), .int (nI f)] D [] ([]) sz "java/lang/IllegalArgumentException" (fun (_ : Unit) => True) (fun u9 => []) := by
  refine met_t (own := RX3) (cc := cX3_checkDifferent) (maxL := 2) (ret := none) hl9 (by decide +kernel) (by decide) rfl rfl (Nat.le_of_ble_eq_true rfl) ?_
  intro p e s m args below meth c Q A hsz S hz hxe hzq hw hA hT hO ls hl
  obtain ⟨hx, hb, hml, hown, hts⟩ := id S
  have hl : lv_has ls 2 [(0, .int (nI f)), (1, .int (nI f))] := hl
  refine lv_iload_n hx hb dX3_checkDifferent_0 rfl (lv_at hl 0 rfl) ?_
  refine lv_iload_n hx hb dX3_checkDifferent_1 rfl (lv_at hl 1 rfl) ?_
  refine lv_icmp_ne (tgt := 15) hx hb dX3_checkDifferent_2 (by decide) (fun h => absurd (rfl) h) (fun _ => ?_)
  obtain ⟨sa9, hs9⟩ := hxe.str 14 rfl
  exact hT () (hts (.classLink RX3 44 "java/lang/IllegalArgumentException") (by decide +kernel)) (hts (.initialized "java/lang/IllegalArgumentException") (by decide +kernel)) hs9 (xa_2 (fun w h => hts w ((show ∀ w ∈ (vx_atS RX3 48 "java/lang/IllegalArgumentException" ["java/lang/RuntimeException", "java/lang/Exception"]).filter goodWord, w ∈ wsX3_checkDifferent by decide +kernel) w h)) hxe) xg_2 hl.1 dX3_checkDifferent_5 dX3_checkDifferent_8 dX3_checkDifferent_9 dX3_checkDifferent_11 dX3_checkDifferent_14 (by decide) (Nat.le_of_ble_eq_true rfl) (Nat.le_refl _) (Nat.le_refl _) hw trivial
abbrev rmX3_put_x1 : Room := { frames := 7, cells := 1, slots := 6, locals := 140 }
set_option maxHeartbeats 4000000 in
set_option maxRecDepth 100000 in
theorem c_X3_put_x1 (l : Launch) (D : va_G) (sz : Nat) (hl9 : l.stackTraces = false) (x9 : Nat) (p0 p1 p2 p3 : Int32) (hv : ¬ inP p0 (nI 0) (nI 3)) : MTi l yX3_put wsX3_put rmX3_put_x1 [.ref x9, .int p0, .int p1, .int p2, .int p3] D [] ([]) sz "java/lang/IndexOutOfBoundsException" (fun (_ : Unit) => True) (fun u9 => []) := by
  refine met_t (own := RX3) (cc := cX3_put) (maxL := 5) (ret := some .int) hl9 (by decide +kernel) (by decide) rfl rfl (Nat.le_of_ble_eq_true rfl) ?_
  intro p e s m args below meth c Q A hsz S hz hxe hzq hw hA hT hO ls hl
  obtain ⟨hx, hb, hml, hown, hts⟩ := id S
  have hl : lv_has ls 5 [(0, .ref x9), (1, .int p0), (2, .int p1), (3, .int p2), (4, .int p3)] := hl
  refine lv_iload_n hx hb dX3_put_0 rfl (lv_at hl 1 rfl) ?_
  refine cpt_S (As := [.int p0]) (rest := []) S hz hxe hzq (c_X3_checkReplica_t l D (sz := s.heap.size) hl9 (p0 := p0) (hv := hv)) (va_cwS 1 hts gX3_put_X3_checkReplica rfl rfl rfl (by decide +kernel) ⟨Nat.le_of_ble_eq_true rfl, Nat.le_of_ble_eq_true rfl⟩) hw hA rfl hl.1 (Nat.le_of_ble_eq_true rfl) ⟨Nat.le_of_ble_eq_true rfl, Nat.le_of_ble_eq_true rfl⟩ rfl dX3_put_1 (fun q9 ce H locs hw h1 h2 h3 => ?_)
  exact hO () (Nat.le_refl _) (Nat.le_refl _) hw trivial h1 h2 h3
abbrev rmX3_put_x2 : Room := { frames := 7, cells := 1, slots := 6, locals := 140 }
set_option maxHeartbeats 4000000 in
set_option maxRecDepth 100000 in
theorem c_X3_put_x2 (l : Launch) (D : va_G) (sz : Nat) (hl9 : l.stackTraces = false) (x9 : Nat) (r : Nat) (p1 p2 p3 : Int32) (hr : r < 4) (hv : ¬ inP p1 (nI 0) (nI 5)) : MTi l yX3_put wsX3_put rmX3_put_x2 [.ref x9, .int (nI r), .int p1, .int p2, .int p3] D [] ([]) sz "java/lang/IndexOutOfBoundsException" (fun (_ : Unit) => True) (fun u9 => []) := by
  refine met_t (own := RX3) (cc := cX3_put) (maxL := 5) (ret := some .int) hl9 (by decide +kernel) (by decide) rfl rfl (Nat.le_of_ble_eq_true rfl) ?_
  intro p e s m args below meth c Q A hsz S hz hxe hzq hw hA hT hO ls hl
  obtain ⟨hx, hb, hml, hown, hts⟩ := id S
  have hl : lv_has ls 5 [(0, .ref x9), (1, .int (nI r)), (2, .int p1), (3, .int p2), (4, .int p3)] := hl
  refine lv_iload_n hx hb dX3_put_0 rfl (lv_at hl 1 rfl) ?_
  refine cp_Sv (As := [.int (nI r)]) (rest := []) S (c_X3_checkReplica l D (sz := s.heap.size) (r := r) (hr := hr)) (va_cwS 1 hts gX3_put_X3_checkReplica rfl rfl rfl (by decide +kernel) ⟨Nat.le_of_ble_eq_true rfl, Nat.le_of_ble_eq_true rfl⟩) hw hA rfl hl.1 (Nat.le_of_ble_eq_true rfl) ⟨Nat.le_of_ble_eq_true rfl, Nat.le_of_ble_eq_true rfl⟩ rfl dX3_put_1 (fun H locs hw => ?_)
  have hw : Wd D A [] ([]) s s.heap H locs := hw
  refine lv_iload_n hx hb dX3_put_4 rfl (lv_at hl 2 rfl) ?_
  refine cpt_S (As := [.int p1]) (rest := []) S hz hxe hzq (c_X3_checkRow_t l D (sz := H.size) hl9 (p1 := p1) (hv := hv)) (va_cwS 1 hts gX3_put_X3_checkRow rfl rfl rfl (by decide +kernel) ⟨Nat.le_of_ble_eq_true rfl, Nat.le_of_ble_eq_true rfl⟩) hw hA rfl hl.1 (Nat.le_of_ble_eq_true rfl) ⟨Nat.le_of_ble_eq_true rfl, Nat.le_of_ble_eq_true rfl⟩ rfl dX3_put_5 (fun q9 ce H locs hw h1 h2 h3 => ?_)
  exact hO () (Nat.le_refl _) (Nat.le_refl _) hw trivial h1 h2 h3
abbrev rmX3_add_x1 : Room := { frames := 7, cells := 1, slots := 6, locals := 140 }
set_option maxHeartbeats 4000000 in
set_option maxRecDepth 100000 in
theorem c_X3_add_x1 (l : Launch) (D : va_G) (sz : Nat) (hl9 : l.stackTraces = false) (x9 : Nat) (p0 p1 p2 : Int32) (hv : ¬ inP p0 (nI 0) (nI 3)) : MTi l yX3_add wsX3_add rmX3_add_x1 [.ref x9, .int p0, .int p1, .int p2] D [] ([]) sz "java/lang/IndexOutOfBoundsException" (fun (_ : Unit) => True) (fun u9 => []) := by
  refine met_t (own := RX3) (cc := cX3_add) (maxL := 4) (ret := some .int) hl9 (by decide +kernel) (by decide) rfl rfl (Nat.le_of_ble_eq_true rfl) ?_
  intro p e s m args below meth c Q A hsz S hz hxe hzq hw hA hT hO ls hl
  obtain ⟨hx, hb, hml, hown, hts⟩ := id S
  have hl : lv_has ls 4 [(0, .ref x9), (1, .int p0), (2, .int p1), (3, .int p2)] := hl
  refine lv_iload_n hx hb dX3_add_0 rfl (lv_at hl 1 rfl) ?_
  refine cpt_S (As := [.int p0]) (rest := []) S hz hxe hzq (c_X3_checkReplica_t l D (sz := s.heap.size) hl9 (p0 := p0) (hv := hv)) (va_cwS 1 hts gX3_add_X3_checkReplica rfl rfl rfl (by decide +kernel) ⟨Nat.le_of_ble_eq_true rfl, Nat.le_of_ble_eq_true rfl⟩) hw hA rfl hl.1 (Nat.le_of_ble_eq_true rfl) ⟨Nat.le_of_ble_eq_true rfl, Nat.le_of_ble_eq_true rfl⟩ rfl dX3_add_1 (fun q9 ce H locs hw h1 h2 h3 => ?_)
  exact hO () (Nat.le_refl _) (Nat.le_refl _) hw trivial h1 h2 h3
abbrev rmX3_add_x2 : Room := { frames := 7, cells := 1, slots := 6, locals := 140 }
set_option maxHeartbeats 4000000 in
set_option maxRecDepth 100000 in
theorem c_X3_add_x2 (l : Launch) (D : va_G) (sz : Nat) (hl9 : l.stackTraces = false) (x9 : Nat) (r : Nat) (p1 p2 : Int32) (hr : r < 4) (hv : ¬ inP p1 (nI 0) (nI 5)) : MTi l yX3_add wsX3_add rmX3_add_x2 [.ref x9, .int (nI r), .int p1, .int p2] D [] ([]) sz "java/lang/IndexOutOfBoundsException" (fun (_ : Unit) => True) (fun u9 => []) := by
  refine met_t (own := RX3) (cc := cX3_add) (maxL := 4) (ret := some .int) hl9 (by decide +kernel) (by decide) rfl rfl (Nat.le_of_ble_eq_true rfl) ?_
  intro p e s m args below meth c Q A hsz S hz hxe hzq hw hA hT hO ls hl
  obtain ⟨hx, hb, hml, hown, hts⟩ := id S
  have hl : lv_has ls 4 [(0, .ref x9), (1, .int (nI r)), (2, .int p1), (3, .int p2)] := hl
  refine lv_iload_n hx hb dX3_add_0 rfl (lv_at hl 1 rfl) ?_
  refine cp_Sv (As := [.int (nI r)]) (rest := []) S (c_X3_checkReplica l D (sz := s.heap.size) (r := r) (hr := hr)) (va_cwS 1 hts gX3_add_X3_checkReplica rfl rfl rfl (by decide +kernel) ⟨Nat.le_of_ble_eq_true rfl, Nat.le_of_ble_eq_true rfl⟩) hw hA rfl hl.1 (Nat.le_of_ble_eq_true rfl) ⟨Nat.le_of_ble_eq_true rfl, Nat.le_of_ble_eq_true rfl⟩ rfl dX3_add_1 (fun H locs hw => ?_)
  have hw : Wd D A [] ([]) s s.heap H locs := hw
  refine lv_iload_n hx hb dX3_add_4 rfl (lv_at hl 2 rfl) ?_
  refine cpt_S (As := [.int p1]) (rest := []) S hz hxe hzq (c_X3_checkRow_t l D (sz := H.size) hl9 (p1 := p1) (hv := hv)) (va_cwS 1 hts gX3_add_X3_checkRow rfl rfl rfl (by decide +kernel) ⟨Nat.le_of_ble_eq_true rfl, Nat.le_of_ble_eq_true rfl⟩) hw hA rfl hl.1 (Nat.le_of_ble_eq_true rfl) ⟨Nat.le_of_ble_eq_true rfl, Nat.le_of_ble_eq_true rfl⟩ rfl dX3_add_5 (fun q9 ce H locs hw h1 h2 h3 => ?_)
  exact hO () (Nat.le_refl _) (Nat.le_refl _) hw trivial h1 h2 h3
abbrev rmX3_include_x1 : Room := { frames := 7, cells := 1, slots := 6, locals := 140 }
set_option maxHeartbeats 4000000 in
set_option maxRecDepth 100000 in
theorem c_X3_include_x1 (l : Launch) (D : va_G) (sz : Nat) (hl9 : l.stackTraces = false) (x9 : Nat) (p0 p1 p2 : Int32) (hv : ¬ inP p0 (nI 0) (nI 3)) : MTi l yX3_include wsX3_include rmX3_include_x1 [.ref x9, .int p0, .int p1, .int p2] D [] ([]) sz "java/lang/IndexOutOfBoundsException" (fun (_ : Unit) => True) (fun u9 => []) := by
  refine met_t (own := RX3) (cc := cX3_include) (maxL := 4) (ret := some .int) hl9 (by decide +kernel) (by decide) rfl rfl (Nat.le_of_ble_eq_true rfl) ?_
  intro p e s m args below meth c Q A hsz S hz hxe hzq hw hA hT hO ls hl
  obtain ⟨hx, hb, hml, hown, hts⟩ := id S
  have hl : lv_has ls 4 [(0, .ref x9), (1, .int p0), (2, .int p1), (3, .int p2)] := hl
  refine lv_iload_n hx hb dX3_include_0 rfl (lv_at hl 1 rfl) ?_
  refine cpt_S (As := [.int p0]) (rest := []) S hz hxe hzq (c_X3_checkReplica_t l D (sz := s.heap.size) hl9 (p0 := p0) (hv := hv)) (va_cwS 1 hts gX3_include_X3_checkReplica rfl rfl rfl (by decide +kernel) ⟨Nat.le_of_ble_eq_true rfl, Nat.le_of_ble_eq_true rfl⟩) hw hA rfl hl.1 (Nat.le_of_ble_eq_true rfl) ⟨Nat.le_of_ble_eq_true rfl, Nat.le_of_ble_eq_true rfl⟩ rfl dX3_include_1 (fun q9 ce H locs hw h1 h2 h3 => ?_)
  exact hO () (Nat.le_refl _) (Nat.le_refl _) hw trivial h1 h2 h3
abbrev rmX3_include_x2 : Room := { frames := 7, cells := 1, slots := 6, locals := 140 }
set_option maxHeartbeats 4000000 in
set_option maxRecDepth 100000 in
theorem c_X3_include_x2 (l : Launch) (D : va_G) (sz : Nat) (hl9 : l.stackTraces = false) (x9 : Nat) (r : Nat) (p1 p2 : Int32) (hr : r < 4) (hv : ¬ inP p1 (nI 0) (nI 5)) : MTi l yX3_include wsX3_include rmX3_include_x2 [.ref x9, .int (nI r), .int p1, .int p2] D [] ([]) sz "java/lang/IndexOutOfBoundsException" (fun (_ : Unit) => True) (fun u9 => []) := by
  refine met_t (own := RX3) (cc := cX3_include) (maxL := 4) (ret := some .int) hl9 (by decide +kernel) (by decide) rfl rfl (Nat.le_of_ble_eq_true rfl) ?_
  intro p e s m args below meth c Q A hsz S hz hxe hzq hw hA hT hO ls hl
  obtain ⟨hx, hb, hml, hown, hts⟩ := id S
  have hl : lv_has ls 4 [(0, .ref x9), (1, .int (nI r)), (2, .int p1), (3, .int p2)] := hl
  refine lv_iload_n hx hb dX3_include_0 rfl (lv_at hl 1 rfl) ?_
  refine cp_Sv (As := [.int (nI r)]) (rest := []) S (c_X3_checkReplica l D (sz := s.heap.size) (r := r) (hr := hr)) (va_cwS 1 hts gX3_include_X3_checkReplica rfl rfl rfl (by decide +kernel) ⟨Nat.le_of_ble_eq_true rfl, Nat.le_of_ble_eq_true rfl⟩) hw hA rfl hl.1 (Nat.le_of_ble_eq_true rfl) ⟨Nat.le_of_ble_eq_true rfl, Nat.le_of_ble_eq_true rfl⟩ rfl dX3_include_1 (fun H locs hw => ?_)
  have hw : Wd D A [] ([]) s s.heap H locs := hw
  refine lv_iload_n hx hb dX3_include_4 rfl (lv_at hl 2 rfl) ?_
  refine cpt_S (As := [.int p1]) (rest := []) S hz hxe hzq (c_X3_checkRow_t l D (sz := H.size) hl9 (p1 := p1) (hv := hv)) (va_cwS 1 hts gX3_include_X3_checkRow rfl rfl rfl (by decide +kernel) ⟨Nat.le_of_ble_eq_true rfl, Nat.le_of_ble_eq_true rfl⟩) hw hA rfl hl.1 (Nat.le_of_ble_eq_true rfl) ⟨Nat.le_of_ble_eq_true rfl, Nat.le_of_ble_eq_true rfl⟩ rfl dX3_include_5 (fun q9 ce H locs hw h1 h2 h3 => ?_)
  exact hO () (Nat.le_refl _) (Nat.le_refl _) hw trivial h1 h2 h3
abbrev rmX3_exclude_x1 : Room := { frames := 7, cells := 1, slots := 6, locals := 140 }
set_option maxHeartbeats 4000000 in
set_option maxRecDepth 100000 in
theorem c_X3_exclude_x1 (l : Launch) (D : va_G) (sz : Nat) (hl9 : l.stackTraces = false) (x9 : Nat) (p0 p1 p2 : Int32) (hv : ¬ inP p0 (nI 0) (nI 3)) : MTi l yX3_exclude wsX3_exclude rmX3_exclude_x1 [.ref x9, .int p0, .int p1, .int p2] D [] ([]) sz "java/lang/IndexOutOfBoundsException" (fun (_ : Unit) => True) (fun u9 => []) := by
  refine met_t (own := RX3) (cc := cX3_exclude) (maxL := 4) (ret := some .int) hl9 (by decide +kernel) (by decide) rfl rfl (Nat.le_of_ble_eq_true rfl) ?_
  intro p e s m args below meth c Q A hsz S hz hxe hzq hw hA hT hO ls hl
  obtain ⟨hx, hb, hml, hown, hts⟩ := id S
  have hl : lv_has ls 4 [(0, .ref x9), (1, .int p0), (2, .int p1), (3, .int p2)] := hl
  refine lv_iload_n hx hb dX3_exclude_0 rfl (lv_at hl 1 rfl) ?_
  refine cpt_S (As := [.int p0]) (rest := []) S hz hxe hzq (c_X3_checkReplica_t l D (sz := s.heap.size) hl9 (p0 := p0) (hv := hv)) (va_cwS 1 hts gX3_exclude_X3_checkReplica rfl rfl rfl (by decide +kernel) ⟨Nat.le_of_ble_eq_true rfl, Nat.le_of_ble_eq_true rfl⟩) hw hA rfl hl.1 (Nat.le_of_ble_eq_true rfl) ⟨Nat.le_of_ble_eq_true rfl, Nat.le_of_ble_eq_true rfl⟩ rfl dX3_exclude_1 (fun q9 ce H locs hw h1 h2 h3 => ?_)
  exact hO () (Nat.le_refl _) (Nat.le_refl _) hw trivial h1 h2 h3
abbrev rmX3_exclude_x2 : Room := { frames := 7, cells := 1, slots := 6, locals := 140 }
set_option maxHeartbeats 4000000 in
set_option maxRecDepth 100000 in
theorem c_X3_exclude_x2 (l : Launch) (D : va_G) (sz : Nat) (hl9 : l.stackTraces = false) (x9 : Nat) (r : Nat) (p1 p2 : Int32) (hr : r < 4) (hv : ¬ inP p1 (nI 0) (nI 5)) : MTi l yX3_exclude wsX3_exclude rmX3_exclude_x2 [.ref x9, .int (nI r), .int p1, .int p2] D [] ([]) sz "java/lang/IndexOutOfBoundsException" (fun (_ : Unit) => True) (fun u9 => []) := by
  refine met_t (own := RX3) (cc := cX3_exclude) (maxL := 4) (ret := some .int) hl9 (by decide +kernel) (by decide) rfl rfl (Nat.le_of_ble_eq_true rfl) ?_
  intro p e s m args below meth c Q A hsz S hz hxe hzq hw hA hT hO ls hl
  obtain ⟨hx, hb, hml, hown, hts⟩ := id S
  have hl : lv_has ls 4 [(0, .ref x9), (1, .int (nI r)), (2, .int p1), (3, .int p2)] := hl
  refine lv_iload_n hx hb dX3_exclude_0 rfl (lv_at hl 1 rfl) ?_
  refine cp_Sv (As := [.int (nI r)]) (rest := []) S (c_X3_checkReplica l D (sz := s.heap.size) (r := r) (hr := hr)) (va_cwS 1 hts gX3_exclude_X3_checkReplica rfl rfl rfl (by decide +kernel) ⟨Nat.le_of_ble_eq_true rfl, Nat.le_of_ble_eq_true rfl⟩) hw hA rfl hl.1 (Nat.le_of_ble_eq_true rfl) ⟨Nat.le_of_ble_eq_true rfl, Nat.le_of_ble_eq_true rfl⟩ rfl dX3_exclude_1 (fun H locs hw => ?_)
  have hw : Wd D A [] ([]) s s.heap H locs := hw
  refine lv_iload_n hx hb dX3_exclude_4 rfl (lv_at hl 2 rfl) ?_
  refine cpt_S (As := [.int p1]) (rest := []) S hz hxe hzq (c_X3_checkRow_t l D (sz := H.size) hl9 (p1 := p1) (hv := hv)) (va_cwS 1 hts gX3_exclude_X3_checkRow rfl rfl rfl (by decide +kernel) ⟨Nat.le_of_ble_eq_true rfl, Nat.le_of_ble_eq_true rfl⟩) hw hA rfl hl.1 (Nat.le_of_ble_eq_true rfl) ⟨Nat.le_of_ble_eq_true rfl, Nat.le_of_ble_eq_true rfl⟩ rfl dX3_exclude_5 (fun q9 ce H locs hw h1 h2 h3 => ?_)
  exact hO () (Nat.le_refl _) (Nat.le_refl _) hw trivial h1 h2 h3
abbrev rmX3_delete_x1 : Room := { frames := 7, cells := 1, slots := 6, locals := 140 }
set_option maxHeartbeats 4000000 in
set_option maxRecDepth 100000 in
theorem c_X3_delete_x1 (l : Launch) (D : va_G) (sz : Nat) (hl9 : l.stackTraces = false) (x9 : Nat) (p0 p1 : Int32) (hv : ¬ inP p0 (nI 0) (nI 3)) : MTi l yX3_delete wsX3_delete rmX3_delete_x1 [.ref x9, .int p0, .int p1] D [] ([]) sz "java/lang/IndexOutOfBoundsException" (fun (_ : Unit) => True) (fun u9 => []) := by
  refine met_t (own := RX3) (cc := cX3_delete) (maxL := 3) (ret := some .int) hl9 (by decide +kernel) (by decide) rfl rfl (Nat.le_of_ble_eq_true rfl) ?_
  intro p e s m args below meth c Q A hsz S hz hxe hzq hw hA hT hO ls hl
  obtain ⟨hx, hb, hml, hown, hts⟩ := id S
  have hl : lv_has ls 3 [(0, .ref x9), (1, .int p0), (2, .int p1)] := hl
  refine lv_iload_n hx hb dX3_delete_0 rfl (lv_at hl 1 rfl) ?_
  refine cpt_S (As := [.int p0]) (rest := []) S hz hxe hzq (c_X3_checkReplica_t l D (sz := s.heap.size) hl9 (p0 := p0) (hv := hv)) (va_cwS 1 hts gX3_delete_X3_checkReplica rfl rfl rfl (by decide +kernel) ⟨Nat.le_of_ble_eq_true rfl, Nat.le_of_ble_eq_true rfl⟩) hw hA rfl hl.1 (Nat.le_of_ble_eq_true rfl) ⟨Nat.le_of_ble_eq_true rfl, Nat.le_of_ble_eq_true rfl⟩ rfl dX3_delete_1 (fun q9 ce H locs hw h1 h2 h3 => ?_)
  exact hO () (Nat.le_refl _) (Nat.le_refl _) hw trivial h1 h2 h3
abbrev rmX3_delete_x2 : Room := { frames := 7, cells := 1, slots := 6, locals := 140 }
set_option maxHeartbeats 4000000 in
set_option maxRecDepth 100000 in
theorem c_X3_delete_x2 (l : Launch) (D : va_G) (sz : Nat) (hl9 : l.stackTraces = false) (x9 : Nat) (r : Nat) (p1 : Int32) (hr : r < 4) (hv : ¬ inP p1 (nI 0) (nI 5)) : MTi l yX3_delete wsX3_delete rmX3_delete_x2 [.ref x9, .int (nI r), .int p1] D [] ([]) sz "java/lang/IndexOutOfBoundsException" (fun (_ : Unit) => True) (fun u9 => []) := by
  refine met_t (own := RX3) (cc := cX3_delete) (maxL := 3) (ret := some .int) hl9 (by decide +kernel) (by decide) rfl rfl (Nat.le_of_ble_eq_true rfl) ?_
  intro p e s m args below meth c Q A hsz S hz hxe hzq hw hA hT hO ls hl
  obtain ⟨hx, hb, hml, hown, hts⟩ := id S
  have hl : lv_has ls 3 [(0, .ref x9), (1, .int (nI r)), (2, .int p1)] := hl
  refine lv_iload_n hx hb dX3_delete_0 rfl (lv_at hl 1 rfl) ?_
  refine cp_Sv (As := [.int (nI r)]) (rest := []) S (c_X3_checkReplica l D (sz := s.heap.size) (r := r) (hr := hr)) (va_cwS 1 hts gX3_delete_X3_checkReplica rfl rfl rfl (by decide +kernel) ⟨Nat.le_of_ble_eq_true rfl, Nat.le_of_ble_eq_true rfl⟩) hw hA rfl hl.1 (Nat.le_of_ble_eq_true rfl) ⟨Nat.le_of_ble_eq_true rfl, Nat.le_of_ble_eq_true rfl⟩ rfl dX3_delete_1 (fun H locs hw => ?_)
  have hw : Wd D A [] ([]) s s.heap H locs := hw
  refine lv_iload_n hx hb dX3_delete_4 rfl (lv_at hl 2 rfl) ?_
  refine cpt_S (As := [.int p1]) (rest := []) S hz hxe hzq (c_X3_checkRow_t l D (sz := H.size) hl9 (p1 := p1) (hv := hv)) (va_cwS 1 hts gX3_delete_X3_checkRow rfl rfl rfl (by decide +kernel) ⟨Nat.le_of_ble_eq_true rfl, Nat.le_of_ble_eq_true rfl⟩) hw hA rfl hl.1 (Nat.le_of_ble_eq_true rfl) ⟨Nat.le_of_ble_eq_true rfl, Nat.le_of_ble_eq_true rfl⟩ rfl dX3_delete_5 (fun q9 ce H locs hw h1 h2 h3 => ?_)
  exact hO () (Nat.le_refl _) (Nat.le_refl _) hw trivial h1 h2 h3
abbrev rmX3_latest_x1 : Room := { frames := 7, cells := 1, slots := 6, locals := 140 }
set_option maxHeartbeats 4000000 in
set_option maxRecDepth 100000 in
theorem c_X3_latest_x1 (l : Launch) (D : va_G) (sz : Nat) (hl9 : l.stackTraces = false) (x9 : Nat) (p0 p1 : Int32) (hv : ¬ inP p0 (nI 0) (nI 3)) : MTi l yX3_latest wsX3_latest rmX3_latest_x1 [.ref x9, .int p0, .int p1] D [] ([]) sz "java/lang/IndexOutOfBoundsException" (fun (_ : Unit) => True) (fun u9 => []) := by
  refine met_t (own := RX3) (cc := cX3_latest) (maxL := 3) (ret := some .int) hl9 (by decide +kernel) (by decide) rfl rfl (Nat.le_of_ble_eq_true rfl) ?_
  intro p e s m args below meth c Q A hsz S hz hxe hzq hw hA hT hO ls hl
  obtain ⟨hx, hb, hml, hown, hts⟩ := id S
  have hl : lv_has ls 3 [(0, .ref x9), (1, .int p0), (2, .int p1)] := hl
  refine lv_iload_n hx hb dX3_latest_0 rfl (lv_at hl 1 rfl) ?_
  refine cpt_S (As := [.int p0]) (rest := []) S hz hxe hzq (c_X3_checkReplica_t l D (sz := s.heap.size) hl9 (p0 := p0) (hv := hv)) (va_cwS 1 hts gX3_latest_X3_checkReplica rfl rfl rfl (by decide +kernel) ⟨Nat.le_of_ble_eq_true rfl, Nat.le_of_ble_eq_true rfl⟩) hw hA rfl hl.1 (Nat.le_of_ble_eq_true rfl) ⟨Nat.le_of_ble_eq_true rfl, Nat.le_of_ble_eq_true rfl⟩ rfl dX3_latest_1 (fun q9 ce H locs hw h1 h2 h3 => ?_)
  exact hO () (Nat.le_refl _) (Nat.le_refl _) hw trivial h1 h2 h3
abbrev rmX3_latest_x2 : Room := { frames := 7, cells := 1, slots := 6, locals := 140 }
set_option maxHeartbeats 4000000 in
set_option maxRecDepth 100000 in
theorem c_X3_latest_x2 (l : Launch) (D : va_G) (sz : Nat) (hl9 : l.stackTraces = false) (x9 : Nat) (r : Nat) (p1 : Int32) (hr : r < 4) (hv : ¬ inP p1 (nI 0) (nI 5)) : MTi l yX3_latest wsX3_latest rmX3_latest_x2 [.ref x9, .int (nI r), .int p1] D [] ([]) sz "java/lang/IndexOutOfBoundsException" (fun (_ : Unit) => True) (fun u9 => []) := by
  refine met_t (own := RX3) (cc := cX3_latest) (maxL := 3) (ret := some .int) hl9 (by decide +kernel) (by decide) rfl rfl (Nat.le_of_ble_eq_true rfl) ?_
  intro p e s m args below meth c Q A hsz S hz hxe hzq hw hA hT hO ls hl
  obtain ⟨hx, hb, hml, hown, hts⟩ := id S
  have hl : lv_has ls 3 [(0, .ref x9), (1, .int (nI r)), (2, .int p1)] := hl
  refine lv_iload_n hx hb dX3_latest_0 rfl (lv_at hl 1 rfl) ?_
  refine cp_Sv (As := [.int (nI r)]) (rest := []) S (c_X3_checkReplica l D (sz := s.heap.size) (r := r) (hr := hr)) (va_cwS 1 hts gX3_latest_X3_checkReplica rfl rfl rfl (by decide +kernel) ⟨Nat.le_of_ble_eq_true rfl, Nat.le_of_ble_eq_true rfl⟩) hw hA rfl hl.1 (Nat.le_of_ble_eq_true rfl) ⟨Nat.le_of_ble_eq_true rfl, Nat.le_of_ble_eq_true rfl⟩ rfl dX3_latest_1 (fun H locs hw => ?_)
  have hw : Wd D A [] ([]) s s.heap H locs := hw
  refine lv_iload_n hx hb dX3_latest_4 rfl (lv_at hl 2 rfl) ?_
  refine cpt_S (As := [.int p1]) (rest := []) S hz hxe hzq (c_X3_checkRow_t l D (sz := H.size) hl9 (p1 := p1) (hv := hv)) (va_cwS 1 hts gX3_latest_X3_checkRow rfl rfl rfl (by decide +kernel) ⟨Nat.le_of_ble_eq_true rfl, Nat.le_of_ble_eq_true rfl⟩) hw hA rfl hl.1 (Nat.le_of_ble_eq_true rfl) ⟨Nat.le_of_ble_eq_true rfl, Nat.le_of_ble_eq_true rfl⟩ rfl dX3_latest_5 (fun q9 ce H locs hw h1 h2 h3 => ?_)
  exact hO () (Nat.le_refl _) (Nat.le_refl _) hw trivial h1 h2 h3
abbrev rmX3_sibling_x1 : Room := { frames := 7, cells := 1, slots := 6, locals := 140 }
set_option maxHeartbeats 4000000 in
set_option maxRecDepth 100000 in
theorem c_X3_sibling_x1 (l : Launch) (D : va_G) (sz : Nat) (hl9 : l.stackTraces = false) (x9 : Nat) (p0 p1 p2 : Int32) (hv : ¬ inP p0 (nI 0) (nI 3)) : MTi l yX3_sibling wsX3_sibling rmX3_sibling_x1 [.ref x9, .int p0, .int p1, .int p2] D [] ([]) sz "java/lang/IndexOutOfBoundsException" (fun (_ : Unit) => True) (fun u9 => []) := by
  refine met_t (own := RX3) (cc := cX3_sibling) (maxL := 4) (ret := some .int) hl9 (by decide +kernel) (by decide) rfl rfl (Nat.le_of_ble_eq_true rfl) ?_
  intro p e s m args below meth c Q A hsz S hz hxe hzq hw hA hT hO ls hl
  obtain ⟨hx, hb, hml, hown, hts⟩ := id S
  have hl : lv_has ls 4 [(0, .ref x9), (1, .int p0), (2, .int p1), (3, .int p2)] := hl
  refine lv_iload_n hx hb dX3_sibling_0 rfl (lv_at hl 1 rfl) ?_
  refine cpt_S (As := [.int p0]) (rest := []) S hz hxe hzq (c_X3_checkReplica_t l D (sz := s.heap.size) hl9 (p0 := p0) (hv := hv)) (va_cwS 1 hts gX3_sibling_X3_checkReplica rfl rfl rfl (by decide +kernel) ⟨Nat.le_of_ble_eq_true rfl, Nat.le_of_ble_eq_true rfl⟩) hw hA rfl hl.1 (Nat.le_of_ble_eq_true rfl) ⟨Nat.le_of_ble_eq_true rfl, Nat.le_of_ble_eq_true rfl⟩ rfl dX3_sibling_1 (fun q9 ce H locs hw h1 h2 h3 => ?_)
  exact hO () (Nat.le_refl _) (Nat.le_refl _) hw trivial h1 h2 h3
abbrev rmX3_sibling_x2 : Room := { frames := 7, cells := 1, slots := 6, locals := 140 }
set_option maxHeartbeats 4000000 in
set_option maxRecDepth 100000 in
theorem c_X3_sibling_x2 (l : Launch) (D : va_G) (sz : Nat) (hl9 : l.stackTraces = false) (x9 : Nat) (r : Nat) (p1 p2 : Int32) (hr : r < 4) (hv : ¬ inP p1 (nI 0) (nI 5)) : MTi l yX3_sibling wsX3_sibling rmX3_sibling_x2 [.ref x9, .int (nI r), .int p1, .int p2] D [] ([]) sz "java/lang/IndexOutOfBoundsException" (fun (_ : Unit) => True) (fun u9 => []) := by
  refine met_t (own := RX3) (cc := cX3_sibling) (maxL := 4) (ret := some .int) hl9 (by decide +kernel) (by decide) rfl rfl (Nat.le_of_ble_eq_true rfl) ?_
  intro p e s m args below meth c Q A hsz S hz hxe hzq hw hA hT hO ls hl
  obtain ⟨hx, hb, hml, hown, hts⟩ := id S
  have hl : lv_has ls 4 [(0, .ref x9), (1, .int (nI r)), (2, .int p1), (3, .int p2)] := hl
  refine lv_iload_n hx hb dX3_sibling_0 rfl (lv_at hl 1 rfl) ?_
  refine cp_Sv (As := [.int (nI r)]) (rest := []) S (c_X3_checkReplica l D (sz := s.heap.size) (r := r) (hr := hr)) (va_cwS 1 hts gX3_sibling_X3_checkReplica rfl rfl rfl (by decide +kernel) ⟨Nat.le_of_ble_eq_true rfl, Nat.le_of_ble_eq_true rfl⟩) hw hA rfl hl.1 (Nat.le_of_ble_eq_true rfl) ⟨Nat.le_of_ble_eq_true rfl, Nat.le_of_ble_eq_true rfl⟩ rfl dX3_sibling_1 (fun H locs hw => ?_)
  have hw : Wd D A [] ([]) s s.heap H locs := hw
  refine lv_iload_n hx hb dX3_sibling_4 rfl (lv_at hl 2 rfl) ?_
  refine cpt_S (As := [.int p1]) (rest := []) S hz hxe hzq (c_X3_checkRow_t l D (sz := H.size) hl9 (p1 := p1) (hv := hv)) (va_cwS 1 hts gX3_sibling_X3_checkRow rfl rfl rfl (by decide +kernel) ⟨Nat.le_of_ble_eq_true rfl, Nat.le_of_ble_eq_true rfl⟩) hw hA rfl hl.1 (Nat.le_of_ble_eq_true rfl) ⟨Nat.le_of_ble_eq_true rfl, Nat.le_of_ble_eq_true rfl⟩ rfl dX3_sibling_5 (fun q9 ce H locs hw h1 h2 h3 => ?_)
  exact hO () (Nat.le_refl _) (Nat.le_refl _) hw trivial h1 h2 h3
abbrev rmX3_greatest_x1 : Room := { frames := 7, cells := 1, slots := 6, locals := 140 }
set_option maxHeartbeats 4000000 in
set_option maxRecDepth 100000 in
theorem c_X3_greatest_x1 (l : Launch) (D : va_G) (sz : Nat) (hl9 : l.stackTraces = false) (x9 : Nat) (p0 p1 : Int32) (hv : ¬ inP p0 (nI 0) (nI 3)) : MTi l yX3_greatest wsX3_greatest rmX3_greatest_x1 [.ref x9, .int p0, .int p1] D [] ([]) sz "java/lang/IndexOutOfBoundsException" (fun (_ : Unit) => True) (fun u9 => []) := by
  refine met_t (own := RX3) (cc := cX3_greatest) (maxL := 3) (ret := some .int) hl9 (by decide +kernel) (by decide) rfl rfl (Nat.le_of_ble_eq_true rfl) ?_
  intro p e s m args below meth c Q A hsz S hz hxe hzq hw hA hT hO ls hl
  obtain ⟨hx, hb, hml, hown, hts⟩ := id S
  have hl : lv_has ls 3 [(0, .ref x9), (1, .int p0), (2, .int p1)] := hl
  refine lv_iload_n hx hb dX3_greatest_0 rfl (lv_at hl 1 rfl) ?_
  refine cpt_S (As := [.int p0]) (rest := []) S hz hxe hzq (c_X3_checkReplica_t l D (sz := s.heap.size) hl9 (p0 := p0) (hv := hv)) (va_cwS 1 hts gX3_greatest_X3_checkReplica rfl rfl rfl (by decide +kernel) ⟨Nat.le_of_ble_eq_true rfl, Nat.le_of_ble_eq_true rfl⟩) hw hA rfl hl.1 (Nat.le_of_ble_eq_true rfl) ⟨Nat.le_of_ble_eq_true rfl, Nat.le_of_ble_eq_true rfl⟩ rfl dX3_greatest_1 (fun q9 ce H locs hw h1 h2 h3 => ?_)
  exact hO () (Nat.le_refl _) (Nat.le_refl _) hw trivial h1 h2 h3
abbrev rmX3_greatest_x2 : Room := { frames := 7, cells := 1, slots := 6, locals := 140 }
set_option maxHeartbeats 4000000 in
set_option maxRecDepth 100000 in
theorem c_X3_greatest_x2 (l : Launch) (D : va_G) (sz : Nat) (hl9 : l.stackTraces = false) (x9 : Nat) (r : Nat) (p1 : Int32) (hr : r < 4) (hv : ¬ inP p1 (nI 0) (nI 5)) : MTi l yX3_greatest wsX3_greatest rmX3_greatest_x2 [.ref x9, .int (nI r), .int p1] D [] ([]) sz "java/lang/IndexOutOfBoundsException" (fun (_ : Unit) => True) (fun u9 => []) := by
  refine met_t (own := RX3) (cc := cX3_greatest) (maxL := 3) (ret := some .int) hl9 (by decide +kernel) (by decide) rfl rfl (Nat.le_of_ble_eq_true rfl) ?_
  intro p e s m args below meth c Q A hsz S hz hxe hzq hw hA hT hO ls hl
  obtain ⟨hx, hb, hml, hown, hts⟩ := id S
  have hl : lv_has ls 3 [(0, .ref x9), (1, .int (nI r)), (2, .int p1)] := hl
  refine lv_iload_n hx hb dX3_greatest_0 rfl (lv_at hl 1 rfl) ?_
  refine cp_Sv (As := [.int (nI r)]) (rest := []) S (c_X3_checkReplica l D (sz := s.heap.size) (r := r) (hr := hr)) (va_cwS 1 hts gX3_greatest_X3_checkReplica rfl rfl rfl (by decide +kernel) ⟨Nat.le_of_ble_eq_true rfl, Nat.le_of_ble_eq_true rfl⟩) hw hA rfl hl.1 (Nat.le_of_ble_eq_true rfl) ⟨Nat.le_of_ble_eq_true rfl, Nat.le_of_ble_eq_true rfl⟩ rfl dX3_greatest_1 (fun H locs hw => ?_)
  have hw : Wd D A [] ([]) s s.heap H locs := hw
  refine lv_iload_n hx hb dX3_greatest_4 rfl (lv_at hl 2 rfl) ?_
  refine cpt_S (As := [.int p1]) (rest := []) S hz hxe hzq (c_X3_checkRow_t l D (sz := H.size) hl9 (p1 := p1) (hv := hv)) (va_cwS 1 hts gX3_greatest_X3_checkRow rfl rfl rfl (by decide +kernel) ⟨Nat.le_of_ble_eq_true rfl, Nat.le_of_ble_eq_true rfl⟩) hw hA rfl hl.1 (Nat.le_of_ble_eq_true rfl) ⟨Nat.le_of_ble_eq_true rfl, Nat.le_of_ble_eq_true rfl⟩ rfl dX3_greatest_5 (fun q9 ce H locs hw h1 h2 h3 => ?_)
  exact hO () (Nat.le_refl _) (Nat.le_refl _) hw trivial h1 h2 h3
abbrev rmX3_counter_x1 : Room := { frames := 7, cells := 1, slots := 6, locals := 140 }
set_option maxHeartbeats 4000000 in
set_option maxRecDepth 100000 in
theorem c_X3_counter_x1 (l : Launch) (D : va_G) (sz : Nat) (hl9 : l.stackTraces = false) (x9 : Nat) (p0 p1 : Int32) (hv : ¬ inP p0 (nI 0) (nI 3)) : MTi l yX3_counter wsX3_counter rmX3_counter_x1 [.ref x9, .int p0, .int p1] D [] ([]) sz "java/lang/IndexOutOfBoundsException" (fun (_ : Unit) => True) (fun u9 => []) := by
  refine met_t (own := RX3) (cc := cX3_counter) (maxL := 3) (ret := some .int) hl9 (by decide +kernel) (by decide) rfl rfl (Nat.le_of_ble_eq_true rfl) ?_
  intro p e s m args below meth c Q A hsz S hz hxe hzq hw hA hT hO ls hl
  obtain ⟨hx, hb, hml, hown, hts⟩ := id S
  have hl : lv_has ls 3 [(0, .ref x9), (1, .int p0), (2, .int p1)] := hl
  refine lv_iload_n hx hb dX3_counter_0 rfl (lv_at hl 1 rfl) ?_
  refine cpt_S (As := [.int p0]) (rest := []) S hz hxe hzq (c_X3_checkReplica_t l D (sz := s.heap.size) hl9 (p0 := p0) (hv := hv)) (va_cwS 1 hts gX3_counter_X3_checkReplica rfl rfl rfl (by decide +kernel) ⟨Nat.le_of_ble_eq_true rfl, Nat.le_of_ble_eq_true rfl⟩) hw hA rfl hl.1 (Nat.le_of_ble_eq_true rfl) ⟨Nat.le_of_ble_eq_true rfl, Nat.le_of_ble_eq_true rfl⟩ rfl dX3_counter_1 (fun q9 ce H locs hw h1 h2 h3 => ?_)
  exact hO () (Nat.le_refl _) (Nat.le_refl _) hw trivial h1 h2 h3
abbrev rmX3_counter_x2 : Room := { frames := 7, cells := 1, slots := 6, locals := 140 }
set_option maxHeartbeats 4000000 in
set_option maxRecDepth 100000 in
theorem c_X3_counter_x2 (l : Launch) (D : va_G) (sz : Nat) (hl9 : l.stackTraces = false) (x9 : Nat) (r : Nat) (p1 : Int32) (hr : r < 4) (hv : ¬ inP p1 (nI 0) (nI 5)) : MTi l yX3_counter wsX3_counter rmX3_counter_x2 [.ref x9, .int (nI r), .int p1] D [] ([]) sz "java/lang/IndexOutOfBoundsException" (fun (_ : Unit) => True) (fun u9 => []) := by
  refine met_t (own := RX3) (cc := cX3_counter) (maxL := 3) (ret := some .int) hl9 (by decide +kernel) (by decide) rfl rfl (Nat.le_of_ble_eq_true rfl) ?_
  intro p e s m args below meth c Q A hsz S hz hxe hzq hw hA hT hO ls hl
  obtain ⟨hx, hb, hml, hown, hts⟩ := id S
  have hl : lv_has ls 3 [(0, .ref x9), (1, .int (nI r)), (2, .int p1)] := hl
  refine lv_iload_n hx hb dX3_counter_0 rfl (lv_at hl 1 rfl) ?_
  refine cp_Sv (As := [.int (nI r)]) (rest := []) S (c_X3_checkReplica l D (sz := s.heap.size) (r := r) (hr := hr)) (va_cwS 1 hts gX3_counter_X3_checkReplica rfl rfl rfl (by decide +kernel) ⟨Nat.le_of_ble_eq_true rfl, Nat.le_of_ble_eq_true rfl⟩) hw hA rfl hl.1 (Nat.le_of_ble_eq_true rfl) ⟨Nat.le_of_ble_eq_true rfl, Nat.le_of_ble_eq_true rfl⟩ rfl dX3_counter_1 (fun H locs hw => ?_)
  have hw : Wd D A [] ([]) s s.heap H locs := hw
  refine lv_iload_n hx hb dX3_counter_4 rfl (lv_at hl 2 rfl) ?_
  refine cpt_S (As := [.int p1]) (rest := []) S hz hxe hzq (c_X3_checkRow_t l D (sz := H.size) hl9 (p1 := p1) (hv := hv)) (va_cwS 1 hts gX3_counter_X3_checkRow rfl rfl rfl (by decide +kernel) ⟨Nat.le_of_ble_eq_true rfl, Nat.le_of_ble_eq_true rfl⟩) hw hA rfl hl.1 (Nat.le_of_ble_eq_true rfl) ⟨Nat.le_of_ble_eq_true rfl, Nat.le_of_ble_eq_true rfl⟩ rfl dX3_counter_5 (fun q9 ce H locs hw h1 h2 h3 => ?_)
  exact hO () (Nat.le_refl _) (Nat.le_refl _) hw trivial h1 h2 h3
abbrev rmX3_elements_x1 : Room := { frames := 7, cells := 1, slots := 6, locals := 140 }
set_option maxHeartbeats 4000000 in
set_option maxRecDepth 100000 in
theorem c_X3_elements_x1 (l : Launch) (D : va_G) (sz : Nat) (hl9 : l.stackTraces = false) (x9 : Nat) (p0 p1 : Int32) (hv : ¬ inP p0 (nI 0) (nI 3)) : MTi l yX3_elements wsX3_elements rmX3_elements_x1 [.ref x9, .int p0, .int p1] D [] ([]) sz "java/lang/IndexOutOfBoundsException" (fun (_ : Unit) => True) (fun u9 => []) := by
  refine met_t (own := RX3) (cc := cX3_elements) (maxL := 3) (ret := some .int) hl9 (by decide +kernel) (by decide) rfl rfl (Nat.le_of_ble_eq_true rfl) ?_
  intro p e s m args below meth c Q A hsz S hz hxe hzq hw hA hT hO ls hl
  obtain ⟨hx, hb, hml, hown, hts⟩ := id S
  have hl : lv_has ls 3 [(0, .ref x9), (1, .int p0), (2, .int p1)] := hl
  refine lv_iload_n hx hb dX3_elements_0 rfl (lv_at hl 1 rfl) ?_
  refine cpt_S (As := [.int p0]) (rest := []) S hz hxe hzq (c_X3_checkReplica_t l D (sz := s.heap.size) hl9 (p0 := p0) (hv := hv)) (va_cwS 1 hts gX3_elements_X3_checkReplica rfl rfl rfl (by decide +kernel) ⟨Nat.le_of_ble_eq_true rfl, Nat.le_of_ble_eq_true rfl⟩) hw hA rfl hl.1 (Nat.le_of_ble_eq_true rfl) ⟨Nat.le_of_ble_eq_true rfl, Nat.le_of_ble_eq_true rfl⟩ rfl dX3_elements_1 (fun q9 ce H locs hw h1 h2 h3 => ?_)
  exact hO () (Nat.le_refl _) (Nat.le_refl _) hw trivial h1 h2 h3
abbrev rmX3_elements_x2 : Room := { frames := 7, cells := 1, slots := 6, locals := 140 }
set_option maxHeartbeats 4000000 in
set_option maxRecDepth 100000 in
theorem c_X3_elements_x2 (l : Launch) (D : va_G) (sz : Nat) (hl9 : l.stackTraces = false) (x9 : Nat) (r : Nat) (p1 : Int32) (hr : r < 4) (hv : ¬ inP p1 (nI 0) (nI 5)) : MTi l yX3_elements wsX3_elements rmX3_elements_x2 [.ref x9, .int (nI r), .int p1] D [] ([]) sz "java/lang/IndexOutOfBoundsException" (fun (_ : Unit) => True) (fun u9 => []) := by
  refine met_t (own := RX3) (cc := cX3_elements) (maxL := 3) (ret := some .int) hl9 (by decide +kernel) (by decide) rfl rfl (Nat.le_of_ble_eq_true rfl) ?_
  intro p e s m args below meth c Q A hsz S hz hxe hzq hw hA hT hO ls hl
  obtain ⟨hx, hb, hml, hown, hts⟩ := id S
  have hl : lv_has ls 3 [(0, .ref x9), (1, .int (nI r)), (2, .int p1)] := hl
  refine lv_iload_n hx hb dX3_elements_0 rfl (lv_at hl 1 rfl) ?_
  refine cp_Sv (As := [.int (nI r)]) (rest := []) S (c_X3_checkReplica l D (sz := s.heap.size) (r := r) (hr := hr)) (va_cwS 1 hts gX3_elements_X3_checkReplica rfl rfl rfl (by decide +kernel) ⟨Nat.le_of_ble_eq_true rfl, Nat.le_of_ble_eq_true rfl⟩) hw hA rfl hl.1 (Nat.le_of_ble_eq_true rfl) ⟨Nat.le_of_ble_eq_true rfl, Nat.le_of_ble_eq_true rfl⟩ rfl dX3_elements_1 (fun H locs hw => ?_)
  have hw : Wd D A [] ([]) s s.heap H locs := hw
  refine lv_iload_n hx hb dX3_elements_4 rfl (lv_at hl 2 rfl) ?_
  refine cpt_S (As := [.int p1]) (rest := []) S hz hxe hzq (c_X3_checkRow_t l D (sz := H.size) hl9 (p1 := p1) (hv := hv)) (va_cwS 1 hts gX3_elements_X3_checkRow rfl rfl rfl (by decide +kernel) ⟨Nat.le_of_ble_eq_true rfl, Nat.le_of_ble_eq_true rfl⟩) hw hA rfl hl.1 (Nat.le_of_ble_eq_true rfl) ⟨Nat.le_of_ble_eq_true rfl, Nat.le_of_ble_eq_true rfl⟩ rfl dX3_elements_5 (fun q9 ce H locs hw h1 h2 h3 => ?_)
  exact hO () (Nat.le_refl _) (Nat.le_refl _) hw trivial h1 h2 h3
abbrev rmX3_entries_x1 : Room := { frames := 7, cells := 1, slots := 6, locals := 140 }
set_option maxHeartbeats 4000000 in
set_option maxRecDepth 100000 in
theorem c_X3_entries_x1 (l : Launch) (D : va_G) (sz : Nat) (hl9 : l.stackTraces = false) (x9 : Nat) (p0 p1 p2 : Int32) (hv : ¬ inP p0 (nI 0) (nI 3)) : MTi l yX3_entries wsX3_entries rmX3_entries_x1 [.ref x9, .int p0, .int p1, .int p2] D [] ([]) sz "java/lang/IndexOutOfBoundsException" (fun (_ : Unit) => True) (fun u9 => []) := by
  refine met_t (own := RX3) (cc := cX3_entries) (maxL := 4) (ret := some .int) hl9 (by decide +kernel) (by decide) rfl rfl (Nat.le_of_ble_eq_true rfl) ?_
  intro p e s m args below meth c Q A hsz S hz hxe hzq hw hA hT hO ls hl
  obtain ⟨hx, hb, hml, hown, hts⟩ := id S
  have hl : lv_has ls 4 [(0, .ref x9), (1, .int p0), (2, .int p1), (3, .int p2)] := hl
  refine lv_iload_n hx hb dX3_entries_0 rfl (lv_at hl 1 rfl) ?_
  refine cpt_S (As := [.int p0]) (rest := []) S hz hxe hzq (c_X3_checkReplica_t l D (sz := s.heap.size) hl9 (p0 := p0) (hv := hv)) (va_cwS 1 hts gX3_entries_X3_checkReplica rfl rfl rfl (by decide +kernel) ⟨Nat.le_of_ble_eq_true rfl, Nat.le_of_ble_eq_true rfl⟩) hw hA rfl hl.1 (Nat.le_of_ble_eq_true rfl) ⟨Nat.le_of_ble_eq_true rfl, Nat.le_of_ble_eq_true rfl⟩ rfl dX3_entries_1 (fun q9 ce H locs hw h1 h2 h3 => ?_)
  exact hO () (Nat.le_refl _) (Nat.le_refl _) hw trivial h1 h2 h3
abbrev rmX3_entries_x2 : Room := { frames := 7, cells := 1, slots := 6, locals := 140 }
set_option maxHeartbeats 4000000 in
set_option maxRecDepth 100000 in
theorem c_X3_entries_x2 (l : Launch) (D : va_G) (sz : Nat) (hl9 : l.stackTraces = false) (x9 : Nat) (r : Nat) (p1 p2 : Int32) (hr : r < 4) (hv : ¬ inP p1 (nI 0) (nI 5)) : MTi l yX3_entries wsX3_entries rmX3_entries_x2 [.ref x9, .int (nI r), .int p1, .int p2] D [] ([]) sz "java/lang/IndexOutOfBoundsException" (fun (_ : Unit) => True) (fun u9 => []) := by
  refine met_t (own := RX3) (cc := cX3_entries) (maxL := 4) (ret := some .int) hl9 (by decide +kernel) (by decide) rfl rfl (Nat.le_of_ble_eq_true rfl) ?_
  intro p e s m args below meth c Q A hsz S hz hxe hzq hw hA hT hO ls hl
  obtain ⟨hx, hb, hml, hown, hts⟩ := id S
  have hl : lv_has ls 4 [(0, .ref x9), (1, .int (nI r)), (2, .int p1), (3, .int p2)] := hl
  refine lv_iload_n hx hb dX3_entries_0 rfl (lv_at hl 1 rfl) ?_
  refine cp_Sv (As := [.int (nI r)]) (rest := []) S (c_X3_checkReplica l D (sz := s.heap.size) (r := r) (hr := hr)) (va_cwS 1 hts gX3_entries_X3_checkReplica rfl rfl rfl (by decide +kernel) ⟨Nat.le_of_ble_eq_true rfl, Nat.le_of_ble_eq_true rfl⟩) hw hA rfl hl.1 (Nat.le_of_ble_eq_true rfl) ⟨Nat.le_of_ble_eq_true rfl, Nat.le_of_ble_eq_true rfl⟩ rfl dX3_entries_1 (fun H locs hw => ?_)
  have hw : Wd D A [] ([]) s s.heap H locs := hw
  refine lv_iload_n hx hb dX3_entries_4 rfl (lv_at hl 2 rfl) ?_
  refine cpt_S (As := [.int p1]) (rest := []) S hz hxe hzq (c_X3_checkRow_t l D (sz := H.size) hl9 (p1 := p1) (hv := hv)) (va_cwS 1 hts gX3_entries_X3_checkRow rfl rfl rfl (by decide +kernel) ⟨Nat.le_of_ble_eq_true rfl, Nat.le_of_ble_eq_true rfl⟩) hw hA rfl hl.1 (Nat.le_of_ble_eq_true rfl) ⟨Nat.le_of_ble_eq_true rfl, Nat.le_of_ble_eq_true rfl⟩ rfl dX3_entries_5 (fun q9 ce H locs hw h1 h2 h3 => ?_)
  exact hO () (Nat.le_refl _) (Nat.le_refl _) hw trivial h1 h2 h3
abbrev rmX3_exists_x1 : Room := { frames := 7, cells := 1, slots := 6, locals := 140 }
set_option maxHeartbeats 4000000 in
set_option maxRecDepth 100000 in
theorem c_X3_exists_x1 (l : Launch) (D : va_G) (sz : Nat) (hl9 : l.stackTraces = false) (x9 : Nat) (p0 p1 : Int32) (hv : ¬ inP p0 (nI 0) (nI 3)) : MTi l yX3_exists wsX3_exists rmX3_exists_x1 [.ref x9, .int p0, .int p1] D [] ([]) sz "java/lang/IndexOutOfBoundsException" (fun (_ : Unit) => True) (fun u9 => []) := by
  refine met_t (own := RX3) (cc := cX3_exists) (maxL := 3) (ret := some .boolean) hl9 (by decide +kernel) (by decide) rfl rfl (Nat.le_of_ble_eq_true rfl) ?_
  intro p e s m args below meth c Q A hsz S hz hxe hzq hw hA hT hO ls hl
  obtain ⟨hx, hb, hml, hown, hts⟩ := id S
  have hl : lv_has ls 3 [(0, .ref x9), (1, .int p0), (2, .int p1)] := hl
  refine lv_iload_n hx hb dX3_exists_0 rfl (lv_at hl 1 rfl) ?_
  refine cpt_S (As := [.int p0]) (rest := []) S hz hxe hzq (c_X3_checkReplica_t l D (sz := s.heap.size) hl9 (p0 := p0) (hv := hv)) (va_cwS 1 hts gX3_exists_X3_checkReplica rfl rfl rfl (by decide +kernel) ⟨Nat.le_of_ble_eq_true rfl, Nat.le_of_ble_eq_true rfl⟩) hw hA rfl hl.1 (Nat.le_of_ble_eq_true rfl) ⟨Nat.le_of_ble_eq_true rfl, Nat.le_of_ble_eq_true rfl⟩ rfl dX3_exists_1 (fun q9 ce H locs hw h1 h2 h3 => ?_)
  exact hO () (Nat.le_refl _) (Nat.le_refl _) hw trivial h1 h2 h3
abbrev rmX3_exists_x2 : Room := { frames := 7, cells := 1, slots := 6, locals := 140 }
set_option maxHeartbeats 4000000 in
set_option maxRecDepth 100000 in
theorem c_X3_exists_x2 (l : Launch) (D : va_G) (sz : Nat) (hl9 : l.stackTraces = false) (x9 : Nat) (r : Nat) (p1 : Int32) (hr : r < 4) (hv : ¬ inP p1 (nI 0) (nI 5)) : MTi l yX3_exists wsX3_exists rmX3_exists_x2 [.ref x9, .int (nI r), .int p1] D [] ([]) sz "java/lang/IndexOutOfBoundsException" (fun (_ : Unit) => True) (fun u9 => []) := by
  refine met_t (own := RX3) (cc := cX3_exists) (maxL := 3) (ret := some .boolean) hl9 (by decide +kernel) (by decide) rfl rfl (Nat.le_of_ble_eq_true rfl) ?_
  intro p e s m args below meth c Q A hsz S hz hxe hzq hw hA hT hO ls hl
  obtain ⟨hx, hb, hml, hown, hts⟩ := id S
  have hl : lv_has ls 3 [(0, .ref x9), (1, .int (nI r)), (2, .int p1)] := hl
  refine lv_iload_n hx hb dX3_exists_0 rfl (lv_at hl 1 rfl) ?_
  refine cp_Sv (As := [.int (nI r)]) (rest := []) S (c_X3_checkReplica l D (sz := s.heap.size) (r := r) (hr := hr)) (va_cwS 1 hts gX3_exists_X3_checkReplica rfl rfl rfl (by decide +kernel) ⟨Nat.le_of_ble_eq_true rfl, Nat.le_of_ble_eq_true rfl⟩) hw hA rfl hl.1 (Nat.le_of_ble_eq_true rfl) ⟨Nat.le_of_ble_eq_true rfl, Nat.le_of_ble_eq_true rfl⟩ rfl dX3_exists_1 (fun H locs hw => ?_)
  have hw : Wd D A [] ([]) s s.heap H locs := hw
  refine lv_iload_n hx hb dX3_exists_4 rfl (lv_at hl 2 rfl) ?_
  refine cpt_S (As := [.int p1]) (rest := []) S hz hxe hzq (c_X3_checkRow_t l D (sz := H.size) hl9 (p1 := p1) (hv := hv)) (va_cwS 1 hts gX3_exists_X3_checkRow rfl rfl rfl (by decide +kernel) ⟨Nat.le_of_ble_eq_true rfl, Nat.le_of_ble_eq_true rfl⟩) hw hA rfl hl.1 (Nat.le_of_ble_eq_true rfl) ⟨Nat.le_of_ble_eq_true rfl, Nat.le_of_ble_eq_true rfl⟩ rfl dX3_exists_5 (fun q9 ce H locs hw h1 h2 h3 => ?_)
  exact hO () (Nat.le_refl _) (Nat.le_refl _) hw trivial h1 h2 h3
abbrev rmX3_mean_x1 : Room := { frames := 7, cells := 1, slots := 6, locals := 140 }
set_option maxHeartbeats 4000000 in
set_option maxRecDepth 100000 in
theorem c_X3_mean_x1 (l : Launch) (D : va_G) (sz : Nat) (hl9 : l.stackTraces = false) (x9 : Nat) (p0 p1 : Int32) (hv : ¬ inP p0 (nI 0) (nI 3)) : MTf l yX3_mean wsX3_mean rmX3_mean_x1 [.ref x9, .int p0, .int p1] D [] ([]) sz "java/lang/IndexOutOfBoundsException" (fun (_ : Unit) => True) (fun u9 => []) := by
  refine met_t (own := RX3) (cc := cX3_mean) (maxL := 4) (ret := some .float) hl9 (by decide +kernel) (by decide) rfl rfl (Nat.le_of_ble_eq_true rfl) ?_
  intro p e s m args below meth c Q A hsz S hz hxe hzq hw hA hT hO ls hl
  obtain ⟨hx, hb, hml, hown, hts⟩ := id S
  have hl : lv_has ls 4 [(0, .ref x9), (1, .int p0), (2, .int p1)] := hl
  refine lv_iload_n hx hb dX3_mean_0 rfl (lv_at hl 1 rfl) ?_
  refine cpt_S (As := [.int p0]) (rest := []) S hz hxe hzq (c_X3_checkReplica_t l D (sz := s.heap.size) hl9 (p0 := p0) (hv := hv)) (va_cwS 1 hts gX3_mean_X3_checkReplica rfl rfl rfl (by decide +kernel) ⟨Nat.le_of_ble_eq_true rfl, Nat.le_of_ble_eq_true rfl⟩) hw hA rfl hl.1 (Nat.le_of_ble_eq_true rfl) ⟨Nat.le_of_ble_eq_true rfl, Nat.le_of_ble_eq_true rfl⟩ rfl dX3_mean_1 (fun q9 ce H locs hw h1 h2 h3 => ?_)
  exact hO () (Nat.le_refl _) (Nat.le_refl _) hw trivial h1 h2 h3
abbrev rmX3_mean_x2 : Room := { frames := 7, cells := 1, slots := 6, locals := 140 }
set_option maxHeartbeats 4000000 in
set_option maxRecDepth 100000 in
theorem c_X3_mean_x2 (l : Launch) (D : va_G) (sz : Nat) (hl9 : l.stackTraces = false) (x9 : Nat) (r : Nat) (p1 : Int32) (hr : r < 4) (hv : ¬ inP p1 (nI 0) (nI 5)) : MTf l yX3_mean wsX3_mean rmX3_mean_x2 [.ref x9, .int (nI r), .int p1] D [] ([]) sz "java/lang/IndexOutOfBoundsException" (fun (_ : Unit) => True) (fun u9 => []) := by
  refine met_t (own := RX3) (cc := cX3_mean) (maxL := 4) (ret := some .float) hl9 (by decide +kernel) (by decide) rfl rfl (Nat.le_of_ble_eq_true rfl) ?_
  intro p e s m args below meth c Q A hsz S hz hxe hzq hw hA hT hO ls hl
  obtain ⟨hx, hb, hml, hown, hts⟩ := id S
  have hl : lv_has ls 4 [(0, .ref x9), (1, .int (nI r)), (2, .int p1)] := hl
  refine lv_iload_n hx hb dX3_mean_0 rfl (lv_at hl 1 rfl) ?_
  refine cp_Sv (As := [.int (nI r)]) (rest := []) S (c_X3_checkReplica l D (sz := s.heap.size) (r := r) (hr := hr)) (va_cwS 1 hts gX3_mean_X3_checkReplica rfl rfl rfl (by decide +kernel) ⟨Nat.le_of_ble_eq_true rfl, Nat.le_of_ble_eq_true rfl⟩) hw hA rfl hl.1 (Nat.le_of_ble_eq_true rfl) ⟨Nat.le_of_ble_eq_true rfl, Nat.le_of_ble_eq_true rfl⟩ rfl dX3_mean_1 (fun H locs hw => ?_)
  have hw : Wd D A [] ([]) s s.heap H locs := hw
  refine lv_iload_n hx hb dX3_mean_4 rfl (lv_at hl 2 rfl) ?_
  refine cpt_S (As := [.int p1]) (rest := []) S hz hxe hzq (c_X3_checkRow_t l D (sz := H.size) hl9 (p1 := p1) (hv := hv)) (va_cwS 1 hts gX3_mean_X3_checkRow rfl rfl rfl (by decide +kernel) ⟨Nat.le_of_ble_eq_true rfl, Nat.le_of_ble_eq_true rfl⟩) hw hA rfl hl.1 (Nat.le_of_ble_eq_true rfl) ⟨Nat.le_of_ble_eq_true rfl, Nat.le_of_ble_eq_true rfl⟩ rfl dX3_mean_5 (fun q9 ce H locs hw h1 h2 h3 => ?_)
  exact hO () (Nat.le_refl _) (Nat.le_refl _) hw trivial h1 h2 h3
abbrev rmX3_merge_x1 : Room := { frames := 7, cells := 1, slots := 6, locals := 140 }
set_option maxHeartbeats 4000000 in
set_option maxRecDepth 100000 in
theorem c_X3_merge_x1 (l : Launch) (D : va_G) (sz : Nat) (hl9 : l.stackTraces = false) (x9 : Nat) (p0 p1 : Int32) (hv : ¬ inP p0 (nI 0) (nI 3)) : MTi l yX3_merge wsX3_merge rmX3_merge_x1 [.ref x9, .int p0, .int p1] D [] ([]) sz "java/lang/IndexOutOfBoundsException" (fun (_ : Unit) => True) (fun u9 => []) := by
  refine met_t (own := RX3) (cc := cX3_merge) (maxL := 3) (ret := some .int) hl9 (by decide +kernel) (by decide) rfl rfl (Nat.le_of_ble_eq_true rfl) ?_
  intro p e s m args below meth c Q A hsz S hz hxe hzq hw hA hT hO ls hl
  obtain ⟨hx, hb, hml, hown, hts⟩ := id S
  have hl : lv_has ls 3 [(0, .ref x9), (1, .int p0), (2, .int p1)] := hl
  refine lv_iload_n hx hb dX3_merge_0 rfl (lv_at hl 1 rfl) ?_
  refine cpt_S (As := [.int p0]) (rest := []) S hz hxe hzq (c_X3_checkReplica_t l D (sz := s.heap.size) hl9 (p0 := p0) (hv := hv)) (va_cwS 1 hts gX3_merge_X3_checkReplica rfl rfl rfl (by decide +kernel) ⟨Nat.le_of_ble_eq_true rfl, Nat.le_of_ble_eq_true rfl⟩) hw hA rfl hl.1 (Nat.le_of_ble_eq_true rfl) ⟨Nat.le_of_ble_eq_true rfl, Nat.le_of_ble_eq_true rfl⟩ rfl dX3_merge_1 (fun q9 ce H locs hw h1 h2 h3 => ?_)
  exact hO () (Nat.le_refl _) (Nat.le_refl _) hw trivial h1 h2 h3
abbrev rmX3_merge_x2 : Room := { frames := 7, cells := 1, slots := 6, locals := 140 }
set_option maxHeartbeats 4000000 in
set_option maxRecDepth 100000 in
theorem c_X3_merge_x2 (l : Launch) (D : va_G) (sz : Nat) (hl9 : l.stackTraces = false) (x9 : Nat) (r : Nat) (p1 : Int32) (hr : r < 4) (hv : ¬ inP p1 (nI 0) (nI 3)) : MTi l yX3_merge wsX3_merge rmX3_merge_x2 [.ref x9, .int (nI r), .int p1] D [] ([]) sz "java/lang/IndexOutOfBoundsException" (fun (_ : Unit) => True) (fun u9 => []) := by
  refine met_t (own := RX3) (cc := cX3_merge) (maxL := 3) (ret := some .int) hl9 (by decide +kernel) (by decide) rfl rfl (Nat.le_of_ble_eq_true rfl) ?_
  intro p e s m args below meth c Q A hsz S hz hxe hzq hw hA hT hO ls hl
  obtain ⟨hx, hb, hml, hown, hts⟩ := id S
  have hl : lv_has ls 3 [(0, .ref x9), (1, .int (nI r)), (2, .int p1)] := hl
  refine lv_iload_n hx hb dX3_merge_0 rfl (lv_at hl 1 rfl) ?_
  refine cp_Sv (As := [.int (nI r)]) (rest := []) S (c_X3_checkReplica l D (sz := s.heap.size) (r := r) (hr := hr)) (va_cwS 1 hts gX3_merge_X3_checkReplica rfl rfl rfl (by decide +kernel) ⟨Nat.le_of_ble_eq_true rfl, Nat.le_of_ble_eq_true rfl⟩) hw hA rfl hl.1 (Nat.le_of_ble_eq_true rfl) ⟨Nat.le_of_ble_eq_true rfl, Nat.le_of_ble_eq_true rfl⟩ rfl dX3_merge_1 (fun H locs hw => ?_)
  have hw : Wd D A [] ([]) s s.heap H locs := hw
  refine lv_iload_n hx hb dX3_merge_4 rfl (lv_at hl 2 rfl) ?_
  refine cpt_S (As := [.int p1]) (rest := []) S hz hxe hzq (c_X3_checkReplica_t l D (sz := H.size) hl9 (p0 := p1) (hv := hv)) (va_cwS 1 hts gX3_merge_X3_checkReplica rfl rfl rfl (by decide +kernel) ⟨Nat.le_of_ble_eq_true rfl, Nat.le_of_ble_eq_true rfl⟩) hw hA rfl hl.1 (Nat.le_of_ble_eq_true rfl) ⟨Nat.le_of_ble_eq_true rfl, Nat.le_of_ble_eq_true rfl⟩ rfl dX3_merge_5 (fun q9 ce H locs hw h1 h2 h3 => ?_)
  exact hO () (Nat.le_refl _) (Nat.le_refl _) hw trivial h1 h2 h3
abbrev rmX3_seen_x1 : Room := { frames := 7, cells := 1, slots := 6, locals := 140 }
set_option maxHeartbeats 4000000 in
set_option maxRecDepth 100000 in
theorem c_X3_seen_x1 (l : Launch) (D : va_G) (sz : Nat) (hl9 : l.stackTraces = false) (x9 : Nat) (p0 p1 : Int32) (hv : ¬ inP p0 (nI 0) (nI 3)) : MTi l yX3_seen wsX3_seen rmX3_seen_x1 [.ref x9, .int p0, .int p1] D [] ([]) sz "java/lang/IndexOutOfBoundsException" (fun (_ : Unit) => True) (fun u9 => []) := by
  refine met_t (own := RX3) (cc := cX3_seen) (maxL := 3) (ret := some .int) hl9 (by decide +kernel) (by decide) rfl rfl (Nat.le_of_ble_eq_true rfl) ?_
  intro p e s m args below meth c Q A hsz S hz hxe hzq hw hA hT hO ls hl
  obtain ⟨hx, hb, hml, hown, hts⟩ := id S
  have hl : lv_has ls 3 [(0, .ref x9), (1, .int p0), (2, .int p1)] := hl
  refine lv_iload_n hx hb dX3_seen_0 rfl (lv_at hl 1 rfl) ?_
  refine cpt_S (As := [.int p0]) (rest := []) S hz hxe hzq (c_X3_checkReplica_t l D (sz := s.heap.size) hl9 (p0 := p0) (hv := hv)) (va_cwS 1 hts gX3_seen_X3_checkReplica rfl rfl rfl (by decide +kernel) ⟨Nat.le_of_ble_eq_true rfl, Nat.le_of_ble_eq_true rfl⟩) hw hA rfl hl.1 (Nat.le_of_ble_eq_true rfl) ⟨Nat.le_of_ble_eq_true rfl, Nat.le_of_ble_eq_true rfl⟩ rfl dX3_seen_1 (fun q9 ce H locs hw h1 h2 h3 => ?_)
  exact hO () (Nat.le_refl _) (Nat.le_refl _) hw trivial h1 h2 h3
abbrev rmX3_seen_x2 : Room := { frames := 7, cells := 1, slots := 6, locals := 140 }
set_option maxHeartbeats 4000000 in
set_option maxRecDepth 100000 in
theorem c_X3_seen_x2 (l : Launch) (D : va_G) (sz : Nat) (hl9 : l.stackTraces = false) (x9 : Nat) (r : Nat) (p1 : Int32) (hr : r < 4) (hv : ¬ inP p1 (nI 0) (nI 3)) : MTi l yX3_seen wsX3_seen rmX3_seen_x2 [.ref x9, .int (nI r), .int p1] D [] ([]) sz "java/lang/IndexOutOfBoundsException" (fun (_ : Unit) => True) (fun u9 => []) := by
  refine met_t (own := RX3) (cc := cX3_seen) (maxL := 3) (ret := some .int) hl9 (by decide +kernel) (by decide) rfl rfl (Nat.le_of_ble_eq_true rfl) ?_
  intro p e s m args below meth c Q A hsz S hz hxe hzq hw hA hT hO ls hl
  obtain ⟨hx, hb, hml, hown, hts⟩ := id S
  have hl : lv_has ls 3 [(0, .ref x9), (1, .int (nI r)), (2, .int p1)] := hl
  refine lv_iload_n hx hb dX3_seen_0 rfl (lv_at hl 1 rfl) ?_
  refine cp_Sv (As := [.int (nI r)]) (rest := []) S (c_X3_checkReplica l D (sz := s.heap.size) (r := r) (hr := hr)) (va_cwS 1 hts gX3_seen_X3_checkReplica rfl rfl rfl (by decide +kernel) ⟨Nat.le_of_ble_eq_true rfl, Nat.le_of_ble_eq_true rfl⟩) hw hA rfl hl.1 (Nat.le_of_ble_eq_true rfl) ⟨Nat.le_of_ble_eq_true rfl, Nat.le_of_ble_eq_true rfl⟩ rfl dX3_seen_1 (fun H locs hw => ?_)
  have hw : Wd D A [] ([]) s s.heap H locs := hw
  refine lv_iload_n hx hb dX3_seen_4 rfl (lv_at hl 2 rfl) ?_
  refine cpt_S (As := [.int p1]) (rest := []) S hz hxe hzq (c_X3_checkReplica_t l D (sz := H.size) hl9 (p0 := p1) (hv := hv)) (va_cwS 1 hts gX3_seen_X3_checkReplica rfl rfl rfl (by decide +kernel) ⟨Nat.le_of_ble_eq_true rfl, Nat.le_of_ble_eq_true rfl⟩) hw hA rfl hl.1 (Nat.le_of_ble_eq_true rfl) ⟨Nat.le_of_ble_eq_true rfl, Nat.le_of_ble_eq_true rfl⟩ rfl dX3_seen_5 (fun q9 ce H locs hw h1 h2 h3 => ?_)
  exact hO () (Nat.le_refl _) (Nat.le_refl _) hw trivial h1 h2 h3
abbrev rmX3_relation_x1 : Room := { frames := 7, cells := 1, slots := 6, locals := 140 }
set_option maxHeartbeats 4000000 in
set_option maxRecDepth 100000 in
theorem c_X3_relation_x1 (l : Launch) (D : va_G) (sz : Nat) (hl9 : l.stackTraces = false) (x9 : Nat) (p0 p1 : Int32) (hv : ¬ inP p0 (nI 0) (nI 3)) : MTi l yX3_relation wsX3_relation rmX3_relation_x1 [.ref x9, .int p0, .int p1] D [] ([]) sz "java/lang/IndexOutOfBoundsException" (fun (_ : Unit) => True) (fun u9 => []) := by
  refine met_t (own := RX3) (cc := cX3_relation) (maxL := 5) (ret := some .int) hl9 (by decide +kernel) (by decide) rfl rfl (Nat.le_of_ble_eq_true rfl) ?_
  intro p e s m args below meth c Q A hsz S hz hxe hzq hw hA hT hO ls hl
  obtain ⟨hx, hb, hml, hown, hts⟩ := id S
  have hl : lv_has ls 5 [(0, .ref x9), (1, .int p0), (2, .int p1)] := hl
  refine lv_iload_n hx hb dX3_relation_0 rfl (lv_at hl 1 rfl) ?_
  refine cpt_S (As := [.int p0]) (rest := []) S hz hxe hzq (c_X3_checkReplica_t l D (sz := s.heap.size) hl9 (p0 := p0) (hv := hv)) (va_cwS 1 hts gX3_relation_X3_checkReplica rfl rfl rfl (by decide +kernel) ⟨Nat.le_of_ble_eq_true rfl, Nat.le_of_ble_eq_true rfl⟩) hw hA rfl hl.1 (Nat.le_of_ble_eq_true rfl) ⟨Nat.le_of_ble_eq_true rfl, Nat.le_of_ble_eq_true rfl⟩ rfl dX3_relation_1 (fun q9 ce H locs hw h1 h2 h3 => ?_)
  exact hO () (Nat.le_refl _) (Nat.le_refl _) hw trivial h1 h2 h3
abbrev rmX3_relation_x2 : Room := { frames := 7, cells := 1, slots := 6, locals := 140 }
set_option maxHeartbeats 4000000 in
set_option maxRecDepth 100000 in
theorem c_X3_relation_x2 (l : Launch) (D : va_G) (sz : Nat) (hl9 : l.stackTraces = false) (x9 : Nat) (r : Nat) (p1 : Int32) (hr : r < 4) (hv : ¬ inP p1 (nI 0) (nI 3)) : MTi l yX3_relation wsX3_relation rmX3_relation_x2 [.ref x9, .int (nI r), .int p1] D [] ([]) sz "java/lang/IndexOutOfBoundsException" (fun (_ : Unit) => True) (fun u9 => []) := by
  refine met_t (own := RX3) (cc := cX3_relation) (maxL := 5) (ret := some .int) hl9 (by decide +kernel) (by decide) rfl rfl (Nat.le_of_ble_eq_true rfl) ?_
  intro p e s m args below meth c Q A hsz S hz hxe hzq hw hA hT hO ls hl
  obtain ⟨hx, hb, hml, hown, hts⟩ := id S
  have hl : lv_has ls 5 [(0, .ref x9), (1, .int (nI r)), (2, .int p1)] := hl
  refine lv_iload_n hx hb dX3_relation_0 rfl (lv_at hl 1 rfl) ?_
  refine cp_Sv (As := [.int (nI r)]) (rest := []) S (c_X3_checkReplica l D (sz := s.heap.size) (r := r) (hr := hr)) (va_cwS 1 hts gX3_relation_X3_checkReplica rfl rfl rfl (by decide +kernel) ⟨Nat.le_of_ble_eq_true rfl, Nat.le_of_ble_eq_true rfl⟩) hw hA rfl hl.1 (Nat.le_of_ble_eq_true rfl) ⟨Nat.le_of_ble_eq_true rfl, Nat.le_of_ble_eq_true rfl⟩ rfl dX3_relation_1 (fun H locs hw => ?_)
  have hw : Wd D A [] ([]) s s.heap H locs := hw
  refine lv_iload_n hx hb dX3_relation_4 rfl (lv_at hl 2 rfl) ?_
  refine cpt_S (As := [.int p1]) (rest := []) S hz hxe hzq (c_X3_checkReplica_t l D (sz := H.size) hl9 (p0 := p1) (hv := hv)) (va_cwS 1 hts gX3_relation_X3_checkReplica rfl rfl rfl (by decide +kernel) ⟨Nat.le_of_ble_eq_true rfl, Nat.le_of_ble_eq_true rfl⟩) hw hA rfl hl.1 (Nat.le_of_ble_eq_true rfl) ⟨Nat.le_of_ble_eq_true rfl, Nat.le_of_ble_eq_true rfl⟩ rfl dX3_relation_5 (fun q9 ce H locs hw h1 h2 h3 => ?_)
  exact hO () (Nat.le_refl _) (Nat.le_refl _) hw trivial h1 h2 h3
abbrev rmX3_ifMerged_x1 : Room := { frames := 7, cells := 1, slots := 6, locals := 140 }
set_option maxHeartbeats 4000000 in
set_option maxRecDepth 100000 in
theorem c_X3_ifMerged_x1 (l : Launch) (D : va_G) (sz : Nat) (hl9 : l.stackTraces = false) (x9 : Nat) (p0 p1 p2 : Int32) (hv : ¬ inP p0 (nI 0) (nI 3)) : MTi l yX3_ifMerged wsX3_ifMerged rmX3_ifMerged_x1 [.ref x9, .int p0, .int p1, .int p2] D [] ([]) sz "java/lang/IndexOutOfBoundsException" (fun (_ : Unit) => True) (fun u9 => []) := by
  refine met_t (own := RX3) (cc := cX3_ifMerged) (maxL := 4) (ret := some .int) hl9 (by decide +kernel) (by decide) rfl rfl (Nat.le_of_ble_eq_true rfl) ?_
  intro p e s m args below meth c Q A hsz S hz hxe hzq hw hA hT hO ls hl
  obtain ⟨hx, hb, hml, hown, hts⟩ := id S
  have hl : lv_has ls 4 [(0, .ref x9), (1, .int p0), (2, .int p1), (3, .int p2)] := hl
  refine lv_iload_n hx hb dX3_ifMerged_0 rfl (lv_at hl 1 rfl) ?_
  refine cpt_S (As := [.int p0]) (rest := []) S hz hxe hzq (c_X3_checkReplica_t l D (sz := s.heap.size) hl9 (p0 := p0) (hv := hv)) (va_cwS 1 hts gX3_ifMerged_X3_checkReplica rfl rfl rfl (by decide +kernel) ⟨Nat.le_of_ble_eq_true rfl, Nat.le_of_ble_eq_true rfl⟩) hw hA rfl hl.1 (Nat.le_of_ble_eq_true rfl) ⟨Nat.le_of_ble_eq_true rfl, Nat.le_of_ble_eq_true rfl⟩ rfl dX3_ifMerged_1 (fun q9 ce H locs hw h1 h2 h3 => ?_)
  exact hO () (Nat.le_refl _) (Nat.le_refl _) hw trivial h1 h2 h3
abbrev rmX3_ifMerged_x2 : Room := { frames := 7, cells := 1, slots := 6, locals := 140 }
set_option maxHeartbeats 4000000 in
set_option maxRecDepth 100000 in
theorem c_X3_ifMerged_x2 (l : Launch) (D : va_G) (sz : Nat) (hl9 : l.stackTraces = false) (x9 : Nat) (r : Nat) (p1 p2 : Int32) (hr : r < 4) (hv : ¬ inP p1 (nI 0) (nI 3)) : MTi l yX3_ifMerged wsX3_ifMerged rmX3_ifMerged_x2 [.ref x9, .int (nI r), .int p1, .int p2] D [] ([]) sz "java/lang/IndexOutOfBoundsException" (fun (_ : Unit) => True) (fun u9 => []) := by
  refine met_t (own := RX3) (cc := cX3_ifMerged) (maxL := 4) (ret := some .int) hl9 (by decide +kernel) (by decide) rfl rfl (Nat.le_of_ble_eq_true rfl) ?_
  intro p e s m args below meth c Q A hsz S hz hxe hzq hw hA hT hO ls hl
  obtain ⟨hx, hb, hml, hown, hts⟩ := id S
  have hl : lv_has ls 4 [(0, .ref x9), (1, .int (nI r)), (2, .int p1), (3, .int p2)] := hl
  refine lv_iload_n hx hb dX3_ifMerged_0 rfl (lv_at hl 1 rfl) ?_
  refine cp_Sv (As := [.int (nI r)]) (rest := []) S (c_X3_checkReplica l D (sz := s.heap.size) (r := r) (hr := hr)) (va_cwS 1 hts gX3_ifMerged_X3_checkReplica rfl rfl rfl (by decide +kernel) ⟨Nat.le_of_ble_eq_true rfl, Nat.le_of_ble_eq_true rfl⟩) hw hA rfl hl.1 (Nat.le_of_ble_eq_true rfl) ⟨Nat.le_of_ble_eq_true rfl, Nat.le_of_ble_eq_true rfl⟩ rfl dX3_ifMerged_1 (fun H locs hw => ?_)
  have hw : Wd D A [] ([]) s s.heap H locs := hw
  refine lv_iload_n hx hb dX3_ifMerged_4 rfl (lv_at hl 2 rfl) ?_
  refine cpt_S (As := [.int p1]) (rest := []) S hz hxe hzq (c_X3_checkReplica_t l D (sz := H.size) hl9 (p0 := p1) (hv := hv)) (va_cwS 1 hts gX3_ifMerged_X3_checkReplica rfl rfl rfl (by decide +kernel) ⟨Nat.le_of_ble_eq_true rfl, Nat.le_of_ble_eq_true rfl⟩) hw hA rfl hl.1 (Nat.le_of_ble_eq_true rfl) ⟨Nat.le_of_ble_eq_true rfl, Nat.le_of_ble_eq_true rfl⟩ rfl dX3_ifMerged_5 (fun q9 ce H locs hw h1 h2 h3 => ?_)
  exact hO () (Nat.le_refl _) (Nat.le_refl _) hw trivial h1 h2 h3
abbrev rmX3_clock_x1 : Room := { frames := 7, cells := 1, slots := 6, locals := 140 }
set_option maxHeartbeats 4000000 in
set_option maxRecDepth 100000 in
theorem c_X3_clock_x1 (l : Launch) (D : va_G) (sz : Nat) (hl9 : l.stackTraces = false) (x9 : Nat) (p0 : Int32) (hv : ¬ inP p0 (nI 0) (nI 3)) : MTi l yX3_clock wsX3_clock rmX3_clock_x1 [.ref x9, .int p0] D [] ([]) sz "java/lang/IndexOutOfBoundsException" (fun (_ : Unit) => True) (fun u9 => []) := by
  refine met_t (own := RX3) (cc := cX3_clock) (maxL := 2) (ret := some .int) hl9 (by decide +kernel) (by decide) rfl rfl (Nat.le_of_ble_eq_true rfl) ?_
  intro p e s m args below meth c Q A hsz S hz hxe hzq hw hA hT hO ls hl
  obtain ⟨hx, hb, hml, hown, hts⟩ := id S
  have hl : lv_has ls 2 [(0, .ref x9), (1, .int p0)] := hl
  refine lv_iload_n hx hb dX3_clock_0 rfl (lv_at hl 1 rfl) ?_
  refine cpt_S (As := [.int p0]) (rest := []) S hz hxe hzq (c_X3_checkReplica_t l D (sz := s.heap.size) hl9 (p0 := p0) (hv := hv)) (va_cwS 1 hts gX3_clock_X3_checkReplica rfl rfl rfl (by decide +kernel) ⟨Nat.le_of_ble_eq_true rfl, Nat.le_of_ble_eq_true rfl⟩) hw hA rfl hl.1 (Nat.le_of_ble_eq_true rfl) ⟨Nat.le_of_ble_eq_true rfl, Nat.le_of_ble_eq_true rfl⟩ rfl dX3_clock_1 (fun q9 ce H locs hw h1 h2 h3 => ?_)
  exact hO () (Nat.le_refl _) (Nat.le_refl _) hw trivial h1 h2 h3
abbrev rmX3_conflicts_x1 : Room := { frames := 7, cells := 1, slots := 6, locals := 140 }
set_option maxHeartbeats 4000000 in
set_option maxRecDepth 100000 in
theorem c_X3_conflicts_x1 (l : Launch) (D : va_G) (sz : Nat) (hl9 : l.stackTraces = false) (x9 : Nat) (p0 : Int32) (hv : ¬ inP p0 (nI 0) (nI 3)) : MTi l yX3_conflicts wsX3_conflicts rmX3_conflicts_x1 [.ref x9, .int p0] D [] ([]) sz "java/lang/IndexOutOfBoundsException" (fun (_ : Unit) => True) (fun u9 => []) := by
  refine met_t (own := RX3) (cc := cX3_conflicts) (maxL := 4) (ret := some .int) hl9 (by decide +kernel) (by decide) rfl rfl (Nat.le_of_ble_eq_true rfl) ?_
  intro p e s m args below meth c Q A hsz S hz hxe hzq hw hA hT hO ls hl
  obtain ⟨hx, hb, hml, hown, hts⟩ := id S
  have hl : lv_has ls 4 [(0, .ref x9), (1, .int p0)] := hl
  refine lv_iload_n hx hb dX3_conflicts_0 rfl (lv_at hl 1 rfl) ?_
  refine cpt_S (As := [.int p0]) (rest := []) S hz hxe hzq (c_X3_checkReplica_t l D (sz := s.heap.size) hl9 (p0 := p0) (hv := hv)) (va_cwS 1 hts gX3_conflicts_X3_checkReplica rfl rfl rfl (by decide +kernel) ⟨Nat.le_of_ble_eq_true rfl, Nat.le_of_ble_eq_true rfl⟩) hw hA rfl hl.1 (Nat.le_of_ble_eq_true rfl) ⟨Nat.le_of_ble_eq_true rfl, Nat.le_of_ble_eq_true rfl⟩ rfl dX3_conflicts_1 (fun q9 ce H locs hw h1 h2 h3 => ?_)
  exact hO () (Nat.le_refl _) (Nat.le_refl _) hw trivial h1 h2 h3
abbrev rmX3_put_x3 : Room := { frames := 7, cells := 1, slots := 6, locals := 140 }
set_option maxHeartbeats 4000000 in
set_option maxRecDepth 100000 in
theorem c_X3_put_x3 (l : Launch) (D : va_G) (sz : Nat) (hl9 : l.stackTraces = false) (x9 : Nat) (r w : Nat) (p2 p3 : Int32) (hr : r < 4) (hw5 : w < 6) (hv : ¬ inP p2 (nI 0) (nI 2)) : MTi l yX3_put wsX3_put rmX3_put_x3 [.ref x9, .int (nI r), .int (nI w), .int p2, .int p3] D [] ([]) sz "java/lang/IndexOutOfBoundsException" (fun (_ : Unit) => True) (fun u9 => []) := by
  refine met_t (own := RX3) (cc := cX3_put) (maxL := 5) (ret := some .int) hl9 (by decide +kernel) (by decide) rfl rfl (Nat.le_of_ble_eq_true rfl) ?_
  intro p e s m args below meth c Q A hsz S hz hxe hzq hw hA hT hO ls hl
  obtain ⟨hx, hb, hml, hown, hts⟩ := id S
  have hl : lv_has ls 5 [(0, .ref x9), (1, .int (nI r)), (2, .int (nI w)), (3, .int p2), (4, .int p3)] := hl
  refine lv_iload_n hx hb dX3_put_0 rfl (lv_at hl 1 rfl) ?_
  refine cp_Sv (As := [.int (nI r)]) (rest := []) S (c_X3_checkReplica l D (sz := s.heap.size) (r := r) (hr := by omega)) (va_cwS 1 hts gX3_put_X3_checkReplica rfl rfl rfl (by decide +kernel) ⟨Nat.le_of_ble_eq_true rfl, Nat.le_of_ble_eq_true rfl⟩) hw hA rfl hl.1 (Nat.le_of_ble_eq_true rfl) ⟨Nat.le_of_ble_eq_true rfl, Nat.le_of_ble_eq_true rfl⟩ rfl dX3_put_1 (fun H locs hw => ?_)
  have hw : Wd D A [] ([]) s s.heap H locs := hw
  refine lv_iload_n hx hb dX3_put_4 rfl (lv_at hl 2 rfl) ?_
  refine cp_Sv (As := [.int (nI w)]) (rest := []) S (c_X3_checkRow l D (sz := H.size) (w := w) (hw5 := by omega)) (va_cwS 1 hts gX3_put_X3_checkRow rfl rfl rfl (by decide +kernel) ⟨Nat.le_of_ble_eq_true rfl, Nat.le_of_ble_eq_true rfl⟩) hw hA rfl hl.1 (Nat.le_of_ble_eq_true rfl) ⟨Nat.le_of_ble_eq_true rfl, Nat.le_of_ble_eq_true rfl⟩ rfl dX3_put_5 (fun H locs hw => ?_)
  have hw : Wd D A [] ([]) s s.heap H locs := hw
  refine lv_iload_n hx hb dX3_put_8 rfl (lv_at hl 3 rfl) ?_
  refine lv_if_eq (tgt := 32) hx hb dX3_put_9 (by decide) (fun c_9 => ?_) (fun c_9 => ?_)
  ·
    exact absurd (by rw [c_9]; exact inP_n (Nat.le_refl 0) (Nat.zero_le 2) (by decide)) hv
  ·
    refine lv_iload_n hx hb dX3_put_12 rfl (lv_at hl 3 rfl) ?_
    refine lv_iconst (v := nI 1) hx hb dX3_put_13 kc_iconst_1 ?_
    refine lv_icmp_eq (tgt := 32) hx hb dX3_put_14 (by decide) (fun c_14 => ?_) (fun c_14 => ?_)
    ·
      exact absurd (by rw [c_14]; exact inP_n (Nat.zero_le 1) (by decide) (by decide)) hv
    ·
      refine lv_iload_n hx hb dX3_put_17 rfl (lv_at hl 3 rfl) ?_
      refine lv_iconst (v := nI 2) hx hb dX3_put_18 kc_iconst_2 ?_
      refine lv_icmp_eq (tgt := 32) hx hb dX3_put_19 (by decide) (fun c_19 => ?_) (fun c_19 => ?_)
      ·
        exact absurd (by rw [c_19]; exact inP_n (Nat.zero_le 2) (by decide) (by decide)) hv
      ·
        obtain ⟨sa9, hs9⟩ := hxe.str 0 rfl
        exact hT () (hts (.classLink RX3 37 "java/lang/IndexOutOfBoundsException") (by decide +kernel)) (hts (.initialized "java/lang/IndexOutOfBoundsException") (by decide +kernel)) hs9 (xa_1 (fun w h => hts w ((show ∀ w ∈ (vx_atS RX3 41 "java/lang/IndexOutOfBoundsException" ["java/lang/RuntimeException", "java/lang/Exception"]).filter goodWord, w ∈ wsX3_put by decide +kernel) w h)) hxe) xg_1 hl.1 dX3_put_22 dX3_put_25 dX3_put_26 dX3_put_28 dX3_put_31 (by decide) (Nat.le_of_ble_eq_true rfl) (Nat.le_refl _) (Nat.le_refl _) hw trivial
abbrev rmX3_put_x4 : Room := { frames := 7, cells := 1, slots := 6, locals := 140 }
set_option maxHeartbeats 4000000 in
set_option maxRecDepth 100000 in
theorem c_X3_put_x4 (l : Launch) (D : va_G) (sz : Nat) (hl9 : l.stackTraces = false) (x9 : Nat) (r w g : Nat) (v : Int32) (hr : r < 4) (hw5 : w < 6) (hg : g < 3) (hv : ¬ inP v (nI 0) (nI 999)) : MTi l yX3_put wsX3_put rmX3_put_x4 [.ref x9, .int (nI r), .int (nI w), .int (nI g), .int v] D [] ([]) sz "java/lang/IllegalArgumentException" (fun (_ : Unit) => True) (fun u9 => []) := by
  refine met_t (own := RX3) (cc := cX3_put) (maxL := 5) (ret := some .int) hl9 (by decide +kernel) (by decide) rfl rfl (Nat.le_of_ble_eq_true rfl) ?_
  intro p e s m args below meth c Q A hsz S hz hxe hzq hw hA hT hO ls hl
  obtain ⟨hx, hb, hml, hown, hts⟩ := id S
  have hl : lv_has ls 5 [(0, .ref x9), (1, .int (nI r)), (2, .int (nI w)), (3, .int (nI g)), (4, .int v)] := hl
  refine lv_iload_n hx hb dX3_put_0 rfl (lv_at hl 1 rfl) ?_
  refine cp_Sv (As := [.int (nI r)]) (rest := []) S (c_X3_checkReplica l D (sz := s.heap.size) (r := r) (hr := by omega)) (va_cwS 1 hts gX3_put_X3_checkReplica rfl rfl rfl (by decide +kernel) ⟨Nat.le_of_ble_eq_true rfl, Nat.le_of_ble_eq_true rfl⟩) hw hA rfl hl.1 (Nat.le_of_ble_eq_true rfl) ⟨Nat.le_of_ble_eq_true rfl, Nat.le_of_ble_eq_true rfl⟩ rfl dX3_put_1 (fun H locs hw => ?_)
  have hw : Wd D A [] ([]) s s.heap H locs := hw
  refine lv_iload_n hx hb dX3_put_4 rfl (lv_at hl 2 rfl) ?_
  refine cp_Sv (As := [.int (nI w)]) (rest := []) S (c_X3_checkRow l D (sz := H.size) (w := w) (hw5 := by omega)) (va_cwS 1 hts gX3_put_X3_checkRow rfl rfl rfl (by decide +kernel) ⟨Nat.le_of_ble_eq_true rfl, Nat.le_of_ble_eq_true rfl⟩) hw hA rfl hl.1 (Nat.le_of_ble_eq_true rfl) ⟨Nat.le_of_ble_eq_true rfl, Nat.le_of_ble_eq_true rfl⟩ rfl dX3_put_5 (fun H locs hw => ?_)
  have hw : Wd D A [] ([]) s s.heap H locs := hw
  refine lv_iload_n hx hb dX3_put_8 rfl (lv_at hl 3 rfl) ?_
  refine r_if_eqN (tgt := 32) hx hb (by omega) dX3_put_9 (by decide) (fun c_9 => ?_) (fun c_9 => ?_)
  ·
    refine lv_iload hx hb dX3_put_32 (lv_at hl 4 rfl) ?_
    refine lv_if_lt (tgt := 45) hx hb dX3_put_34 (by decide) (fun c_34 => ?_) (fun c_34 => ?_)
    ·
      obtain ⟨sa9, hs9⟩ := hxe.str 1 rfl
      exact hT () (hts (.classLink RX3 44 "java/lang/IllegalArgumentException") (by decide +kernel)) (hts (.initialized "java/lang/IllegalArgumentException") (by decide +kernel)) hs9 (xa_2 (fun w h => hts w ((show ∀ w ∈ (vx_atS RX3 48 "java/lang/IllegalArgumentException" ["java/lang/RuntimeException", "java/lang/Exception"]).filter goodWord, w ∈ wsX3_put by decide +kernel) w h)) hxe) xg_2 hl.1 dX3_put_45 dX3_put_48 dX3_put_49 dX3_put_51 dX3_put_54 (by decide) (Nat.le_of_ble_eq_true rfl) (Nat.le_refl _) (Nat.le_refl _) hw trivial
    ·
      refine lv_iload hx hb dX3_put_37 (lv_at hl 4 rfl) ?_
      refine lv_sipush (v := nI 999) hx hb dX3_put_39 kc_sipush_999 ?_
      refine lv_icmp_le (tgt := 55) hx hb dX3_put_42 (by decide) (fun c_42 => ?_) (fun c_42 => ?_)
      ·
        exact absurd ⟨by rw [nI_0]; exact Int32.not_lt.mp c_34, c_42⟩ hv
      ·
        obtain ⟨sa9, hs9⟩ := hxe.str 1 rfl
        exact hT () (hts (.classLink RX3 44 "java/lang/IllegalArgumentException") (by decide +kernel)) (hts (.initialized "java/lang/IllegalArgumentException") (by decide +kernel)) hs9 (xa_2 (fun w h => hts w ((show ∀ w ∈ (vx_atS RX3 48 "java/lang/IllegalArgumentException" ["java/lang/RuntimeException", "java/lang/Exception"]).filter goodWord, w ∈ wsX3_put by decide +kernel) w h)) hxe) xg_2 hl.1 dX3_put_45 dX3_put_48 dX3_put_49 dX3_put_51 dX3_put_54 (by decide) (Nat.le_of_ble_eq_true rfl) (Nat.le_refl _) (Nat.le_refl _) hw trivial
  ·
    refine lv_iload_n hx hb dX3_put_12 rfl (lv_at hl 3 rfl) ?_
    refine lv_iconst (v := nI 1) hx hb dX3_put_13 kc_iconst_1 ?_
    refine r_icmp_eqN (tgt := 32) hx hb (by omega) (by omega) dX3_put_14 (by decide) (fun c_14 => ?_) (fun c_14 => ?_)
    ·
      refine lv_iload hx hb dX3_put_32 (lv_at hl 4 rfl) ?_
      refine lv_if_lt (tgt := 45) hx hb dX3_put_34 (by decide) (fun c_34 => ?_) (fun c_34 => ?_)
      ·
        obtain ⟨sa9, hs9⟩ := hxe.str 1 rfl
        exact hT () (hts (.classLink RX3 44 "java/lang/IllegalArgumentException") (by decide +kernel)) (hts (.initialized "java/lang/IllegalArgumentException") (by decide +kernel)) hs9 (xa_2 (fun w h => hts w ((show ∀ w ∈ (vx_atS RX3 48 "java/lang/IllegalArgumentException" ["java/lang/RuntimeException", "java/lang/Exception"]).filter goodWord, w ∈ wsX3_put by decide +kernel) w h)) hxe) xg_2 hl.1 dX3_put_45 dX3_put_48 dX3_put_49 dX3_put_51 dX3_put_54 (by decide) (Nat.le_of_ble_eq_true rfl) (Nat.le_refl _) (Nat.le_refl _) hw trivial
      ·
        refine lv_iload hx hb dX3_put_37 (lv_at hl 4 rfl) ?_
        refine lv_sipush (v := nI 999) hx hb dX3_put_39 kc_sipush_999 ?_
        refine lv_icmp_le (tgt := 55) hx hb dX3_put_42 (by decide) (fun c_42 => ?_) (fun c_42 => ?_)
        ·
          exact absurd ⟨by rw [nI_0]; exact Int32.not_lt.mp c_34, c_42⟩ hv
        ·
          obtain ⟨sa9, hs9⟩ := hxe.str 1 rfl
          exact hT () (hts (.classLink RX3 44 "java/lang/IllegalArgumentException") (by decide +kernel)) (hts (.initialized "java/lang/IllegalArgumentException") (by decide +kernel)) hs9 (xa_2 (fun w h => hts w ((show ∀ w ∈ (vx_atS RX3 48 "java/lang/IllegalArgumentException" ["java/lang/RuntimeException", "java/lang/Exception"]).filter goodWord, w ∈ wsX3_put by decide +kernel) w h)) hxe) xg_2 hl.1 dX3_put_45 dX3_put_48 dX3_put_49 dX3_put_51 dX3_put_54 (by decide) (Nat.le_of_ble_eq_true rfl) (Nat.le_refl _) (Nat.le_refl _) hw trivial
    ·
      refine lv_iload_n hx hb dX3_put_17 rfl (lv_at hl 3 rfl) ?_
      refine lv_iconst (v := nI 2) hx hb dX3_put_18 kc_iconst_2 ?_
      refine r_icmp_eqN (tgt := 32) hx hb (by omega) (by omega) dX3_put_19 (by decide) (fun c_19 => ?_) (fun c_19 => ?_)
      ·
        refine lv_iload hx hb dX3_put_32 (lv_at hl 4 rfl) ?_
        refine lv_if_lt (tgt := 45) hx hb dX3_put_34 (by decide) (fun c_34 => ?_) (fun c_34 => ?_)
        ·
          obtain ⟨sa9, hs9⟩ := hxe.str 1 rfl
          exact hT () (hts (.classLink RX3 44 "java/lang/IllegalArgumentException") (by decide +kernel)) (hts (.initialized "java/lang/IllegalArgumentException") (by decide +kernel)) hs9 (xa_2 (fun w h => hts w ((show ∀ w ∈ (vx_atS RX3 48 "java/lang/IllegalArgumentException" ["java/lang/RuntimeException", "java/lang/Exception"]).filter goodWord, w ∈ wsX3_put by decide +kernel) w h)) hxe) xg_2 hl.1 dX3_put_45 dX3_put_48 dX3_put_49 dX3_put_51 dX3_put_54 (by decide) (Nat.le_of_ble_eq_true rfl) (Nat.le_refl _) (Nat.le_refl _) hw trivial
        ·
          refine lv_iload hx hb dX3_put_37 (lv_at hl 4 rfl) ?_
          refine lv_sipush (v := nI 999) hx hb dX3_put_39 kc_sipush_999 ?_
          refine lv_icmp_le (tgt := 55) hx hb dX3_put_42 (by decide) (fun c_42 => ?_) (fun c_42 => ?_)
          ·
            exact absurd ⟨by rw [nI_0]; exact Int32.not_lt.mp c_34, c_42⟩ hv
          ·
            obtain ⟨sa9, hs9⟩ := hxe.str 1 rfl
            exact hT () (hts (.classLink RX3 44 "java/lang/IllegalArgumentException") (by decide +kernel)) (hts (.initialized "java/lang/IllegalArgumentException") (by decide +kernel)) hs9 (xa_2 (fun w h => hts w ((show ∀ w ∈ (vx_atS RX3 48 "java/lang/IllegalArgumentException" ["java/lang/RuntimeException", "java/lang/Exception"]).filter goodWord, w ∈ wsX3_put by decide +kernel) w h)) hxe) xg_2 hl.1 dX3_put_45 dX3_put_48 dX3_put_49 dX3_put_51 dX3_put_54 (by decide) (Nat.le_of_ble_eq_true rfl) (Nat.le_refl _) (Nat.le_refl _) hw trivial
      ·
        exact absurd c_19 (by omega)
abbrev rmX3_add_x3 : Room := { frames := 7, cells := 1, slots := 6, locals := 140 }
set_option maxHeartbeats 4000000 in
set_option maxRecDepth 100000 in
theorem c_X3_add_x3 (l : Launch) (D : va_G) (sz : Nat) (hl9 : l.stackTraces = false) (x9 : Nat) (r w : Nat) (v : Int32) (hr : r < 4) (hw5 : w < 6) (hv : v = 0 ∨ ¬ inP v (-99) (nI 99)) : MTi l yX3_add wsX3_add rmX3_add_x3 [.ref x9, .int (nI r), .int (nI w), .int v] D [] ([]) sz "java/lang/IllegalArgumentException" (fun (_ : Unit) => True) (fun u9 => []) := by
  refine met_t (own := RX3) (cc := cX3_add) (maxL := 4) (ret := some .int) hl9 (by decide +kernel) (by decide) rfl rfl (Nat.le_of_ble_eq_true rfl) ?_
  intro p e s m args below meth c Q A hsz S hz hxe hzq hw hA hT hO ls hl
  obtain ⟨hx, hb, hml, hown, hts⟩ := id S
  have hl : lv_has ls 4 [(0, .ref x9), (1, .int (nI r)), (2, .int (nI w)), (3, .int v)] := hl
  refine lv_iload_n hx hb dX3_add_0 rfl (lv_at hl 1 rfl) ?_
  refine cp_Sv (As := [.int (nI r)]) (rest := []) S (c_X3_checkReplica l D (sz := s.heap.size) (r := r) (hr := by omega)) (va_cwS 1 hts gX3_add_X3_checkReplica rfl rfl rfl (by decide +kernel) ⟨Nat.le_of_ble_eq_true rfl, Nat.le_of_ble_eq_true rfl⟩) hw hA rfl hl.1 (Nat.le_of_ble_eq_true rfl) ⟨Nat.le_of_ble_eq_true rfl, Nat.le_of_ble_eq_true rfl⟩ rfl dX3_add_1 (fun H locs hw => ?_)
  have hw : Wd D A [] ([]) s s.heap H locs := hw
  refine lv_iload_n hx hb dX3_add_4 rfl (lv_at hl 2 rfl) ?_
  refine cp_Sv (As := [.int (nI w)]) (rest := []) S (c_X3_checkRow l D (sz := H.size) (w := w) (hw5 := by omega)) (va_cwS 1 hts gX3_add_X3_checkRow rfl rfl rfl (by decide +kernel) ⟨Nat.le_of_ble_eq_true rfl, Nat.le_of_ble_eq_true rfl⟩) hw hA rfl hl.1 (Nat.le_of_ble_eq_true rfl) ⟨Nat.le_of_ble_eq_true rfl, Nat.le_of_ble_eq_true rfl⟩ rfl dX3_add_5 (fun H locs hw => ?_)
  have hw : Wd D A [] ([]) s s.heap H locs := hw
  refine lv_iload_n hx hb dX3_add_8 rfl (lv_at hl 3 rfl) ?_
  refine lv_bipush (v := (-99)) hx hb dX3_add_9 kc_bipush_m99 ?_
  refine lv_icmp_lt (tgt := 24) hx hb dX3_add_11 (by decide) (fun c_11 => ?_) (fun c_11 => ?_)
  ·
    obtain ⟨sa9, hs9⟩ := hxe.str 2 rfl
    exact hT () (hts (.classLink RX3 44 "java/lang/IllegalArgumentException") (by decide +kernel)) (hts (.initialized "java/lang/IllegalArgumentException") (by decide +kernel)) hs9 (xa_2 (fun w h => hts w ((show ∀ w ∈ (vx_atS RX3 48 "java/lang/IllegalArgumentException" ["java/lang/RuntimeException", "java/lang/Exception"]).filter goodWord, w ∈ wsX3_add by decide +kernel) w h)) hxe) xg_2 hl.1 dX3_add_24 dX3_add_27 dX3_add_28 dX3_add_30 dX3_add_33 (by decide) (Nat.le_of_ble_eq_true rfl) (Nat.le_refl _) (Nat.le_refl _) hw trivial
  ·
    refine lv_iload_n hx hb dX3_add_14 rfl (lv_at hl 3 rfl) ?_
    refine lv_bipush (v := nI 99) hx hb dX3_add_15 kc_bipush_99 ?_
    refine lv_icmp_gt (tgt := 24) hx hb dX3_add_17 (by decide) (fun c_17 => ?_) (fun c_17 => ?_)
    ·
      obtain ⟨sa9, hs9⟩ := hxe.str 2 rfl
      exact hT () (hts (.classLink RX3 44 "java/lang/IllegalArgumentException") (by decide +kernel)) (hts (.initialized "java/lang/IllegalArgumentException") (by decide +kernel)) hs9 (xa_2 (fun w h => hts w ((show ∀ w ∈ (vx_atS RX3 48 "java/lang/IllegalArgumentException" ["java/lang/RuntimeException", "java/lang/Exception"]).filter goodWord, w ∈ wsX3_add by decide +kernel) w h)) hxe) xg_2 hl.1 dX3_add_24 dX3_add_27 dX3_add_28 dX3_add_30 dX3_add_33 (by decide) (Nat.le_of_ble_eq_true rfl) (Nat.le_refl _) (Nat.le_refl _) hw trivial
    ·
      refine lv_iload_n hx hb dX3_add_20 rfl (lv_at hl 3 rfl) ?_
      refine lv_if_ne (tgt := 34) hx hb dX3_add_21 (by decide) (fun c_21 => ?_) (fun c_21 => ?_)
      ·
        exact absurd hv (fun z => z.elim (fun y => c_21 y) (fun y => y ⟨Int32.not_lt.mp c_11, Int32.not_lt.mp c_17⟩))
      ·
        obtain ⟨sa9, hs9⟩ := hxe.str 2 rfl
        exact hT () (hts (.classLink RX3 44 "java/lang/IllegalArgumentException") (by decide +kernel)) (hts (.initialized "java/lang/IllegalArgumentException") (by decide +kernel)) hs9 (xa_2 (fun w h => hts w ((show ∀ w ∈ (vx_atS RX3 48 "java/lang/IllegalArgumentException" ["java/lang/RuntimeException", "java/lang/Exception"]).filter goodWord, w ∈ wsX3_add by decide +kernel) w h)) hxe) xg_2 hl.1 dX3_add_24 dX3_add_27 dX3_add_28 dX3_add_30 dX3_add_33 (by decide) (Nat.le_of_ble_eq_true rfl) (Nat.le_refl _) (Nat.le_refl _) hw trivial
abbrev rmX3_include_x3 : Room := { frames := 7, cells := 1, slots := 6, locals := 140 }
set_option maxHeartbeats 4000000 in
set_option maxRecDepth 100000 in
theorem c_X3_include_x3 (l : Launch) (D : va_G) (sz : Nat) (hl9 : l.stackTraces = false) (x9 : Nat) (r w : Nat) (p2 : Int32) (hr : r < 4) (hw5 : w < 6) (hv : ¬ inP p2 (nI 0) (nI 15)) : MTi l yX3_include wsX3_include rmX3_include_x3 [.ref x9, .int (nI r), .int (nI w), .int p2] D [] ([]) sz "java/lang/IllegalArgumentException" (fun (_ : Unit) => True) (fun u9 => []) := by
  refine met_t (own := RX3) (cc := cX3_include) (maxL := 4) (ret := some .int) hl9 (by decide +kernel) (by decide) rfl rfl (Nat.le_of_ble_eq_true rfl) ?_
  intro p e s m args below meth c Q A hsz S hz hxe hzq hw hA hT hO ls hl
  obtain ⟨hx, hb, hml, hown, hts⟩ := id S
  have hl : lv_has ls 4 [(0, .ref x9), (1, .int (nI r)), (2, .int (nI w)), (3, .int p2)] := hl
  refine lv_iload_n hx hb dX3_include_0 rfl (lv_at hl 1 rfl) ?_
  refine cp_Sv (As := [.int (nI r)]) (rest := []) S (c_X3_checkReplica l D (sz := s.heap.size) (r := r) (hr := by omega)) (va_cwS 1 hts gX3_include_X3_checkReplica rfl rfl rfl (by decide +kernel) ⟨Nat.le_of_ble_eq_true rfl, Nat.le_of_ble_eq_true rfl⟩) hw hA rfl hl.1 (Nat.le_of_ble_eq_true rfl) ⟨Nat.le_of_ble_eq_true rfl, Nat.le_of_ble_eq_true rfl⟩ rfl dX3_include_1 (fun H locs hw => ?_)
  have hw : Wd D A [] ([]) s s.heap H locs := hw
  refine lv_iload_n hx hb dX3_include_4 rfl (lv_at hl 2 rfl) ?_
  refine cp_Sv (As := [.int (nI w)]) (rest := []) S (c_X3_checkRow l D (sz := H.size) (w := w) (hw5 := by omega)) (va_cwS 1 hts gX3_include_X3_checkRow rfl rfl rfl (by decide +kernel) ⟨Nat.le_of_ble_eq_true rfl, Nat.le_of_ble_eq_true rfl⟩) hw hA rfl hl.1 (Nat.le_of_ble_eq_true rfl) ⟨Nat.le_of_ble_eq_true rfl, Nat.le_of_ble_eq_true rfl⟩ rfl dX3_include_5 (fun H locs hw => ?_)
  have hw : Wd D A [] ([]) s s.heap H locs := hw
  refine lv_iload_n hx hb dX3_include_8 rfl (lv_at hl 3 rfl) ?_
  refine cpt_S (As := [.int p2]) (rest := []) S hz hxe hzq (c_X3_checkElement_t l D (sz := H.size) hl9 (p2 := p2) (hv := hv)) (va_cwS 1 hts gX3_include_X3_checkElement rfl rfl rfl (by decide +kernel) ⟨Nat.le_of_ble_eq_true rfl, Nat.le_of_ble_eq_true rfl⟩) hw hA rfl hl.1 (Nat.le_of_ble_eq_true rfl) ⟨Nat.le_of_ble_eq_true rfl, Nat.le_of_ble_eq_true rfl⟩ rfl dX3_include_9 (fun q9 ce H locs hw h1 h2 h3 => ?_)
  exact hO () (Nat.le_refl _) (Nat.le_refl _) hw trivial h1 h2 h3
abbrev rmX3_exclude_x3 : Room := { frames := 7, cells := 1, slots := 6, locals := 140 }
set_option maxHeartbeats 4000000 in
set_option maxRecDepth 100000 in
theorem c_X3_exclude_x3 (l : Launch) (D : va_G) (sz : Nat) (hl9 : l.stackTraces = false) (x9 : Nat) (r w : Nat) (p2 : Int32) (hr : r < 4) (hw5 : w < 6) (hv : ¬ inP p2 (nI 0) (nI 15)) : MTi l yX3_exclude wsX3_exclude rmX3_exclude_x3 [.ref x9, .int (nI r), .int (nI w), .int p2] D [] ([]) sz "java/lang/IllegalArgumentException" (fun (_ : Unit) => True) (fun u9 => []) := by
  refine met_t (own := RX3) (cc := cX3_exclude) (maxL := 4) (ret := some .int) hl9 (by decide +kernel) (by decide) rfl rfl (Nat.le_of_ble_eq_true rfl) ?_
  intro p e s m args below meth c Q A hsz S hz hxe hzq hw hA hT hO ls hl
  obtain ⟨hx, hb, hml, hown, hts⟩ := id S
  have hl : lv_has ls 4 [(0, .ref x9), (1, .int (nI r)), (2, .int (nI w)), (3, .int p2)] := hl
  refine lv_iload_n hx hb dX3_exclude_0 rfl (lv_at hl 1 rfl) ?_
  refine cp_Sv (As := [.int (nI r)]) (rest := []) S (c_X3_checkReplica l D (sz := s.heap.size) (r := r) (hr := by omega)) (va_cwS 1 hts gX3_exclude_X3_checkReplica rfl rfl rfl (by decide +kernel) ⟨Nat.le_of_ble_eq_true rfl, Nat.le_of_ble_eq_true rfl⟩) hw hA rfl hl.1 (Nat.le_of_ble_eq_true rfl) ⟨Nat.le_of_ble_eq_true rfl, Nat.le_of_ble_eq_true rfl⟩ rfl dX3_exclude_1 (fun H locs hw => ?_)
  have hw : Wd D A [] ([]) s s.heap H locs := hw
  refine lv_iload_n hx hb dX3_exclude_4 rfl (lv_at hl 2 rfl) ?_
  refine cp_Sv (As := [.int (nI w)]) (rest := []) S (c_X3_checkRow l D (sz := H.size) (w := w) (hw5 := by omega)) (va_cwS 1 hts gX3_exclude_X3_checkRow rfl rfl rfl (by decide +kernel) ⟨Nat.le_of_ble_eq_true rfl, Nat.le_of_ble_eq_true rfl⟩) hw hA rfl hl.1 (Nat.le_of_ble_eq_true rfl) ⟨Nat.le_of_ble_eq_true rfl, Nat.le_of_ble_eq_true rfl⟩ rfl dX3_exclude_5 (fun H locs hw => ?_)
  have hw : Wd D A [] ([]) s s.heap H locs := hw
  refine lv_iload_n hx hb dX3_exclude_8 rfl (lv_at hl 3 rfl) ?_
  refine cpt_S (As := [.int p2]) (rest := []) S hz hxe hzq (c_X3_checkElement_t l D (sz := H.size) hl9 (p2 := p2) (hv := hv)) (va_cwS 1 hts gX3_exclude_X3_checkElement rfl rfl rfl (by decide +kernel) ⟨Nat.le_of_ble_eq_true rfl, Nat.le_of_ble_eq_true rfl⟩) hw hA rfl hl.1 (Nat.le_of_ble_eq_true rfl) ⟨Nat.le_of_ble_eq_true rfl, Nat.le_of_ble_eq_true rfl⟩ rfl dX3_exclude_9 (fun q9 ce H locs hw h1 h2 h3 => ?_)
  exact hO () (Nat.le_refl _) (Nat.le_refl _) hw trivial h1 h2 h3
abbrev rmX3_merge_x3 : Room := { frames := 7, cells := 1, slots := 6, locals := 140 }
set_option maxHeartbeats 4000000 in
set_option maxRecDepth 100000 in
theorem c_X3_merge_x3 (l : Launch) (D : va_G) (sz : Nat) (hl9 : l.stackTraces = false) (x9 : Nat) (f : Nat) (hf4 : f < 4) : MTi l yX3_merge wsX3_merge rmX3_merge_x3 [.ref x9, .int (nI f), .int (nI f)] D [] ([]) sz "java/lang/IllegalArgumentException" (fun (_ : Unit) => True) (fun u9 => []) := by
  refine met_t (own := RX3) (cc := cX3_merge) (maxL := 3) (ret := some .int) hl9 (by decide +kernel) (by decide) rfl rfl (Nat.le_of_ble_eq_true rfl) ?_
  intro p e s m args below meth c Q A hsz S hz hxe hzq hw hA hT hO ls hl
  obtain ⟨hx, hb, hml, hown, hts⟩ := id S
  have hl : lv_has ls 3 [(0, .ref x9), (1, .int (nI f)), (2, .int (nI f))] := hl
  refine lv_iload_n hx hb dX3_merge_0 rfl (lv_at hl 1 rfl) ?_
  refine cp_Sv (As := [.int (nI f)]) (rest := []) S (c_X3_checkReplica l D (sz := s.heap.size) (r := f) (hr := hf4)) (va_cwS 1 hts gX3_merge_X3_checkReplica rfl rfl rfl (by decide +kernel) ⟨Nat.le_of_ble_eq_true rfl, Nat.le_of_ble_eq_true rfl⟩) hw hA rfl hl.1 (Nat.le_of_ble_eq_true rfl) ⟨Nat.le_of_ble_eq_true rfl, Nat.le_of_ble_eq_true rfl⟩ rfl dX3_merge_1 (fun H locs hw => ?_)
  have hw : Wd D A [] ([]) s s.heap H locs := hw
  refine lv_iload_n hx hb dX3_merge_4 rfl (lv_at hl 2 rfl) ?_
  refine cp_Sv (As := [.int (nI f)]) (rest := []) S (c_X3_checkReplica l D (sz := H.size) (r := f) (hr := hf4)) (va_cwS 1 hts gX3_merge_X3_checkReplica rfl rfl rfl (by decide +kernel) ⟨Nat.le_of_ble_eq_true rfl, Nat.le_of_ble_eq_true rfl⟩) hw hA rfl hl.1 (Nat.le_of_ble_eq_true rfl) ⟨Nat.le_of_ble_eq_true rfl, Nat.le_of_ble_eq_true rfl⟩ rfl dX3_merge_5 (fun H locs hw => ?_)
  have hw : Wd D A [] ([]) s s.heap H locs := hw
  refine lv_iload_n hx hb dX3_merge_8 rfl (lv_at hl 1 rfl) ?_
  refine lv_iload_n hx hb dX3_merge_9 rfl (lv_at hl 2 rfl) ?_
  refine cpt_S (As := [.int (nI f), .int (nI f)]) (rest := []) S hz hxe hzq (c_X3_checkDifferent_t l D (sz := H.size) hl9 (f := f)) (va_cwS 2 hts gX3_merge_X3_checkDifferent rfl rfl rfl (by decide +kernel) ⟨Nat.le_of_ble_eq_true rfl, Nat.le_of_ble_eq_true rfl⟩) hw hA rfl hl.1 (Nat.le_of_ble_eq_true rfl) ⟨Nat.le_of_ble_eq_true rfl, Nat.le_of_ble_eq_true rfl⟩ rfl dX3_merge_10 (fun q9 ce H locs hw h1 h2 h3 => ?_)
  exact hO () (Nat.le_refl _) (Nat.le_refl _) hw trivial h1 h2 h3
abbrev rmX3_sibling_x3 : Room := { frames := 7, cells := 1, slots := 6, locals := 140 }
set_option maxHeartbeats 4000000 in
set_option maxRecDepth 100000 in
theorem c_X3_sibling_x3 (l : Launch) (D : va_G) (sz : Nat) (hl9 : l.stackTraces = false) (x9 : Nat) (r w : Nat) (p2 : Int32) (hr : r < 4) (hw5 : w < 6) (hv : p2 < 0) : MTi l yX3_sibling wsX3_sibling rmX3_sibling_x3 [.ref x9, .int (nI r), .int (nI w), .int p2] D [] ([]) sz "java/lang/IndexOutOfBoundsException" (fun (_ : Unit) => True) (fun u9 => []) := by
  refine met_t (own := RX3) (cc := cX3_sibling) (maxL := 4) (ret := some .int) hl9 (by decide +kernel) (by decide) rfl rfl (Nat.le_of_ble_eq_true rfl) ?_
  intro p e s m args below meth c Q A hsz S hz hxe hzq hw hA hT hO ls hl
  obtain ⟨hx, hb, hml, hown, hts⟩ := id S
  have hl : lv_has ls 4 [(0, .ref x9), (1, .int (nI r)), (2, .int (nI w)), (3, .int p2)] := hl
  refine lv_iload_n hx hb dX3_sibling_0 rfl (lv_at hl 1 rfl) ?_
  refine cp_Sv (As := [.int (nI r)]) (rest := []) S (c_X3_checkReplica l D (sz := s.heap.size) (r := r) (hr := by omega)) (va_cwS 1 hts gX3_sibling_X3_checkReplica rfl rfl rfl (by decide +kernel) ⟨Nat.le_of_ble_eq_true rfl, Nat.le_of_ble_eq_true rfl⟩) hw hA rfl hl.1 (Nat.le_of_ble_eq_true rfl) ⟨Nat.le_of_ble_eq_true rfl, Nat.le_of_ble_eq_true rfl⟩ rfl dX3_sibling_1 (fun H locs hw => ?_)
  have hw : Wd D A [] ([]) s s.heap H locs := hw
  refine lv_iload_n hx hb dX3_sibling_4 rfl (lv_at hl 2 rfl) ?_
  refine cp_Sv (As := [.int (nI w)]) (rest := []) S (c_X3_checkRow l D (sz := H.size) (w := w) (hw5 := by omega)) (va_cwS 1 hts gX3_sibling_X3_checkRow rfl rfl rfl (by decide +kernel) ⟨Nat.le_of_ble_eq_true rfl, Nat.le_of_ble_eq_true rfl⟩) hw hA rfl hl.1 (Nat.le_of_ble_eq_true rfl) ⟨Nat.le_of_ble_eq_true rfl, Nat.le_of_ble_eq_true rfl⟩ rfl dX3_sibling_5 (fun H locs hw => ?_)
  have hw : Wd D A [] ([]) s s.heap H locs := hw
  refine lv_iload_n hx hb dX3_sibling_8 rfl (lv_at hl 3 rfl) ?_
  refine lv_if_ge (tgt := 22) hx hb dX3_sibling_9 (by decide) (fun c_9 => ?_) (fun c_9 => ?_)
  ·
    exact absurd hv (Int32.not_lt.mpr c_9)
  ·
    obtain ⟨sa9, hs9⟩ := hxe.str 7 rfl
    exact hT () (hts (.classLink RX3 37 "java/lang/IndexOutOfBoundsException") (by decide +kernel)) (hts (.initialized "java/lang/IndexOutOfBoundsException") (by decide +kernel)) hs9 (xa_1 (fun w h => hts w ((show ∀ w ∈ (vx_atS RX3 41 "java/lang/IndexOutOfBoundsException" ["java/lang/RuntimeException", "java/lang/Exception"]).filter goodWord, w ∈ wsX3_sibling by decide +kernel) w h)) hxe) xg_1 hl.1 dX3_sibling_12 dX3_sibling_15 dX3_sibling_16 dX3_sibling_18 dX3_sibling_21 (by decide) (Nat.le_of_ble_eq_true rfl) (Nat.le_refl _) (Nat.le_refl _) hw trivial
abbrev rmX3_entries_x3 : Room := { frames := 7, cells := 1, slots := 6, locals := 140 }
set_option maxHeartbeats 4000000 in
set_option maxRecDepth 100000 in
theorem c_X3_entries_x3 (l : Launch) (D : va_G) (sz : Nat) (hl9 : l.stackTraces = false) (x9 : Nat) (r w : Nat) (p2 : Int32) (hr : r < 4) (hw5 : w < 6) (hv : ¬ inP p2 (nI 0) (nI 4)) : MTi l yX3_entries wsX3_entries rmX3_entries_x3 [.ref x9, .int (nI r), .int (nI w), .int p2] D [] ([]) sz "java/lang/IndexOutOfBoundsException" (fun (_ : Unit) => True) (fun u9 => []) := by
  refine met_t (own := RX3) (cc := cX3_entries) (maxL := 4) (ret := some .int) hl9 (by decide +kernel) (by decide) rfl rfl (Nat.le_of_ble_eq_true rfl) ?_
  intro p e s m args below meth c Q A hsz S hz hxe hzq hw hA hT hO ls hl
  obtain ⟨hx, hb, hml, hown, hts⟩ := id S
  have hl : lv_has ls 4 [(0, .ref x9), (1, .int (nI r)), (2, .int (nI w)), (3, .int p2)] := hl
  refine lv_iload_n hx hb dX3_entries_0 rfl (lv_at hl 1 rfl) ?_
  refine cp_Sv (As := [.int (nI r)]) (rest := []) S (c_X3_checkReplica l D (sz := s.heap.size) (r := r) (hr := by omega)) (va_cwS 1 hts gX3_entries_X3_checkReplica rfl rfl rfl (by decide +kernel) ⟨Nat.le_of_ble_eq_true rfl, Nat.le_of_ble_eq_true rfl⟩) hw hA rfl hl.1 (Nat.le_of_ble_eq_true rfl) ⟨Nat.le_of_ble_eq_true rfl, Nat.le_of_ble_eq_true rfl⟩ rfl dX3_entries_1 (fun H locs hw => ?_)
  have hw : Wd D A [] ([]) s s.heap H locs := hw
  refine lv_iload_n hx hb dX3_entries_4 rfl (lv_at hl 2 rfl) ?_
  refine cp_Sv (As := [.int (nI w)]) (rest := []) S (c_X3_checkRow l D (sz := H.size) (w := w) (hw5 := by omega)) (va_cwS 1 hts gX3_entries_X3_checkRow rfl rfl rfl (by decide +kernel) ⟨Nat.le_of_ble_eq_true rfl, Nat.le_of_ble_eq_true rfl⟩) hw hA rfl hl.1 (Nat.le_of_ble_eq_true rfl) ⟨Nat.le_of_ble_eq_true rfl, Nat.le_of_ble_eq_true rfl⟩ rfl dX3_entries_5 (fun H locs hw => ?_)
  have hw : Wd D A [] ([]) s s.heap H locs := hw
  refine lv_iload_n hx hb dX3_entries_8 rfl (lv_at hl 3 rfl) ?_
  refine lv_if_lt (tgt := 17) hx hb dX3_entries_9 (by decide) (fun c_9 => ?_) (fun c_9 => ?_)
  ·
    obtain ⟨sa9, hs9⟩ := hxe.str 8 rfl
    exact hT () (hts (.classLink RX3 37 "java/lang/IndexOutOfBoundsException") (by decide +kernel)) (hts (.initialized "java/lang/IndexOutOfBoundsException") (by decide +kernel)) hs9 (xa_1 (fun w h => hts w ((show ∀ w ∈ (vx_atS RX3 41 "java/lang/IndexOutOfBoundsException" ["java/lang/RuntimeException", "java/lang/Exception"]).filter goodWord, w ∈ wsX3_entries by decide +kernel) w h)) hxe) xg_1 hl.1 dX3_entries_17 dX3_entries_20 dX3_entries_21 dX3_entries_23 dX3_entries_26 (by decide) (Nat.le_of_ble_eq_true rfl) (Nat.le_refl _) (Nat.le_refl _) hw trivial
  ·
    refine lv_iload_n hx hb dX3_entries_12 rfl (lv_at hl 3 rfl) ?_
    refine lv_iconst (v := nI 5) hx hb dX3_entries_13 kc_iconst_5 ?_
    refine lv_icmp_lt (tgt := 27) hx hb dX3_entries_14 (by decide) (fun c_14 => ?_) (fun c_14 => ?_)
    ·
      exact absurd ⟨by rw [nI_0]; exact Int32.not_lt.mp c_9, le_of_ltn (n := 4) c_14 c_9⟩ hv
    ·
      obtain ⟨sa9, hs9⟩ := hxe.str 8 rfl
      exact hT () (hts (.classLink RX3 37 "java/lang/IndexOutOfBoundsException") (by decide +kernel)) (hts (.initialized "java/lang/IndexOutOfBoundsException") (by decide +kernel)) hs9 (xa_1 (fun w h => hts w ((show ∀ w ∈ (vx_atS RX3 41 "java/lang/IndexOutOfBoundsException" ["java/lang/RuntimeException", "java/lang/Exception"]).filter goodWord, w ∈ wsX3_entries by decide +kernel) w h)) hxe) xg_1 hl.1 dX3_entries_17 dX3_entries_20 dX3_entries_21 dX3_entries_23 dX3_entries_26 (by decide) (Nat.le_of_ble_eq_true rfl) (Nat.le_refl _) (Nat.le_refl _) hw trivial
abbrev rmX3_latestMerge_x1 : Room := { frames := 7, cells := 1, slots := 6, locals := 140 }
set_option maxHeartbeats 4000000 in
set_option maxRecDepth 100000 in
theorem c_X3_latestMerge_x1 (l : Launch) (D : va_G) (sz : Nat) (hl9 : l.stackTraces = false) (x9 : Nat) (p0 : Int32) (hv : ¬ inP p0 (nI 0) (nI 3)) : MTi l yX3_latestMerge wsX3_latestMerge rmX3_latestMerge_x1 [.ref x9, .int p0] D [] ([]) sz "java/lang/IllegalArgumentException" (fun (_ : Unit) => True) (fun u9 => []) := by
  refine met_t (own := RX3) (cc := cX3_latestMerge) (maxL := 2) (ret := some .int) hl9 (by decide +kernel) (by decide) rfl rfl (Nat.le_of_ble_eq_true rfl) ?_
  intro p e s m args below meth c Q A hsz S hz hxe hzq hw hA hT hO ls hl
  obtain ⟨hx, hb, hml, hown, hts⟩ := id S
  have hl : lv_has ls 2 [(0, .ref x9), (1, .int p0)] := hl
  refine lv_iload_n hx hb dX3_latestMerge_0 rfl (lv_at hl 1 rfl) ?_
  refine lv_if_lt (tgt := 9) hx hb dX3_latestMerge_1 (by decide) (fun c_1 => ?_) (fun c_1 => ?_)
  ·
    obtain ⟨sa9, hs9⟩ := hxe.str 9 rfl
    exact hT () (hts (.classLink RX3 44 "java/lang/IllegalArgumentException") (by decide +kernel)) (hts (.initialized "java/lang/IllegalArgumentException") (by decide +kernel)) hs9 (xa_2 (fun w h => hts w ((show ∀ w ∈ (vx_atS RX3 48 "java/lang/IllegalArgumentException" ["java/lang/RuntimeException", "java/lang/Exception"]).filter goodWord, w ∈ wsX3_latestMerge by decide +kernel) w h)) hxe) xg_2 hl.1 dX3_latestMerge_9 dX3_latestMerge_12 dX3_latestMerge_13 dX3_latestMerge_15 dX3_latestMerge_18 (by decide) (Nat.le_of_ble_eq_true rfl) (Nat.le_refl _) (Nat.le_refl _) hw trivial
  ·
    refine lv_iload_n hx hb dX3_latestMerge_4 rfl (lv_at hl 1 rfl) ?_
    refine lv_iconst (v := nI 4) hx hb dX3_latestMerge_5 kc_iconst_4 ?_
    refine lv_icmp_lt (tgt := 19) hx hb dX3_latestMerge_6 (by decide) (fun c_6 => ?_) (fun c_6 => ?_)
    ·
      exact absurd ⟨by rw [nI_0]; exact Int32.not_lt.mp c_1, le_of_ltn (n := 3) c_6 c_1⟩ hv
    ·
      obtain ⟨sa9, hs9⟩ := hxe.str 9 rfl
      exact hT () (hts (.classLink RX3 44 "java/lang/IllegalArgumentException") (by decide +kernel)) (hts (.initialized "java/lang/IllegalArgumentException") (by decide +kernel)) hs9 (xa_2 (fun w h => hts w ((show ∀ w ∈ (vx_atS RX3 48 "java/lang/IllegalArgumentException" ["java/lang/RuntimeException", "java/lang/Exception"]).filter goodWord, w ∈ wsX3_latestMerge by decide +kernel) w h)) hxe) xg_2 hl.1 dX3_latestMerge_9 dX3_latestMerge_12 dX3_latestMerge_13 dX3_latestMerge_15 dX3_latestMerge_18 (by decide) (Nat.le_of_ble_eq_true rfl) (Nat.le_refl _) (Nat.le_refl _) hw trivial
abbrev rmX3_ifMerged_x3 : Room := { frames := 7, cells := 1, slots := 6, locals := 140 }
set_option maxHeartbeats 4000000 in
set_option maxRecDepth 100000 in
theorem c_X3_ifMerged_x3 (l : Launch) (D : va_G) (sz : Nat) (hl9 : l.stackTraces = false) (x9 : Nat) (f : Nat) (p2 : Int32) (hf4 : f < 4) : MTi l yX3_ifMerged wsX3_ifMerged rmX3_ifMerged_x3 [.ref x9, .int (nI f), .int (nI f), .int p2] D [] ([]) sz "java/lang/IllegalArgumentException" (fun (_ : Unit) => True) (fun u9 => []) := by
  refine met_t (own := RX3) (cc := cX3_ifMerged) (maxL := 4) (ret := some .int) hl9 (by decide +kernel) (by decide) rfl rfl (Nat.le_of_ble_eq_true rfl) ?_
  intro p e s m args below meth c Q A hsz S hz hxe hzq hw hA hT hO ls hl
  obtain ⟨hx, hb, hml, hown, hts⟩ := id S
  have hl : lv_has ls 4 [(0, .ref x9), (1, .int (nI f)), (2, .int (nI f)), (3, .int p2)] := hl
  refine lv_iload_n hx hb dX3_ifMerged_0 rfl (lv_at hl 1 rfl) ?_
  refine cp_Sv (As := [.int (nI f)]) (rest := []) S (c_X3_checkReplica l D (sz := s.heap.size) (r := f) (hr := hf4)) (va_cwS 1 hts gX3_ifMerged_X3_checkReplica rfl rfl rfl (by decide +kernel) ⟨Nat.le_of_ble_eq_true rfl, Nat.le_of_ble_eq_true rfl⟩) hw hA rfl hl.1 (Nat.le_of_ble_eq_true rfl) ⟨Nat.le_of_ble_eq_true rfl, Nat.le_of_ble_eq_true rfl⟩ rfl dX3_ifMerged_1 (fun H locs hw => ?_)
  have hw : Wd D A [] ([]) s s.heap H locs := hw
  refine lv_iload_n hx hb dX3_ifMerged_4 rfl (lv_at hl 2 rfl) ?_
  refine cp_Sv (As := [.int (nI f)]) (rest := []) S (c_X3_checkReplica l D (sz := H.size) (r := f) (hr := hf4)) (va_cwS 1 hts gX3_ifMerged_X3_checkReplica rfl rfl rfl (by decide +kernel) ⟨Nat.le_of_ble_eq_true rfl, Nat.le_of_ble_eq_true rfl⟩) hw hA rfl hl.1 (Nat.le_of_ble_eq_true rfl) ⟨Nat.le_of_ble_eq_true rfl, Nat.le_of_ble_eq_true rfl⟩ rfl dX3_ifMerged_5 (fun H locs hw => ?_)
  have hw : Wd D A [] ([]) s s.heap H locs := hw
  refine lv_iload_n hx hb dX3_ifMerged_8 rfl (lv_at hl 1 rfl) ?_
  refine lv_iload_n hx hb dX3_ifMerged_9 rfl (lv_at hl 2 rfl) ?_
  refine cpt_S (As := [.int (nI f), .int (nI f)]) (rest := []) S hz hxe hzq (c_X3_checkDifferent_t l D (sz := H.size) hl9 (f := f)) (va_cwS 2 hts gX3_ifMerged_X3_checkDifferent rfl rfl rfl (by decide +kernel) ⟨Nat.le_of_ble_eq_true rfl, Nat.le_of_ble_eq_true rfl⟩) hw hA rfl hl.1 (Nat.le_of_ble_eq_true rfl) ⟨Nat.le_of_ble_eq_true rfl, Nat.le_of_ble_eq_true rfl⟩ rfl dX3_ifMerged_10 (fun q9 ce H locs hw h1 h2 h3 => ?_)
  exact hO () (Nat.le_refl _) (Nat.le_refl _) hw trivial h1 h2 h3
abbrev rmX3_ifMerged_x4 : Room := { frames := 7, cells := 1, slots := 6, locals := 140 }
set_option maxHeartbeats 4000000 in
set_option maxRecDepth 100000 in
theorem c_X3_ifMerged_x4 (l : Launch) (D : va_G) (sz : Nat) (hl9 : l.stackTraces = false) (x9 : Nat) (f t : Nat) (p2 : Int32) (hf4 : f < 4) (ht4 : t < 4) (hne : f ≠ t) (hv : ¬ inP p2 (nI 2) (nI 3)) : MTi l yX3_ifMerged wsX3_ifMerged rmX3_ifMerged_x4 [.ref x9, .int (nI f), .int (nI t), .int p2] D [] ([]) sz "java/lang/IllegalArgumentException" (fun (_ : Unit) => True) (fun u9 => []) := by
  refine met_t (own := RX3) (cc := cX3_ifMerged) (maxL := 4) (ret := some .int) hl9 (by decide +kernel) (by decide) rfl rfl (Nat.le_of_ble_eq_true rfl) ?_
  intro p e s m args below meth c Q A hsz S hz hxe hzq hw hA hT hO ls hl
  obtain ⟨hx, hb, hml, hown, hts⟩ := id S
  have hl : lv_has ls 4 [(0, .ref x9), (1, .int (nI f)), (2, .int (nI t)), (3, .int p2)] := hl
  refine lv_iload_n hx hb dX3_ifMerged_0 rfl (lv_at hl 1 rfl) ?_
  refine cp_Sv (As := [.int (nI f)]) (rest := []) S (c_X3_checkReplica l D (sz := s.heap.size) (r := f) (hr := hf4)) (va_cwS 1 hts gX3_ifMerged_X3_checkReplica rfl rfl rfl (by decide +kernel) ⟨Nat.le_of_ble_eq_true rfl, Nat.le_of_ble_eq_true rfl⟩) hw hA rfl hl.1 (Nat.le_of_ble_eq_true rfl) ⟨Nat.le_of_ble_eq_true rfl, Nat.le_of_ble_eq_true rfl⟩ rfl dX3_ifMerged_1 (fun H locs hw => ?_)
  have hw : Wd D A [] ([]) s s.heap H locs := hw
  refine lv_iload_n hx hb dX3_ifMerged_4 rfl (lv_at hl 2 rfl) ?_
  refine cp_Sv (As := [.int (nI t)]) (rest := []) S (c_X3_checkReplica l D (sz := H.size) (r := t) (hr := ht4)) (va_cwS 1 hts gX3_ifMerged_X3_checkReplica rfl rfl rfl (by decide +kernel) ⟨Nat.le_of_ble_eq_true rfl, Nat.le_of_ble_eq_true rfl⟩) hw hA rfl hl.1 (Nat.le_of_ble_eq_true rfl) ⟨Nat.le_of_ble_eq_true rfl, Nat.le_of_ble_eq_true rfl⟩ rfl dX3_ifMerged_5 (fun H locs hw => ?_)
  have hw : Wd D A [] ([]) s s.heap H locs := hw
  refine lv_iload_n hx hb dX3_ifMerged_8 rfl (lv_at hl 1 rfl) ?_
  refine lv_iload_n hx hb dX3_ifMerged_9 rfl (lv_at hl 2 rfl) ?_
  refine cp_Sv (As := [.int (nI f), .int (nI t)]) (rest := []) S (c_X3_checkDifferent l D (sz := H.size) (f := f) (t := t) (hf4 := hf4) (ht4 := ht4) (hne := hne)) (va_cwS 2 hts gX3_ifMerged_X3_checkDifferent rfl rfl rfl (by decide +kernel) ⟨Nat.le_of_ble_eq_true rfl, Nat.le_of_ble_eq_true rfl⟩) hw hA rfl hl.1 (Nat.le_of_ble_eq_true rfl) ⟨Nat.le_of_ble_eq_true rfl, Nat.le_of_ble_eq_true rfl⟩ rfl dX3_ifMerged_10 (fun H locs hw => ?_)
  have hw : Wd D A [] ([]) s s.heap H locs := hw
  refine lv_iload_n hx hb dX3_ifMerged_13 rfl (lv_at hl 3 rfl) ?_
  refine lv_iconst (v := nI 2) hx hb dX3_ifMerged_14 kc_iconst_2 ?_
  refine lv_icmp_eq (tgt := 33) hx hb dX3_ifMerged_15 (by decide) (fun c_15 => ?_) (fun c_15 => ?_)
  ·
    exact absurd (by rw [c_15]; exact inP_n (Nat.le_refl 2) (by decide) (by decide)) hv
  ·
    refine lv_iload_n hx hb dX3_ifMerged_18 rfl (lv_at hl 3 rfl) ?_
    refine lv_iconst (v := nI 3) hx hb dX3_ifMerged_19 kc_iconst_3 ?_
    refine lv_icmp_eq (tgt := 33) hx hb dX3_ifMerged_20 (by decide) (fun c_20 => ?_) (fun c_20 => ?_)
    ·
      exact absurd (by rw [c_20]; exact inP_n (by decide) (Nat.le_refl 3) (by decide)) hv
    ·
      obtain ⟨sa9, hs9⟩ := hxe.str 10 rfl
      exact hT () (hts (.classLink RX3 44 "java/lang/IllegalArgumentException") (by decide +kernel)) (hts (.initialized "java/lang/IllegalArgumentException") (by decide +kernel)) hs9 (xa_2 (fun w h => hts w ((show ∀ w ∈ (vx_atS RX3 48 "java/lang/IllegalArgumentException" ["java/lang/RuntimeException", "java/lang/Exception"]).filter goodWord, w ∈ wsX3_ifMerged by decide +kernel) w h)) hxe) xg_2 hl.1 dX3_ifMerged_23 dX3_ifMerged_26 dX3_ifMerged_27 dX3_ifMerged_29 dX3_ifMerged_32 (by decide) (Nat.le_of_ble_eq_true rfl) (Nat.le_refl _) (Nat.le_refl _) hw trivial
abbrev rmX3_appendText_x1 : Room := { frames := 7, cells := 1, slots := 6, locals := 140 }
set_option maxHeartbeats 4000000 in
set_option maxRecDepth 100000 in
theorem c_X3_appendText_x1 (l : Launch) (D : va_G) (sz : Nat) (hl9 : l.stackTraces = false) (x9 : Nat) (p0 : Int32) (hv : ¬ inP p0 (nI 32) (nI 126)) : MTi l yX3_appendText wsX3_appendText rmX3_appendText_x1 [.ref x9, .int p0] D [] ([]) sz "java/lang/IllegalArgumentException" (fun (_ : Unit) => True) (fun u9 => []) := by
  refine met_t (own := RX3) (cc := cX3_appendText) (maxL := 2) (ret := some .int) hl9 (by decide +kernel) (by decide) rfl rfl (Nat.le_of_ble_eq_true rfl) ?_
  intro p e s m args below meth c Q A hsz S hz hxe hzq hw hA hT hO ls hl
  obtain ⟨hx, hb, hml, hown, hts⟩ := id S
  have hl : lv_has ls 2 [(0, .ref x9), (1, .int p0)] := hl
  refine lv_iload_n hx hb dX3_appendText_0 rfl (lv_at hl 1 rfl) ?_
  refine lv_bipush (v := nI 32) hx hb dX3_appendText_1 kc_bipush_32 ?_
  refine lv_icmp_lt (tgt := 12) hx hb dX3_appendText_3 (by decide) (fun c_3 => ?_) (fun c_3 => ?_)
  ·
    obtain ⟨sa9, hs9⟩ := hxe.str 3 rfl
    exact hT () (hts (.classLink RX3 44 "java/lang/IllegalArgumentException") (by decide +kernel)) (hts (.initialized "java/lang/IllegalArgumentException") (by decide +kernel)) hs9 (xa_2 (fun w h => hts w ((show ∀ w ∈ (vx_atS RX3 48 "java/lang/IllegalArgumentException" ["java/lang/RuntimeException", "java/lang/Exception"]).filter goodWord, w ∈ wsX3_appendText by decide +kernel) w h)) hxe) xg_2 hl.1 dX3_appendText_12 dX3_appendText_15 dX3_appendText_16 dX3_appendText_18 dX3_appendText_21 (by decide) (Nat.le_of_ble_eq_true rfl) (Nat.le_refl _) (Nat.le_refl _) hw trivial
  ·
    refine lv_iload_n hx hb dX3_appendText_6 rfl (lv_at hl 1 rfl) ?_
    refine lv_bipush (v := nI 126) hx hb dX3_appendText_7 kc_bipush_126 ?_
    refine lv_icmp_le (tgt := 22) hx hb dX3_appendText_9 (by decide) (fun c_9 => ?_) (fun c_9 => ?_)
    ·
      exact absurd ⟨Int32.not_lt.mp c_3, c_9⟩ hv
    ·
      obtain ⟨sa9, hs9⟩ := hxe.str 3 rfl
      exact hT () (hts (.classLink RX3 44 "java/lang/IllegalArgumentException") (by decide +kernel)) (hts (.initialized "java/lang/IllegalArgumentException") (by decide +kernel)) hs9 (xa_2 (fun w h => hts w ((show ∀ w ∈ (vx_atS RX3 48 "java/lang/IllegalArgumentException" ["java/lang/RuntimeException", "java/lang/Exception"]).filter goodWord, w ∈ wsX3_appendText by decide +kernel) w h)) hxe) xg_2 hl.1 dX3_appendText_12 dX3_appendText_15 dX3_appendText_16 dX3_appendText_18 dX3_appendText_21 (by decide) (Nat.le_of_ble_eq_true rfl) (Nat.le_refl _) (Nat.le_refl _) hw trivial
abbrev rmX3_appendText_x2 : Room := { frames := 7, cells := 1, slots := 6, locals := 140 }
set_option maxHeartbeats 4000000 in
set_option maxRecDepth 100000 in
theorem c_X3_appendText_x2 (l : Launch) (D : va_G) (sz : Nat) (hl9 : l.stackTraces = false) (x9 : Nat) (q h9 t9 : Nat → Nat) (cC : ClassId) (tx : Nat → Nat) (ln po : Nat) (ki rp tg nu : Int32) (c9 : Nat) (h32 : 32 ≤ c9) (hc9 : c9 < 127) (hl8 : ln = 80) : MTi l yX3_appendText wsX3_appendText rmX3_appendText_x2 [.ref x9, .int (nI c9)] D [(cC, .char)] ([(x9, .inr (3, [.ref (q 0), .ref (h9 0), .ref (t9 0)]))] ++ wT cC t9 tx ln po ki rp tg nu) sz "java/lang/IllegalStateException" (fun (_ : Unit) => True) (fun u9 => [(x9, .inr (3, [.ref (q 0), .ref (h9 0), .ref (t9 0)]))] ++ wT cC t9 tx ln po ki rp tg nu) := by
  refine met_t (own := RX3) (cc := cX3_appendText) (maxL := 2) (ret := some .int) hl9 (by decide +kernel) (by decide) rfl rfl (Nat.le_of_ble_eq_true rfl) ?_
  intro p e s m args below meth c Q A hsz S hz hxe hzq hw hA hT hO ls hl
  obtain ⟨hx, hb, hml, hown, hts⟩ := id S
  have k26 := hts (.fieldLink RX3 26 "CausalTable" "text" "LCausalTable$Text;") (by decide +kernel)
  have hin3 := (show ∀ w ∈ wsX30, w ∈ wsX3_appendText by decide +kernel)
  have hin2 := (show ∀ w ∈ wsX20, w ∈ wsX3_appendText by decide +kernel)
  have hl : lv_has ls 2 [(0, .ref x9), (1, .int (nI c9))] := hl
  refine lv_iload_n hx hb dX3_appendText_0 rfl (lv_at hl 1 rfl) ?_
  refine lv_bipush (v := nI 32) hx hb dX3_appendText_1 kc_bipush_32 ?_
  refine r_icmp_ltN (tgt := 12) hx hb (by omega) (by omega) dX3_appendText_3 (by decide) (fun c_3 => ?_) (fun c_3 => ?_)
  ·
    exact absurd c_3 (by omega)
  ·
    refine lv_iload_n hx hb dX3_appendText_6 rfl (lv_at hl 1 rfl) ?_
    refine lv_bipush (v := nI 126) hx hb dX3_appendText_7 kc_bipush_126 ?_
    refine r_icmp_leN (tgt := 22) hx hb (by omega) (by omega) dX3_appendText_9 (by decide) (fun c_9 => ?_) (fun c_9 => ?_)
    ·
      refine lv_aload_n hx hb dX3_appendText_22 rfl (lv_at hl 0 rfl) ?_
      refine r_get hx hb hts hown hw.q 0 2 hin3 rfl rfl (by decide) k26 rfl dX3_appendText_23 ?_
      refine r_getN hx hb hts hown hw.q 1 1 hin2 rfl rfl (by decide) (hz.at 3 rfl) rfl dX3_appendText_26 ?_
      refine lv_bipush (v := nI 80) hx hb dX3_appendText_29 kc_bipush_80 ?_
      refine r_icmp_ltN (tgt := 44) hx hb (by omega) (by omega) dX3_appendText_31 (by decide) (fun c_31 => ?_) (fun c_31 => ?_)
      ·
        exact absurd c_31 (by omega)
      ·
        obtain ⟨sa9, hs9⟩ := hxe.str 4 rfl
        exact hT () (hts (.classLink RX3 93 "java/lang/IllegalStateException") (by decide +kernel)) (hts (.initialized "java/lang/IllegalStateException") (by decide +kernel)) hs9 (xa_3 (fun w h => hts w ((show ∀ w ∈ (vx_atS RX3 97 "java/lang/IllegalStateException" ["java/lang/RuntimeException", "java/lang/Exception"]).filter goodWord, w ∈ wsX3_appendText by decide +kernel) w h)) hxe) xg_3 hl.1 dX3_appendText_34 dX3_appendText_37 dX3_appendText_38 dX3_appendText_40 dX3_appendText_43 (by decide) (Nat.le_of_ble_eq_true rfl) (Nat.le_refl _) (Nat.le_refl _) hw trivial
    ·
      exact absurd c_9 (by omega)
abbrev rmX3_undo_x1 : Room := { frames := 7, cells := 1, slots := 6, locals := 140 }
set_option maxHeartbeats 4000000 in
set_option maxRecDepth 100000 in
theorem c_X3_undo_x1 (l : Launch) (D : va_G) (sz : Nat) (hl9 : l.stackTraces = false) (x9 : Nat) (q h9 t9 : Nat → Nat) (cR : ClassId) (f7 : Nat → Option Nat) (ol : Nat) : MTi l yX3_undo wsX3_undo rmX3_undo_x1 [.ref x9] D [(cR, .object RX1)] ([(x9, .inr (3, [.ref (q 0), .ref (h9 0), .ref (t9 0)]))] ++ wR cR h9 f7 ol 0) sz "java/lang/IllegalStateException" (fun (_ : Unit) => True) (fun u9 => [(x9, .inr (3, [.ref (q 0), .ref (h9 0), .ref (t9 0)]))] ++ wR cR h9 f7 ol 0) := by
  refine met_t (own := RX3) (cc := cX3_undo) (maxL := 1) (ret := some .int) hl9 (by decide +kernel) (by decide) rfl rfl (Nat.le_of_ble_eq_true rfl) ?_
  intro p e s m args below meth c Q A hsz S hz hxe hzq hw hA hT hO ls hl
  obtain ⟨hx, hb, hml, hown, hts⟩ := id S
  have k19 := hts (.fieldLink RX3 19 "CausalTable" "history" "LCausalTable$History;") (by decide +kernel)
  have hin3 := (show ∀ w ∈ wsX30, w ∈ wsX3_undo by decide +kernel)
  have hin0 := (show ∀ w ∈ wsX00, w ∈ wsX3_undo by decide +kernel)
  have hl : lv_has ls 1 [(0, .ref x9)] := hl
  refine lv_aload_n hx hb dX3_undo_0 rfl (lv_at hl 0 rfl) ?_
  refine r_get hx hb hts hown hw.q 0 1 hin3 rfl rfl (by decide) k19 rfl dX3_undo_1 ?_
  refine r_getN hx hb hts hown hw.q 1 2 hin0 rfl rfl (by decide) (hz.at 2 rfl) rfl dX3_undo_4 ?_
  refine lv_if_ne (tgt := 20) hx hb dX3_undo_7 (by decide) (fun h => absurd h (by decide)) (fun _ => ?_)
  obtain ⟨sa9, hs9⟩ := hxe.str 6 rfl
  exact hT () (hts (.classLink RX3 93 "java/lang/IllegalStateException") (by decide +kernel)) (hts (.initialized "java/lang/IllegalStateException") (by decide +kernel)) hs9 (xa_3 (fun w h => hts w ((show ∀ w ∈ (vx_atS RX3 97 "java/lang/IllegalStateException" ["java/lang/RuntimeException", "java/lang/Exception"]).filter goodWord, w ∈ wsX3_undo by decide +kernel) w h)) hxe) xg_3 hl.1 dX3_undo_10 dX3_undo_13 dX3_undo_14 dX3_undo_16 dX3_undo_19 (by decide) (Nat.le_of_ble_eq_true rfl) (Nat.le_refl _) (Nat.le_refl _) hw trivial
abbrev rmX3_runText_x1 : Room := { frames := 7, cells := 1, slots := 6, locals := 140 }
set_option maxHeartbeats 4000000 in
set_option maxRecDepth 100000 in
theorem c_X3_runText_x1 (l : Launch) (D : va_G) (sz : Nat) (hl9 : l.stackTraces = false) (x9 : Nat) (q h9 t9 : Nat → Nat) (cC : ClassId) (tx : Nat → Nat) (ln po : Nat) (ki rp tg nu : Int32) (htx : ∀ i, tx i < 127) (hln : ln ≤ 80) (hpo : po < 1000) (hvd : ¬ (vdC tx ln 80 0).1 = true) : MTi l yX3_runText wsX3_runText rmX3_runText_x1 [.ref x9] D [(cC, .char)] ([(x9, .inr (3, [.ref (q 0), .ref (h9 0), .ref (t9 0)]))] ++ wT cC t9 tx ln po ki rp tg nu) sz "java/lang/IllegalStateException" (fun (_ : Int32 × Int32 × Int32 × Int32) => True) (fun u9 => [(x9, .inr (3, [.ref (q 0), .ref (h9 0), .ref (t9 0)]))] ++ wT cC t9 tx ln ((vdC tx ln 80 0).2) u9.1 u9.2.1 u9.2.2.1 u9.2.2.2) := by
  refine met_t (own := RX3) (cc := cX3_runText) (maxL := 2) (ret := some .int) hl9 (by decide +kernel) (by decide) rfl rfl (Nat.le_of_ble_eq_true rfl) ?_
  intro p e s m args below meth c Q A hsz S hz hxe hzq hw hA hT hO ls hl
  obtain ⟨hx, hb, hml, hown, hts⟩ := id S
  have k26 := hts (.fieldLink RX3 26 "CausalTable" "text" "LCausalTable$Text;") (by decide +kernel)
  have hin3 := (show ∀ w ∈ wsX30, w ∈ wsX3_runText by decide +kernel)
  have hl : lv_has ls 2 [(0, .ref x9)] := hl
  refine lv_aload_n hx hb dX3_runText_0 rfl (lv_at hl 0 rfl) ?_
  refine r_get hx hb hts hown hw.q 0 2 hin3 rfl rfl (by decide) k26 rfl dX3_runText_1 ?_
  refine cu_Vi (As := []) (rest := []) (wc := wT cC t9 tx ln po ki rp tg nu) (wr := [(x9, .inr (3, [.ref (q 0), .ref (h9 0), .ref (t9 0)]))]) S (c_X2_findError l D (sz := s.heap.size) (cC := cC) (t9 := t9) (tx := tx) (ln := ln) (po := po) (ki := ki) (rp := rp) (tg := tg) (nu := nu) (htx := htx) (hln := by omega) (hpo := by omega)) (cwV 0 hts gX3_runText_X2_findError rfl rfl rfl (by decide +kernel) ⟨Nat.le_of_ble_eq_true rfl, Nat.le_of_ble_eq_true rfl⟩) hw hA [1, 2] [0] [0] rfl rfl rfl (by decide) (by decide) (by decide) 0 rfl rfl rfl hl.1 (Nat.le_of_ble_eq_true rfl) ⟨Nat.le_of_ble_eq_true rfl, Nat.le_of_ble_eq_true rfl⟩ rfl dX3_runText_4 (fun r_4 u_4 H locs e_4 hw => ?_)
  obtain ⟨u0_4, u1_4, u2_4, u3_4⟩ := u_4
  have hw : Wd D A [(cC, .char)] ([(x9, .inr (3, [.ref (q 0), .ref (h9 0), .ref (t9 0)]))] ++ wT cC t9 tx ln ((vdC tx ln 80 0).2) u0_4 u1_4 u2_4 u3_4) s s.heap H locs := hw
  have e_4 : r_4 = if (vdC tx ln 80 0).1 = true then -1 else nI (vdC tx ln 80 0).2 := e_4
  subst e_4
  refine r_top hx (show (if (vdC tx ln 80 0).1 = true then -1 else nI (vdC tx ln 80 0).2 : Int32) = nI ((vdC tx ln 80 0).2) from if_neg hvd) ?_
  refine lv_iconst (v := (-1)) hx hb dX3_runText_7 kc_iconst_m1 ?_
  have hvl := vdC_le (tx := tx) hln 80 0 (Nat.zero_le _)
  refine lv_icmp_eq (tgt := 21) hx hb dX3_runText_8 (by decide) (fun h => absurd h (fun z => absurd z (by first | exact nI_m1 (by omega) | exact fun y => nI_m1 (by omega) y))) (fun _ => ?_)
  obtain ⟨sa9, hs9⟩ := hxe.str 5 rfl
  exact hT (u0_4, u1_4, u2_4, u3_4) (hts (.classLink RX3 93 "java/lang/IllegalStateException") (by decide +kernel)) (hts (.initialized "java/lang/IllegalStateException") (by decide +kernel)) hs9 (xa_3 (fun w h => hts w ((show ∀ w ∈ (vx_atS RX3 97 "java/lang/IllegalStateException" ["java/lang/RuntimeException", "java/lang/Exception"]).filter goodWord, w ∈ wsX3_runText by decide +kernel) w h)) hxe) xg_3 hl.1 dX3_runText_11 dX3_runText_14 dX3_runText_15 dX3_runText_17 dX3_runText_20 (by decide) (Nat.le_of_ble_eq_true rfl) (Nat.le_refl _) (Nat.le_refl _) hw trivial
