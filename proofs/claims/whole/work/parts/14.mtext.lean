abbrev rmX4_sign : Room := { frames := 0, cells := 0, slots := 0, locals := 0 }
set_option maxHeartbeats 4000000 in
set_option maxRecDepth 100000 in
theorem c_X4_sign (l : Launch) (D : va_G) (cI : ClassId) (m9 : Nat → Nat) (sa : Nat → Int32) (tx : Nat → Nat) (th : Int32) (sv ln po : Nat) (lt fi sc nu : Int32) (ad rv : Nat)  (htx : ∀ i, tx i < 127) (hln : ln ≤ 80) (hpo : po < 1000)  : MQi l yX4_sign wsX4_sign rmX4_sign [.ref (m9 0)] D [(cI, .int)] (wM cI m9 sa tx th sv ln po lt fi sc nu ad rv) (fun rz => rz = nI (sgN tx ln po)) := by
  refine met_q (own := RX4) (cc := cX4_sign) (maxL := 1) (ty := .int) (by decide) rfl rfl (Nat.le_of_ble_eq_true rfl) ?_
  intro p e s m args below meth c Q S hq hE ls hl
  obtain ⟨hx, hb, hml, hown, hts⟩ := id S
  have k127 := hts (.fieldLink RX4 127 "CausalTableModel" "at" "I") (by decide +kernel)
  have hin4 := (show ∀ w ∈ wsX40, w ∈ wsX4_sign by decide +kernel)
  have k124 := hts (.fieldLink RX4 124 "CausalTableModel" "length" "I") (by decide +kernel)
  have k13 := hts (.fieldLink RX4 13 "CausalTableModel" "text" "[I") (by decide +kernel)
  have hl : lv_has ls 1 [(0, .ref (m9 0))] := hl
  refine lv_aload_n hx hb dX4_sign_0 rfl (lv_at hl 0 rfl) ?_
  refine r_get hx hb hts hown hq 0 5 hin4 rfl rfl (by decide) k127 rfl dX4_sign_1 ?_
  refine lv_aload_n hx hb dX4_sign_4 rfl (lv_at hl 0 rfl) ?_
  refine r_get hx hb hts hown hq 0 4 hin4 rfl rfl (by decide) k124 rfl dX4_sign_5 ?_
  refine r_icmp_geN (tgt := 23) hx hb (by omega) (by omega) dX4_sign_8 (by decide) (fun c_8 => ?_) (fun c_8 => ?_)
  ·
    refine lv_iconst (v := nI 0) hx hb dX4_sign_23 kc_iconst_0 ?_
    exact hE dX4_sign_24 (rfl) (show nI 0 = nI (sgN tx ln po) from by rw [sgN]; first | rw [if_pos c_8] | rw [if_neg (Nat.not_lt.mpr c_8)])
  ·
    refine lv_aload_n hx hb dX4_sign_11 rfl (lv_at hl 0 rfl) ?_
    refine r_get hx hb hts hown hq 0 3 hin4 rfl rfl (by decide) k13 rfl dX4_sign_12 ?_
    refine lv_aload_n hx hb dX4_sign_15 rfl (lv_at hl 0 rfl) ?_
    refine r_get hx hb hts hown hq 0 5 hin4 rfl rfl (by decide) k127 rfl dX4_sign_16 ?_
    refine r_ald hx hb hq 2 0 rfl rfl (i := po) (by omega) (by decide) dX4_sign_19 ?_
    refine r_top hx (show (fun i => nI (tx i)) po = nI (tx po) from rfl) ?_
    refine lv_goto (tgt := 24) hx hb dX4_sign_20 (by decide) ?_
    exact hE dX4_sign_24 (rfl) (show nI (tx po) = nI (sgN tx ln po) from by rw [sgN]; first | rw [if_pos c_8] | rw [if_neg (Nat.not_lt.mpr c_8)])
abbrev rmX4_takes : Room := { frames := 1, cells := 0, slots := 0, locals := 20 }
set_option maxHeartbeats 4000000 in
set_option maxRecDepth 100000 in
theorem c_X4_takes (l : Launch) (D : va_G) (sz : Nat) (cI : ClassId) (m9 : Nat → Nat) (sa : Nat → Int32) (tx : Nat → Nat) (th : Int32) (sv ln po : Nat) (lt fi sc nu : Int32) (ad rv : Nat) (c9 : Nat) (htx : ∀ i, tx i < 127) (hln : ln ≤ 80) (hpo : po < 1000) (h1c : c9 < 2 ^ 31) : MUi l yX4_takes wsX4_takes rmX4_takes [.ref (m9 0), .int (nI c9)] D [(cI, .int)] (wM cI m9 sa tx th sv ln po lt fi sc nu ad rv) sz (fun rz (u9 : Unit) => rz = b2 (sgN tx ln po = c9)) (fun u9 => []) (fun u9 => wM cI m9 sa tx th sv ln (po + (if sgN tx ln po = c9 then 1 else 0)) lt fi sc nu ad rv) 0 0 := by
  refine met_u (own := RX4) (cc := cX4_takes) (maxL := 3) (ty := .boolean) (by decide) rfl rfl (Nat.le_of_ble_eq_true rfl) ?_
  intro p e s m args below meth c Q A hsz S hw hA hE ls hl
  obtain ⟨hx, hb, hml, hown, hts⟩ := id S
  have k127 := hts (.fieldLink RX4 127 "CausalTableModel" "at" "I") (by decide +kernel)
  have hin4 := (show ∀ w ∈ wsX40, w ∈ wsX4_takes by decide +kernel)
  have hl : lv_has ls 3 [(0, .ref (m9 0)), (1, .int (nI c9))] := hl
  have hsg := sgN_lt htx ln po
  refine lv_aload_n hx hb dX4_takes_0 rfl (lv_at hl 0 rfl) ?_
  refine cq_V (As := []) (rest := []) S (c_X4_sign l D (cI := cI) (m9 := m9) (sa := sa) (tx := tx) (th := th) (sv := sv) (ln := ln) (po := po) (lt := lt) (fi := fi) (sc := sc) (nu := nu) (ad := ad) (rv := rv) (htx := htx) (hln := by omega) (hpo := by omega)) (cwV 0 hts gX4_takes_X4_sign rfl rfl rfl (by decide +kernel) ⟨Nat.le_of_ble_eq_true rfl, Nat.le_of_ble_eq_true rfl⟩) (hw.q.sub [0, 1, 2] [0] rfl rfl) 0 rfl rfl rfl hl.1 (Nat.le_of_ble_eq_true rfl) ⟨Nat.le_of_ble_eq_true rfl, Nat.le_of_ble_eq_true rfl⟩ rfl dX4_takes_1 (fun r_1 e_1 => ?_)
  have e_1 : r_1 = nI (sgN tx ln po) := e_1
  subst e_1
  refine lv_iload_n hx hb dX4_takes_4 rfl (lv_at hl 1 rfl) ?_
  refine r_icmp_neN (tgt := 12) hx hb (by omega) (by omega) dX4_takes_5 (by decide) (fun c_5 => ?_) (fun c_5 => ?_)
  ·
    refine lv_iconst (v := nI 0) hx hb dX4_takes_12 kc_iconst_0 ?_
    refine lv_istore_n (lv' := [(2, .int (nI 0)), (0, .ref (m9 0)), (1, .int (nI c9))]) hx hb dX4_takes_13 rfl hl (by decide) rfl (fun ls hl => ?_)
    refine lv_aload_n hx hb dX4_takes_14 rfl (lv_at hl 1 rfl) ?_
    refine lv_dup hx hb dX4_takes_15 rfl ?_
    refine r_get hx hb hts hown hw.q 0 5 hin4 rfl rfl (by decide) k127 rfl dX4_takes_16 ?_
    refine lv_iload_n hx hb dX4_takes_19 rfl (lv_at hl 0 rfl) ?_
    refine lv_if_eq (tgt := 27) hx hb dX4_takes_20 (by decide) (fun _ => ?_) (fun h => absurd h (by decide))
    refine lv_iconst (v := nI 0) hx hb dX4_takes_27 kc_iconst_0 ?_
    refine r_addN hx hb dX4_takes_28 ?_
    refine r_put hx hb hts hown hw 0 5 (ty := .int) tyX4 tyX4_ok nmX4 hin4 rfl rfl (by decide) k127 rfl (by decide +kernel) rfl rfl (Nat.le_of_ble_eq_true rfl) dX4_takes_29 (fun H locs hw => ?_)
    have hw : Wd D A [(cI, .int)] (wM cI m9 sa tx th sv ln (po + 0) lt fi sc nu ad rv) s s.heap H locs := hw
    refine lv_iload_n hx hb dX4_takes_32 rfl (lv_at hl 0 rfl) ?_
    have ew : (wM cI m9 sa tx th sv ln (po + 0) lt fi sc nu ad rv) = (wM cI m9 sa tx th sv ln (po + (if sgN tx ln po = c9 then 1 else 0)) lt fi sc nu ad rv) := by first | rw [if_pos c_5] | (rw [if_neg c_5] <;> rfl)
    rw [ew] at hw
    exact hE () dX4_takes_33 (by first | rfl | exact b2_nz) (Nat.le_of_ble_eq_true rfl) (Nat.le_of_ble_eq_true rfl) (hw.sub [0, 1, 2] [] (by decide) rfl rfl) (show nI 0 = b2 (sgN tx ln po = c9) from by first | exact ret1 c_5 | exact ret0 c_5)
  ·
    refine lv_iconst (v := nI 1) hx hb dX4_takes_8 kc_iconst_1 ?_
    refine lv_goto (tgt := 13) hx hb dX4_takes_9 (by decide) ?_
    refine lv_istore_n (lv' := [(2, .int (nI 1)), (0, .ref (m9 0)), (1, .int (nI c9))]) hx hb dX4_takes_13 rfl hl (by decide) rfl (fun ls hl => ?_)
    refine lv_aload_n hx hb dX4_takes_14 rfl (lv_at hl 1 rfl) ?_
    refine lv_dup hx hb dX4_takes_15 rfl ?_
    refine r_get hx hb hts hown hw.q 0 5 hin4 rfl rfl (by decide) k127 rfl dX4_takes_16 ?_
    refine lv_iload_n hx hb dX4_takes_19 rfl (lv_at hl 0 rfl) ?_
    refine lv_if_eq (tgt := 27) hx hb dX4_takes_20 (by decide) (fun h => absurd h (by decide)) (fun _ => ?_)
    refine lv_iconst (v := nI 1) hx hb dX4_takes_23 kc_iconst_1 ?_
    refine lv_goto (tgt := 28) hx hb dX4_takes_24 (by decide) ?_
    refine r_addN hx hb dX4_takes_28 ?_
    refine r_put hx hb hts hown hw 0 5 (ty := .int) tyX4 tyX4_ok nmX4 hin4 rfl rfl (by decide) k127 rfl (by decide +kernel) rfl rfl (Nat.le_of_ble_eq_true rfl) dX4_takes_29 (fun H locs hw => ?_)
    have hw : Wd D A [(cI, .int)] (wM cI m9 sa tx th sv ln (po + 1) lt fi sc nu ad rv) s s.heap H locs := hw
    refine lv_iload_n hx hb dX4_takes_32 rfl (lv_at hl 0 rfl) ?_
    have ew : (wM cI m9 sa tx th sv ln (po + 1) lt fi sc nu ad rv) = (wM cI m9 sa tx th sv ln (po + (if sgN tx ln po = c9 then 1 else 0)) lt fi sc nu ad rv) := by first | rw [if_pos c_5] | (rw [if_neg c_5] <;> rfl)
    rw [ew] at hw
    exact hE () dX4_takes_33 (by first | rfl | exact b2_nz) (Nat.le_of_ble_eq_true rfl) (Nat.le_of_ble_eq_true rfl) (hw.sub [0, 1, 2] [] (by decide) rfl rfl) (show nI 1 = b2 (sgN tx ln po = c9) from by first | exact ret1 c_5 | exact ret0 c_5)
abbrev rmX4_digit : Room := { frames := 1, cells := 0, slots := 0, locals := 22 }
set_option maxHeartbeats 4000000 in
set_option maxRecDepth 100000 in
theorem c_X4_digit (l : Launch) (D : va_G) (sz : Nat) (cI : ClassId) (m9 : Nat → Nat) (sa : Nat → Int32) (tx : Nat → Nat) (th : Int32) (sv ln po : Nat) (lt fi sc nu : Int32) (ad rv : Nat) (d9 : Nat) (htx : ∀ i, tx i < 127) (hln : ln ≤ 80) (hpo : po < 1000) (hd9 : d9 ≤ 9) : MUi l yX4_digit wsX4_digit rmX4_digit [.ref (m9 0), .int (nI d9)] D [(cI, .int)] (wM cI m9 sa tx th sv ln po lt fi sc nu ad rv) sz (fun rz (u9 : Unit) => rz = dgI tx ln po d9) (fun u9 => []) (fun u9 => wM cI m9 sa tx th sv ln (po + (if dgB tx ln po d9 = true then 1 else 0)) lt fi sc nu ad rv) 0 0 := by
  refine met_u (own := RX4) (cc := cX4_digit) (maxL := 3) (ty := .int) (by decide) rfl rfl (Nat.le_of_ble_eq_true rfl) ?_
  intro p e s m args below meth c Q A hsz S hw hA hE ls hl
  obtain ⟨hx, hb, hml, hown, hts⟩ := id S
  have k127 := hts (.fieldLink RX4 127 "CausalTableModel" "at" "I") (by decide +kernel)
  have hin4 := (show ∀ w ∈ wsX40, w ∈ wsX4_digit by decide +kernel)
  have hl : lv_has ls 3 [(0, .ref (m9 0)), (1, .int (nI d9))] := hl
  have hsg := sgN_lt htx ln po
  refine lv_aload_n hx hb dX4_digit_0 rfl (lv_at hl 0 rfl) ?_
  refine cq_V (As := []) (rest := []) S (c_X4_sign l D (cI := cI) (m9 := m9) (sa := sa) (tx := tx) (th := th) (sv := sv) (ln := ln) (po := po) (lt := lt) (fi := fi) (sc := sc) (nu := nu) (ad := ad) (rv := rv) (htx := htx) (hln := by omega) (hpo := by omega)) (cwV 0 hts gX4_digit_X4_sign rfl rfl rfl (by decide +kernel) ⟨Nat.le_of_ble_eq_true rfl, Nat.le_of_ble_eq_true rfl⟩) (hw.q.sub [0, 1, 2] [0] rfl rfl) 0 rfl rfl rfl hl.1 (Nat.le_of_ble_eq_true rfl) ⟨Nat.le_of_ble_eq_true rfl, Nat.le_of_ble_eq_true rfl⟩ rfl dX4_digit_1 (fun r_1 e_1 => ?_)
  have e_1 : r_1 = nI (sgN tx ln po) := e_1
  subst e_1
  refine lv_bipush (v := nI 48) hx hb dX4_digit_4 kc_bipush_48 ?_
  refine lv_bipush (v := nI 48) hx hb dX4_digit_6 kc_bipush_48 ?_
  refine lv_iload_n hx hb dX4_digit_8 rfl (lv_at hl 1 rfl) ?_
  refine r_addN hx hb dX4_digit_9 ?_
  refine cq_S (As := [.int (nI (sgN tx ln po)), .int (nI 48), .int (nI (48 + d9))]) (rest := []) S (c_X4_in l D (x := nI (sgN tx ln po)) (lo := nI 48) (hi := nI (48 + d9))) (va_cwS 3 hts gX4_digit_X4_in rfl rfl rfl (by decide +kernel) ⟨Nat.le_of_ble_eq_true rfl, Nat.le_of_ble_eq_true rfl⟩) (hw.q.sub [] [] rfl rfl) rfl hl.1 (Nat.le_of_ble_eq_true rfl) ⟨Nat.le_of_ble_eq_true rfl, Nat.le_of_ble_eq_true rfl⟩ rfl dX4_digit_10 (fun r_10 e_10 => ?_)
  have e_10 : r_10 = b2 (inP (nI (sgN tx ln po)) (nI 48) (nI (48 + d9))) := e_10
  subst e_10
  refine r_if_eqB (tgt := 26) hx hb dX4_digit_13 (by decide) (fun c_13 => ?_) (fun c_13 => ?_)
  ·
    have hd : ¬ dgB tx ln po d9 = true := fun z => c_13 ((inP_iff (by omega) (by omega) (by omega)).mpr (dgB_iff.mp z))
    refine lv_iconst (v := (-1)) hx hb dX4_digit_26 kc_iconst_m1 ?_
    refine lv_istore_n (lv' := [(2, .int (-1)), (0, .ref (m9 0)), (1, .int (nI d9))]) hx hb dX4_digit_27 rfl hl (by decide) rfl (fun ls hl => ?_)
    refine lv_aload_n hx hb dX4_digit_28 rfl (lv_at hl 1 rfl) ?_
    refine lv_dup hx hb dX4_digit_29 rfl ?_
    refine r_get hx hb hts hown hw.q 0 5 hin4 rfl rfl (by decide) k127 rfl dX4_digit_30 ?_
    refine lv_iload_n hx hb dX4_digit_33 rfl (lv_at hl 0 rfl) ?_
    refine lv_iconst (v := (-1)) hx hb dX4_digit_34 kc_iconst_m1 ?_
    refine lv_icmp_ne (tgt := 42) hx hb dX4_digit_35 (by decide) (fun h => absurd (rfl) h) (fun _ => ?_)
    refine lv_iconst (v := nI 0) hx hb dX4_digit_38 kc_iconst_0 ?_
    refine lv_goto (tgt := 43) hx hb dX4_digit_39 (by decide) ?_
    refine r_addN hx hb dX4_digit_43 ?_
    refine r_put hx hb hts hown hw 0 5 (ty := .int) tyX4 tyX4_ok nmX4 hin4 rfl rfl (by decide) k127 rfl (by decide +kernel) rfl rfl (Nat.le_of_ble_eq_true rfl) dX4_digit_44 (fun H locs hw => ?_)
    have hw : Wd D A [(cI, .int)] (wM cI m9 sa tx th sv ln (po + 0) lt fi sc nu ad rv) s s.heap H locs := hw
    refine lv_iload_n hx hb dX4_digit_47 rfl (lv_at hl 0 rfl) ?_
    have ew : (wM cI m9 sa tx th sv ln (po + 0) lt fi sc nu ad rv) = (wM cI m9 sa tx th sv ln (po + (if dgB tx ln po d9 = true then 1 else 0)) lt fi sc nu ad rv) := by first | rw [if_pos hd] | (rw [if_neg hd] <;> rfl)
    rw [ew] at hw
    exact hE () dX4_digit_48 (rfl) (Nat.le_of_ble_eq_true rfl) (Nat.le_of_ble_eq_true rfl) (hw.sub [0, 1, 2] [] (by decide) rfl rfl) (show (-1) = dgI tx ln po d9 from by first | exact (dgI_t hd).symm | exact (dgI_f hd).symm)
  ·
    have hd : dgB tx ln po d9 = true := dgB_iff.mpr ((inP_iff (by omega) (by omega) (by omega)).mp c_13)
    have hd8 := dgB_iff.mp hd
    refine lv_aload_n hx hb dX4_digit_16 rfl (lv_at hl 0 rfl) ?_
    refine cq_V (As := []) (rest := []) S (c_X4_sign l D (cI := cI) (m9 := m9) (sa := sa) (tx := tx) (th := th) (sv := sv) (ln := ln) (po := po) (lt := lt) (fi := fi) (sc := sc) (nu := nu) (ad := ad) (rv := rv) (htx := htx) (hln := by omega) (hpo := by omega)) (cwV 0 hts gX4_digit_X4_sign rfl rfl rfl (by decide +kernel) ⟨Nat.le_of_ble_eq_true rfl, Nat.le_of_ble_eq_true rfl⟩) (hw.q.sub [0, 1, 2] [0] rfl rfl) 0 rfl rfl rfl hl.1 (Nat.le_of_ble_eq_true rfl) ⟨Nat.le_of_ble_eq_true rfl, Nat.le_of_ble_eq_true rfl⟩ rfl dX4_digit_17 (fun r_17 e_17 => ?_)
    have e_17 : r_17 = nI (sgN tx ln po) := e_17
    subst e_17
    refine lv_bipush (v := nI 48) hx hb dX4_digit_20 kc_bipush_48 ?_
    refine r_subN hx hb (by omega) dX4_digit_22 ?_
    refine lv_goto (tgt := 27) hx hb dX4_digit_23 (by decide) ?_
    refine lv_istore_n (lv' := [(2, .int (nI ((sgN tx ln po) - 48))), (0, .ref (m9 0)), (1, .int (nI d9))]) hx hb dX4_digit_27 rfl hl (by decide) rfl (fun ls hl => ?_)
    refine lv_aload_n hx hb dX4_digit_28 rfl (lv_at hl 1 rfl) ?_
    refine lv_dup hx hb dX4_digit_29 rfl ?_
    refine r_get hx hb hts hown hw.q 0 5 hin4 rfl rfl (by decide) k127 rfl dX4_digit_30 ?_
    refine lv_iload_n hx hb dX4_digit_33 rfl (lv_at hl 0 rfl) ?_
    refine lv_iconst (v := (-1)) hx hb dX4_digit_34 kc_iconst_m1 ?_
    refine lv_icmp_ne (tgt := 42) hx hb dX4_digit_35 (by decide) (fun _ => ?_) (fun h => absurd h (nI_m1 (by omega)))
    refine lv_iconst (v := nI 1) hx hb dX4_digit_42 kc_iconst_1 ?_
    refine r_addN hx hb dX4_digit_43 ?_
    refine r_put hx hb hts hown hw 0 5 (ty := .int) tyX4 tyX4_ok nmX4 hin4 rfl rfl (by decide) k127 rfl (by decide +kernel) rfl rfl (Nat.le_of_ble_eq_true rfl) dX4_digit_44 (fun H locs hw => ?_)
    have hw : Wd D A [(cI, .int)] (wM cI m9 sa tx th sv ln (po + 1) lt fi sc nu ad rv) s s.heap H locs := hw
    refine lv_iload_n hx hb dX4_digit_47 rfl (lv_at hl 0 rfl) ?_
    have ew : (wM cI m9 sa tx th sv ln (po + 1) lt fi sc nu ad rv) = (wM cI m9 sa tx th sv ln (po + (if dgB tx ln po d9 = true then 1 else 0)) lt fi sc nu ad rv) := by first | rw [if_pos hd] | (rw [if_neg hd] <;> rfl)
    rw [ew] at hw
    exact hE () dX4_digit_48 (rfl) (Nat.le_of_ble_eq_true rfl) (Nat.le_of_ble_eq_true rfl) (hw.sub [0, 1, 2] [] (by decide) rfl rfl) (show nI ((sgN tx ln po) - 48) = dgI tx ln po d9 from by first | exact (dgI_t hd).symm | exact (dgI_f hd).symm)
abbrev rmX4_readsNumber : Room := { frames := 1, cells := 0, slots := 0, locals := 22 }
set_option maxHeartbeats 4000000 in
set_option maxRecDepth 100000 in
theorem c_X4_readsNumber (l : Launch) (D : va_G) (sz : Nat) (cI : ClassId) (m9 : Nat → Nat) (sa : Nat → Int32) (tx : Nat → Nat) (th : Int32) (sv ln po : Nat) (lt fi sc nu : Int32) (ad rv : Nat) (a9 b9 : Nat) (htx : ∀ i, tx i < 127) (hln : ln ≤ 80) (hpo : po < 990) (ha9 : a9 ≤ 9) (hb9 : b9 ≤ 999) : MUi l yX4_readsNumber wsX4_readsNumber rmX4_readsNumber [.ref (m9 0), .int (nI a9), .int (nI b9)] D [(cI, .int)] (wM cI m9 sa tx th sv ln po lt fi sc nu ad rv) sz (fun rz (u9 : Unit) => rz = b2 (nmB tx ln po a9 = true)) (fun u9 => []) (fun u9 => wM cI m9 sa tx th sv ln (if nmB tx ln po a9 = true then (nmR tx ln po b9).1 else po) lt fi sc (if nmB tx ln po a9 = true then nI (nmR tx ln po b9).2 else nu) ad rv) 0 0 := by
  refine met_u (own := RX4) (cc := cX4_readsNumber) (maxL := 3) (ty := .boolean) (by decide) rfl rfl (Nat.le_of_ble_eq_true rfl) ?_
  intro p e s m args below meth c Q A hsz S hw hA hE ls hl
  obtain ⟨hx, hb, hml, hown, hts⟩ := id S
  have k134 := hts (.fieldLink RX4 134 "CausalTableModel" "number" "I") (by decide +kernel)
  have hin4 := (show ∀ w ∈ wsX40, w ∈ wsX4_readsNumber by decide +kernel)
  have k127 := hts (.fieldLink RX4 127 "CausalTableModel" "at" "I") (by decide +kernel)
  have hl : lv_has ls 3 [(0, .ref (m9 0)), (1, .int (nI a9)), (2, .int (nI b9))] := hl
  have hsg := sgN_lt htx ln po
  have hs1 := sgN_lt htx ln (po + 1)
  have hs2 := sgN_lt htx ln ((po + 1) + 1)
  have hs3 := sgN_lt htx ln (((po + 1) + 1) + 1)
  refine lv_aload_n hx hb dX4_readsNumber_0 rfl (lv_at hl 0 rfl) ?_
  refine cq_V (As := []) (rest := []) S (c_X4_sign l D (cI := cI) (m9 := m9) (sa := sa) (tx := tx) (th := th) (sv := sv) (ln := ln) (po := po) (lt := lt) (fi := fi) (sc := sc) (nu := nu) (ad := ad) (rv := rv) (htx := htx) (hln := by omega) (hpo := by omega)) (cwV 0 hts gX4_readsNumber_X4_sign rfl rfl rfl (by decide +kernel) ⟨Nat.le_of_ble_eq_true rfl, Nat.le_of_ble_eq_true rfl⟩) (hw.q.sub [0, 1, 2] [0] rfl rfl) 0 rfl rfl rfl hl.1 (Nat.le_of_ble_eq_true rfl) ⟨Nat.le_of_ble_eq_true rfl, Nat.le_of_ble_eq_true rfl⟩ rfl dX4_readsNumber_1 (fun r_1 e_1 => ?_)
  have e_1 : r_1 = nI (sgN tx ln po) := e_1
  subst e_1
  refine lv_bipush (v := nI 48) hx hb dX4_readsNumber_4 kc_bipush_48 ?_
  refine lv_iload_n hx hb dX4_readsNumber_6 rfl (lv_at hl 1 rfl) ?_
  refine r_addN hx hb dX4_readsNumber_7 ?_
  refine lv_bipush (v := nI 57) hx hb dX4_readsNumber_8 kc_bipush_57 ?_
  refine cq_S (As := [.int (nI (sgN tx ln po)), .int (nI (48 + a9)), .int (nI 57)]) (rest := []) S (c_X4_in l D (x := nI (sgN tx ln po)) (lo := nI (48 + a9)) (hi := nI 57)) (va_cwS 3 hts gX4_readsNumber_X4_in rfl rfl rfl (by decide +kernel) ⟨Nat.le_of_ble_eq_true rfl, Nat.le_of_ble_eq_true rfl⟩) (hw.q.sub [] [] rfl rfl) rfl hl.1 (Nat.le_of_ble_eq_true rfl) ⟨Nat.le_of_ble_eq_true rfl, Nat.le_of_ble_eq_true rfl⟩ rfl dX4_readsNumber_10 (fun r_10 e_10 => ?_)
  have e_10 : r_10 = b2 (inP (nI (sgN tx ln po)) (nI (48 + a9)) (nI 57)) := e_10
  subst e_10
  refine r_if_neB (tgt := 18) hx hb dX4_readsNumber_13 (by decide) (fun c_13 => ?_) (fun c_13 => ?_)
  ·
    have hn : nmB tx ln po a9 = true := nmB_iff.mpr ((inP_iff (by omega) (by omega) (by omega)).mp c_13)
    have hn8 := nmB_iff.mp hn
    refine lv_aload_n hx hb dX4_readsNumber_18 rfl (lv_at hl 0 rfl) ?_
    refine lv_aload_n hx hb dX4_readsNumber_19 rfl (lv_at hl 0 rfl) ?_
    refine cq_V (As := []) (rest := [.ref (m9 0)]) S (c_X4_sign l D (cI := cI) (m9 := m9) (sa := sa) (tx := tx) (th := th) (sv := sv) (ln := ln) (po := po) (lt := lt) (fi := fi) (sc := sc) (nu := nu) (ad := ad) (rv := rv) (htx := htx) (hln := by omega) (hpo := by omega)) (cwV 0 hts gX4_readsNumber_X4_sign rfl rfl rfl (by decide +kernel) ⟨Nat.le_of_ble_eq_true rfl, Nat.le_of_ble_eq_true rfl⟩) (hw.q.sub [0, 1, 2] [0] rfl rfl) 0 rfl rfl rfl hl.1 (Nat.le_of_ble_eq_true rfl) ⟨Nat.le_of_ble_eq_true rfl, Nat.le_of_ble_eq_true rfl⟩ rfl dX4_readsNumber_20 (fun r_20 e_20 => ?_)
    have e_20 : r_20 = nI (sgN tx ln po) := e_20
    subst e_20
    refine lv_bipush (v := nI 48) hx hb dX4_readsNumber_23 kc_bipush_48 ?_
    refine r_subN hx hb (by omega) dX4_readsNumber_25 ?_
    refine r_put hx hb hts hown hw 0 9 (ty := .int) tyX4 tyX4_ok nmX4 hin4 rfl rfl (by decide) k134 rfl (by decide +kernel) rfl rfl (Nat.le_of_ble_eq_true rfl) dX4_readsNumber_26 (fun H locs hw => ?_)
    have hw : Wd D A [(cI, .int)] (wM cI m9 sa tx th sv ln po lt fi sc (nI ((sgN tx ln po) - 48)) ad rv) s s.heap H locs := hw
    refine lv_aload_n hx hb dX4_readsNumber_29 rfl (lv_at hl 0 rfl) ?_
    refine lv_dup hx hb dX4_readsNumber_30 rfl ?_
    refine r_get hx hb hts hown hw.q 0 5 hin4 rfl rfl (by decide) k127 rfl dX4_readsNumber_31 ?_
    refine lv_iconst (v := nI 1) hx hb dX4_readsNumber_34 kc_iconst_1 ?_
    refine r_addN hx hb dX4_readsNumber_35 ?_
    refine r_put hx hb hts hown hw 0 5 (ty := .int) tyX4 tyX4_ok nmX4 hin4 rfl rfl (by decide) k127 rfl (by decide +kernel) rfl rfl (Nat.le_of_ble_eq_true rfl) dX4_readsNumber_36 (fun H locs hw => ?_)
    have hw : Wd D A [(cI, .int)] (wM cI m9 sa tx th sv ln (po + 1) lt fi sc (nI ((sgN tx ln po) - 48)) ad rv) s s.heap H locs := hw
    refine lv_aload_n hx hb dX4_readsNumber_39 rfl (lv_at hl 0 rfl) ?_
    refine r_get hx hb hts hown hw.q 0 9 hin4 rfl rfl (by decide) k134 rfl dX4_readsNumber_40 ?_
    refine r_if_leN (tgt := 111) hx hb (by omega) dX4_readsNumber_43 (by decide) (fun c_43 => ?_) (fun c_43 => ?_)
    ·
      have hE9 : nmR tx ln po b9 = (po + 1, ((sgN tx ln po) - 48)) := nmF_z (by omega)
      refine lv_iconst (v := nI 1) hx hb dX4_readsNumber_111 kc_iconst_1 ?_
      have ew : (wM cI m9 sa tx th sv ln (po + 1) lt fi sc (nI ((sgN tx ln po) - 48)) ad rv) = (wM cI m9 sa tx th sv ln (if nmB tx ln po a9 = true then (nmR tx ln po b9).1 else po) lt fi sc (if nmB tx ln po a9 = true then nI (nmR tx ln po b9).2 else nu) ad rv) := by rw [if_pos hn, if_pos hn, hE9]
      rw [ew] at hw
      exact hE () dX4_readsNumber_112 (by first | rfl | exact b2_nz) (Nat.le_of_ble_eq_true rfl) (Nat.le_of_ble_eq_true rfl) (hw.sub [0, 1, 2] [] (by decide) rfl rfl) (show nI 1 = b2 (nmB tx ln po a9 = true) from ret1 hn)
    ·
      have h431 : 0 < ((sgN tx ln po) - 48) := by omega
      refine lv_aload_n hx hb dX4_readsNumber_46 rfl (lv_at hl 0 rfl) ?_
      refine cq_V (As := []) (rest := []) S (c_X4_sign l D (cI := cI) (m9 := m9) (sa := sa) (tx := tx) (th := th) (sv := sv) (ln := ln) (po := po + 1) (lt := lt) (fi := fi) (sc := sc) (nu := nI ((sgN tx ln po) - 48)) (ad := ad) (rv := rv) (htx := htx) (hln := by omega) (hpo := by omega)) (cwV 0 hts gX4_readsNumber_X4_sign rfl rfl rfl (by decide +kernel) ⟨Nat.le_of_ble_eq_true rfl, Nat.le_of_ble_eq_true rfl⟩) (hw.q.sub [0, 1, 2] [0] rfl rfl) 0 rfl rfl rfl hl.1 (Nat.le_of_ble_eq_true rfl) ⟨Nat.le_of_ble_eq_true rfl, Nat.le_of_ble_eq_true rfl⟩ rfl dX4_readsNumber_47 (fun r_47 e_47 => ?_)
      have e_47 : r_47 = nI (sgN tx ln (po + 1)) := e_47
      subst e_47
      refine lv_bipush (v := nI 48) hx hb dX4_readsNumber_50 kc_bipush_48 ?_
      refine lv_bipush (v := nI 57) hx hb dX4_readsNumber_52 kc_bipush_57 ?_
      refine cq_S (As := [.int (nI (sgN tx ln (po + 1))), .int (nI 48), .int (nI 57)]) (rest := []) S (c_X4_in l D (x := nI (sgN tx ln (po + 1))) (lo := nI 48) (hi := nI 57)) (va_cwS 3 hts gX4_readsNumber_X4_in rfl rfl rfl (by decide +kernel) ⟨Nat.le_of_ble_eq_true rfl, Nat.le_of_ble_eq_true rfl⟩) (hw.q.sub [] [] rfl rfl) rfl hl.1 (Nat.le_of_ble_eq_true rfl) ⟨Nat.le_of_ble_eq_true rfl, Nat.le_of_ble_eq_true rfl⟩ rfl dX4_readsNumber_54 (fun r_54 e_54 => ?_)
      have e_54 : r_54 = b2 (inP (nI (sgN tx ln (po + 1))) (nI 48) (nI 57)) := e_54
      subst e_54
      refine r_if_eqB (tgt := 111) hx hb dX4_readsNumber_57 (by decide) (fun c_57 => ?_) (fun c_57 => ?_)
      ·
        have hd1 : ¬ dgB tx ln (po + 1) 9 = true := fun z => c_57 ((inP_iff (by omega) (by omega) (by omega)).mpr (dgB_iff.mp z))
        have hE9 : nmR tx ln po b9 = (po + 1, ((sgN tx ln po) - 48)) := nmF_d hd1
        refine lv_iconst (v := nI 1) hx hb dX4_readsNumber_111 kc_iconst_1 ?_
        have ew : (wM cI m9 sa tx th sv ln (po + 1) lt fi sc (nI ((sgN tx ln po) - 48)) ad rv) = (wM cI m9 sa tx th sv ln (if nmB tx ln po a9 = true then (nmR tx ln po b9).1 else po) lt fi sc (if nmB tx ln po a9 = true then nI (nmR tx ln po b9).2 else nu) ad rv) := by rw [if_pos hn, if_pos hn, hE9]
        rw [ew] at hw
        exact hE () dX4_readsNumber_112 (by first | rfl | exact b2_nz) (Nat.le_of_ble_eq_true rfl) (Nat.le_of_ble_eq_true rfl) (hw.sub [0, 1, 2] [] (by decide) rfl rfl) (show nI 1 = b2 (nmB tx ln po a9 = true) from ret1 hn)
      ·
        have hd1 : dgB tx ln (po + 1) 9 = true := dgB_iff.mpr ((inP_iff (by omega) (by omega) (by omega)).mp c_57)
        have hdd1 := dgB_iff.mp hd1
        refine lv_bipush (v := nI 10) hx hb dX4_readsNumber_60 kc_bipush_10 ?_
        refine lv_aload_n hx hb dX4_readsNumber_62 rfl (lv_at hl 0 rfl) ?_
        refine r_get hx hb hts hown hw.q 0 9 hin4 rfl rfl (by decide) k134 rfl dX4_readsNumber_63 ?_
        refine r_mulN hx hb dX4_readsNumber_66 ?_
        refine lv_aload_n hx hb dX4_readsNumber_67 rfl (lv_at hl 0 rfl) ?_
        refine cq_V (As := []) (rest := [.int (nI (10 * ((sgN tx ln po) - 48)))]) S (c_X4_sign l D (cI := cI) (m9 := m9) (sa := sa) (tx := tx) (th := th) (sv := sv) (ln := ln) (po := po + 1) (lt := lt) (fi := fi) (sc := sc) (nu := nI ((sgN tx ln po) - 48)) (ad := ad) (rv := rv) (htx := htx) (hln := by omega) (hpo := by omega)) (cwV 0 hts gX4_readsNumber_X4_sign rfl rfl rfl (by decide +kernel) ⟨Nat.le_of_ble_eq_true rfl, Nat.le_of_ble_eq_true rfl⟩) (hw.q.sub [0, 1, 2] [0] rfl rfl) 0 rfl rfl rfl hl.1 (Nat.le_of_ble_eq_true rfl) ⟨Nat.le_of_ble_eq_true rfl, Nat.le_of_ble_eq_true rfl⟩ rfl dX4_readsNumber_68 (fun r_68 e_68 => ?_)
        have e_68 : r_68 = nI (sgN tx ln (po + 1)) := e_68
        subst e_68
        refine r_addN hx hb dX4_readsNumber_71 ?_
        refine lv_bipush (v := nI 48) hx hb dX4_readsNumber_72 kc_bipush_48 ?_
        refine r_subN hx hb (by omega) dX4_readsNumber_74 ?_
        refine r_top hx (show nI (((10 * ((sgN tx ln po) - 48)) + (sgN tx ln (po + 1))) - 48) = nI (((sgN tx ln po) - 48) * 10 + (sgN tx ln (po + 1) - 48)) from congrArg nI (by omega)) ?_
        refine lv_iload_n hx hb dX4_readsNumber_75 rfl (lv_at hl 2 rfl) ?_
        refine r_icmp_gtN (tgt := 111) hx hb (by omega) (by omega) dX4_readsNumber_76 (by decide) (fun c_76 => ?_) (fun c_76 => ?_)
        ·
          have hE9 : nmR tx ln po b9 = (po + 1, ((sgN tx ln po) - 48)) := nmF_m (by omega)
          refine lv_iconst (v := nI 1) hx hb dX4_readsNumber_111 kc_iconst_1 ?_
          have ew : (wM cI m9 sa tx th sv ln (po + 1) lt fi sc (nI ((sgN tx ln po) - 48)) ad rv) = (wM cI m9 sa tx th sv ln (if nmB tx ln po a9 = true then (nmR tx ln po b9).1 else po) lt fi sc (if nmB tx ln po a9 = true then nI (nmR tx ln po b9).2 else nu) ad rv) := by rw [if_pos hn, if_pos hn, hE9]
          rw [ew] at hw
          exact hE () dX4_readsNumber_112 (by first | rfl | exact b2_nz) (Nat.le_of_ble_eq_true rfl) (Nat.le_of_ble_eq_true rfl) (hw.sub [0, 1, 2] [] (by decide) rfl rfl) (show nI 1 = b2 (nmB tx ln po a9 = true) from ret1 hn)
        ·
          have h761 : ((sgN tx ln po) - 48) * 10 + (sgN tx ln (po + 1) - 48) ≤ b9 := by omega
          refine lv_aload_n hx hb dX4_readsNumber_79 rfl (lv_at hl 0 rfl) ?_
          refine lv_bipush (v := nI 10) hx hb dX4_readsNumber_80 kc_bipush_10 ?_
          refine lv_aload_n hx hb dX4_readsNumber_82 rfl (lv_at hl 0 rfl) ?_
          refine r_get hx hb hts hown hw.q 0 9 hin4 rfl rfl (by decide) k134 rfl dX4_readsNumber_83 ?_
          refine r_mulN hx hb dX4_readsNumber_86 ?_
          refine lv_aload_n hx hb dX4_readsNumber_87 rfl (lv_at hl 0 rfl) ?_
          refine cq_V (As := []) (rest := [.int (nI (10 * ((sgN tx ln po) - 48))), .ref (m9 0)]) S (c_X4_sign l D (cI := cI) (m9 := m9) (sa := sa) (tx := tx) (th := th) (sv := sv) (ln := ln) (po := po + 1) (lt := lt) (fi := fi) (sc := sc) (nu := nI ((sgN tx ln po) - 48)) (ad := ad) (rv := rv) (htx := htx) (hln := by omega) (hpo := by omega)) (cwV 0 hts gX4_readsNumber_X4_sign rfl rfl rfl (by decide +kernel) ⟨Nat.le_of_ble_eq_true rfl, Nat.le_of_ble_eq_true rfl⟩) (hw.q.sub [0, 1, 2] [0] rfl rfl) 0 rfl rfl rfl hl.1 (Nat.le_of_ble_eq_true rfl) ⟨Nat.le_of_ble_eq_true rfl, Nat.le_of_ble_eq_true rfl⟩ rfl dX4_readsNumber_88 (fun r_88 e_88 => ?_)
          have e_88 : r_88 = nI (sgN tx ln (po + 1)) := e_88
          subst e_88
          refine r_addN hx hb dX4_readsNumber_91 ?_
          refine lv_bipush (v := nI 48) hx hb dX4_readsNumber_92 kc_bipush_48 ?_
          refine r_subN hx hb (by omega) dX4_readsNumber_94 ?_
          refine r_top hx (show nI (((10 * ((sgN tx ln po) - 48)) + (sgN tx ln (po + 1))) - 48) = nI (((sgN tx ln po) - 48) * 10 + (sgN tx ln (po + 1) - 48)) from congrArg nI (by omega)) ?_
          refine r_put hx hb hts hown hw 0 9 (ty := .int) tyX4 tyX4_ok nmX4 hin4 rfl rfl (by decide) k134 rfl (by decide +kernel) rfl rfl (Nat.le_of_ble_eq_true rfl) dX4_readsNumber_95 (fun H locs hw => ?_)
          have hw : Wd D A [(cI, .int)] (wM cI m9 sa tx th sv ln (po + 1) lt fi sc (nI (((sgN tx ln po) - 48) * 10 + (sgN tx ln (po + 1) - 48))) ad rv) s s.heap H locs := hw
          refine lv_aload_n hx hb dX4_readsNumber_98 rfl (lv_at hl 0 rfl) ?_
          refine lv_dup hx hb dX4_readsNumber_99 rfl ?_
          refine r_get hx hb hts hown hw.q 0 5 hin4 rfl rfl (by decide) k127 rfl dX4_readsNumber_100 ?_
          refine lv_iconst (v := nI 1) hx hb dX4_readsNumber_103 kc_iconst_1 ?_
          refine r_addN hx hb dX4_readsNumber_104 ?_
          refine r_put hx hb hts hown hw 0 5 (ty := .int) tyX4 tyX4_ok nmX4 hin4 rfl rfl (by decide) k127 rfl (by decide +kernel) rfl rfl (Nat.le_of_ble_eq_true rfl) dX4_readsNumber_105 (fun H locs hw => ?_)
          have hw : Wd D A [(cI, .int)] (wM cI m9 sa tx th sv ln ((po + 1) + 1) lt fi sc (nI (((sgN tx ln po) - 48) * 10 + (sgN tx ln (po + 1) - 48))) ad rv) s s.heap H locs := hw
          refine lv_goto (tgt := 39) hx hb dX4_readsNumber_108 (by decide) ?_
          refine lv_aload_n hx hb dX4_readsNumber_39 rfl (lv_at hl 0 rfl) ?_
          refine r_get hx hb hts hown hw.q 0 9 hin4 rfl rfl (by decide) k134 rfl dX4_readsNumber_40 ?_
          refine r_if_leN (tgt := 111) hx hb (by omega) dX4_readsNumber_43 (by decide) (fun c_43 => ?_) (fun c_43 => ?_)
          ·
            have hE9 : nmR tx ln po b9 = ((po + 1) + 1, (((sgN tx ln po) - 48) * 10 + (sgN tx ln (po + 1) - 48))) := (nmF_s (f' := 2) rfl h431 hd1 h761).trans (nmF_z (by omega))
            refine lv_iconst (v := nI 1) hx hb dX4_readsNumber_111 kc_iconst_1 ?_
            have ew : (wM cI m9 sa tx th sv ln ((po + 1) + 1) lt fi sc (nI (((sgN tx ln po) - 48) * 10 + (sgN tx ln (po + 1) - 48))) ad rv) = (wM cI m9 sa tx th sv ln (if nmB tx ln po a9 = true then (nmR tx ln po b9).1 else po) lt fi sc (if nmB tx ln po a9 = true then nI (nmR tx ln po b9).2 else nu) ad rv) := by rw [if_pos hn, if_pos hn, hE9]
            rw [ew] at hw
            exact hE () dX4_readsNumber_112 (by first | rfl | exact b2_nz) (Nat.le_of_ble_eq_true rfl) (Nat.le_of_ble_eq_true rfl) (hw.sub [0, 1, 2] [] (by decide) rfl rfl) (show nI 1 = b2 (nmB tx ln po a9 = true) from ret1 hn)
          ·
            have h432 : 0 < (((sgN tx ln po) - 48) * 10 + (sgN tx ln (po + 1) - 48)) := by omega
            refine lv_aload_n hx hb dX4_readsNumber_46 rfl (lv_at hl 0 rfl) ?_
            refine cq_V (As := []) (rest := []) S (c_X4_sign l D (cI := cI) (m9 := m9) (sa := sa) (tx := tx) (th := th) (sv := sv) (ln := ln) (po := (po + 1) + 1) (lt := lt) (fi := fi) (sc := sc) (nu := nI (((sgN tx ln po) - 48) * 10 + (sgN tx ln (po + 1) - 48))) (ad := ad) (rv := rv) (htx := htx) (hln := by omega) (hpo := by omega)) (cwV 0 hts gX4_readsNumber_X4_sign rfl rfl rfl (by decide +kernel) ⟨Nat.le_of_ble_eq_true rfl, Nat.le_of_ble_eq_true rfl⟩) (hw.q.sub [0, 1, 2] [0] rfl rfl) 0 rfl rfl rfl hl.1 (Nat.le_of_ble_eq_true rfl) ⟨Nat.le_of_ble_eq_true rfl, Nat.le_of_ble_eq_true rfl⟩ rfl dX4_readsNumber_47 (fun r_47 e_47 => ?_)
            have e_47 : r_47 = nI (sgN tx ln ((po + 1) + 1)) := e_47
            subst e_47
            refine lv_bipush (v := nI 48) hx hb dX4_readsNumber_50 kc_bipush_48 ?_
            refine lv_bipush (v := nI 57) hx hb dX4_readsNumber_52 kc_bipush_57 ?_
            refine cq_S (As := [.int (nI (sgN tx ln ((po + 1) + 1))), .int (nI 48), .int (nI 57)]) (rest := []) S (c_X4_in l D (x := nI (sgN tx ln ((po + 1) + 1))) (lo := nI 48) (hi := nI 57)) (va_cwS 3 hts gX4_readsNumber_X4_in rfl rfl rfl (by decide +kernel) ⟨Nat.le_of_ble_eq_true rfl, Nat.le_of_ble_eq_true rfl⟩) (hw.q.sub [] [] rfl rfl) rfl hl.1 (Nat.le_of_ble_eq_true rfl) ⟨Nat.le_of_ble_eq_true rfl, Nat.le_of_ble_eq_true rfl⟩ rfl dX4_readsNumber_54 (fun r_54 e_54 => ?_)
            have e_54 : r_54 = b2 (inP (nI (sgN tx ln ((po + 1) + 1))) (nI 48) (nI 57)) := e_54
            subst e_54
            refine r_if_eqB (tgt := 111) hx hb dX4_readsNumber_57 (by decide) (fun c_57 => ?_) (fun c_57 => ?_)
            ·
              have hd2 : ¬ dgB tx ln ((po + 1) + 1) 9 = true := fun z => c_57 ((inP_iff (by omega) (by omega) (by omega)).mpr (dgB_iff.mp z))
              have hE9 : nmR tx ln po b9 = ((po + 1) + 1, (((sgN tx ln po) - 48) * 10 + (sgN tx ln (po + 1) - 48))) := (nmF_s (f' := 2) rfl h431 hd1 h761).trans (nmF_d hd2)
              refine lv_iconst (v := nI 1) hx hb dX4_readsNumber_111 kc_iconst_1 ?_
              have ew : (wM cI m9 sa tx th sv ln ((po + 1) + 1) lt fi sc (nI (((sgN tx ln po) - 48) * 10 + (sgN tx ln (po + 1) - 48))) ad rv) = (wM cI m9 sa tx th sv ln (if nmB tx ln po a9 = true then (nmR tx ln po b9).1 else po) lt fi sc (if nmB tx ln po a9 = true then nI (nmR tx ln po b9).2 else nu) ad rv) := by rw [if_pos hn, if_pos hn, hE9]
              rw [ew] at hw
              exact hE () dX4_readsNumber_112 (by first | rfl | exact b2_nz) (Nat.le_of_ble_eq_true rfl) (Nat.le_of_ble_eq_true rfl) (hw.sub [0, 1, 2] [] (by decide) rfl rfl) (show nI 1 = b2 (nmB tx ln po a9 = true) from ret1 hn)
            ·
              have hd2 : dgB tx ln ((po + 1) + 1) 9 = true := dgB_iff.mpr ((inP_iff (by omega) (by omega) (by omega)).mp c_57)
              have hdd2 := dgB_iff.mp hd2
              refine lv_bipush (v := nI 10) hx hb dX4_readsNumber_60 kc_bipush_10 ?_
              refine lv_aload_n hx hb dX4_readsNumber_62 rfl (lv_at hl 0 rfl) ?_
              refine r_get hx hb hts hown hw.q 0 9 hin4 rfl rfl (by decide) k134 rfl dX4_readsNumber_63 ?_
              refine r_mulN hx hb dX4_readsNumber_66 ?_
              refine lv_aload_n hx hb dX4_readsNumber_67 rfl (lv_at hl 0 rfl) ?_
              refine cq_V (As := []) (rest := [.int (nI (10 * (((sgN tx ln po) - 48) * 10 + (sgN tx ln (po + 1) - 48))))]) S (c_X4_sign l D (cI := cI) (m9 := m9) (sa := sa) (tx := tx) (th := th) (sv := sv) (ln := ln) (po := (po + 1) + 1) (lt := lt) (fi := fi) (sc := sc) (nu := nI (((sgN tx ln po) - 48) * 10 + (sgN tx ln (po + 1) - 48))) (ad := ad) (rv := rv) (htx := htx) (hln := by omega) (hpo := by omega)) (cwV 0 hts gX4_readsNumber_X4_sign rfl rfl rfl (by decide +kernel) ⟨Nat.le_of_ble_eq_true rfl, Nat.le_of_ble_eq_true rfl⟩) (hw.q.sub [0, 1, 2] [0] rfl rfl) 0 rfl rfl rfl hl.1 (Nat.le_of_ble_eq_true rfl) ⟨Nat.le_of_ble_eq_true rfl, Nat.le_of_ble_eq_true rfl⟩ rfl dX4_readsNumber_68 (fun r_68 e_68 => ?_)
              have e_68 : r_68 = nI (sgN tx ln ((po + 1) + 1)) := e_68
              subst e_68
              refine r_addN hx hb dX4_readsNumber_71 ?_
              refine lv_bipush (v := nI 48) hx hb dX4_readsNumber_72 kc_bipush_48 ?_
              refine r_subN hx hb (by omega) dX4_readsNumber_74 ?_
              refine r_top hx (show nI (((10 * (((sgN tx ln po) - 48) * 10 + (sgN tx ln (po + 1) - 48))) + (sgN tx ln ((po + 1) + 1))) - 48) = nI ((((sgN tx ln po) - 48) * 10 + (sgN tx ln (po + 1) - 48)) * 10 + (sgN tx ln ((po + 1) + 1) - 48)) from congrArg nI (by omega)) ?_
              refine lv_iload_n hx hb dX4_readsNumber_75 rfl (lv_at hl 2 rfl) ?_
              refine r_icmp_gtN (tgt := 111) hx hb (by omega) (by omega) dX4_readsNumber_76 (by decide) (fun c_76 => ?_) (fun c_76 => ?_)
              ·
                have hE9 : nmR tx ln po b9 = ((po + 1) + 1, (((sgN tx ln po) - 48) * 10 + (sgN tx ln (po + 1) - 48))) := (nmF_s (f' := 2) rfl h431 hd1 h761).trans (nmF_m (by omega))
                refine lv_iconst (v := nI 1) hx hb dX4_readsNumber_111 kc_iconst_1 ?_
                have ew : (wM cI m9 sa tx th sv ln ((po + 1) + 1) lt fi sc (nI (((sgN tx ln po) - 48) * 10 + (sgN tx ln (po + 1) - 48))) ad rv) = (wM cI m9 sa tx th sv ln (if nmB tx ln po a9 = true then (nmR tx ln po b9).1 else po) lt fi sc (if nmB tx ln po a9 = true then nI (nmR tx ln po b9).2 else nu) ad rv) := by rw [if_pos hn, if_pos hn, hE9]
                rw [ew] at hw
                exact hE () dX4_readsNumber_112 (by first | rfl | exact b2_nz) (Nat.le_of_ble_eq_true rfl) (Nat.le_of_ble_eq_true rfl) (hw.sub [0, 1, 2] [] (by decide) rfl rfl) (show nI 1 = b2 (nmB tx ln po a9 = true) from ret1 hn)
              ·
                have h762 : (((sgN tx ln po) - 48) * 10 + (sgN tx ln (po + 1) - 48)) * 10 + (sgN tx ln ((po + 1) + 1) - 48) ≤ b9 := by omega
                refine lv_aload_n hx hb dX4_readsNumber_79 rfl (lv_at hl 0 rfl) ?_
                refine lv_bipush (v := nI 10) hx hb dX4_readsNumber_80 kc_bipush_10 ?_
                refine lv_aload_n hx hb dX4_readsNumber_82 rfl (lv_at hl 0 rfl) ?_
                refine r_get hx hb hts hown hw.q 0 9 hin4 rfl rfl (by decide) k134 rfl dX4_readsNumber_83 ?_
                refine r_mulN hx hb dX4_readsNumber_86 ?_
                refine lv_aload_n hx hb dX4_readsNumber_87 rfl (lv_at hl 0 rfl) ?_
                refine cq_V (As := []) (rest := [.int (nI (10 * (((sgN tx ln po) - 48) * 10 + (sgN tx ln (po + 1) - 48)))), .ref (m9 0)]) S (c_X4_sign l D (cI := cI) (m9 := m9) (sa := sa) (tx := tx) (th := th) (sv := sv) (ln := ln) (po := (po + 1) + 1) (lt := lt) (fi := fi) (sc := sc) (nu := nI (((sgN tx ln po) - 48) * 10 + (sgN tx ln (po + 1) - 48))) (ad := ad) (rv := rv) (htx := htx) (hln := by omega) (hpo := by omega)) (cwV 0 hts gX4_readsNumber_X4_sign rfl rfl rfl (by decide +kernel) ⟨Nat.le_of_ble_eq_true rfl, Nat.le_of_ble_eq_true rfl⟩) (hw.q.sub [0, 1, 2] [0] rfl rfl) 0 rfl rfl rfl hl.1 (Nat.le_of_ble_eq_true rfl) ⟨Nat.le_of_ble_eq_true rfl, Nat.le_of_ble_eq_true rfl⟩ rfl dX4_readsNumber_88 (fun r_88 e_88 => ?_)
                have e_88 : r_88 = nI (sgN tx ln ((po + 1) + 1)) := e_88
                subst e_88
                refine r_addN hx hb dX4_readsNumber_91 ?_
                refine lv_bipush (v := nI 48) hx hb dX4_readsNumber_92 kc_bipush_48 ?_
                refine r_subN hx hb (by omega) dX4_readsNumber_94 ?_
                refine r_top hx (show nI (((10 * (((sgN tx ln po) - 48) * 10 + (sgN tx ln (po + 1) - 48))) + (sgN tx ln ((po + 1) + 1))) - 48) = nI ((((sgN tx ln po) - 48) * 10 + (sgN tx ln (po + 1) - 48)) * 10 + (sgN tx ln ((po + 1) + 1) - 48)) from congrArg nI (by omega)) ?_
                refine r_put hx hb hts hown hw 0 9 (ty := .int) tyX4 tyX4_ok nmX4 hin4 rfl rfl (by decide) k134 rfl (by decide +kernel) rfl rfl (Nat.le_of_ble_eq_true rfl) dX4_readsNumber_95 (fun H locs hw => ?_)
                have hw : Wd D A [(cI, .int)] (wM cI m9 sa tx th sv ln ((po + 1) + 1) lt fi sc (nI ((((sgN tx ln po) - 48) * 10 + (sgN tx ln (po + 1) - 48)) * 10 + (sgN tx ln ((po + 1) + 1) - 48))) ad rv) s s.heap H locs := hw
                refine lv_aload_n hx hb dX4_readsNumber_98 rfl (lv_at hl 0 rfl) ?_
                refine lv_dup hx hb dX4_readsNumber_99 rfl ?_
                refine r_get hx hb hts hown hw.q 0 5 hin4 rfl rfl (by decide) k127 rfl dX4_readsNumber_100 ?_
                refine lv_iconst (v := nI 1) hx hb dX4_readsNumber_103 kc_iconst_1 ?_
                refine r_addN hx hb dX4_readsNumber_104 ?_
                refine r_put hx hb hts hown hw 0 5 (ty := .int) tyX4 tyX4_ok nmX4 hin4 rfl rfl (by decide) k127 rfl (by decide +kernel) rfl rfl (Nat.le_of_ble_eq_true rfl) dX4_readsNumber_105 (fun H locs hw => ?_)
                have hw : Wd D A [(cI, .int)] (wM cI m9 sa tx th sv ln (((po + 1) + 1) + 1) lt fi sc (nI ((((sgN tx ln po) - 48) * 10 + (sgN tx ln (po + 1) - 48)) * 10 + (sgN tx ln ((po + 1) + 1) - 48))) ad rv) s s.heap H locs := hw
                refine lv_goto (tgt := 39) hx hb dX4_readsNumber_108 (by decide) ?_
                refine lv_aload_n hx hb dX4_readsNumber_39 rfl (lv_at hl 0 rfl) ?_
                refine r_get hx hb hts hown hw.q 0 9 hin4 rfl rfl (by decide) k134 rfl dX4_readsNumber_40 ?_
                refine r_if_leN (tgt := 111) hx hb (by omega) dX4_readsNumber_43 (by decide) (fun c_43 => ?_) (fun c_43 => ?_)
                ·
                  have hE9 : nmR tx ln po b9 = (((po + 1) + 1) + 1, ((((sgN tx ln po) - 48) * 10 + (sgN tx ln (po + 1) - 48)) * 10 + (sgN tx ln ((po + 1) + 1) - 48))) := (nmF_s (f' := 2) rfl h431 hd1 h761).trans ((nmF_s (f' := 1) rfl h432 hd2 h762).trans (nmF_z (by omega)))
                  refine lv_iconst (v := nI 1) hx hb dX4_readsNumber_111 kc_iconst_1 ?_
                  have ew : (wM cI m9 sa tx th sv ln (((po + 1) + 1) + 1) lt fi sc (nI ((((sgN tx ln po) - 48) * 10 + (sgN tx ln (po + 1) - 48)) * 10 + (sgN tx ln ((po + 1) + 1) - 48))) ad rv) = (wM cI m9 sa tx th sv ln (if nmB tx ln po a9 = true then (nmR tx ln po b9).1 else po) lt fi sc (if nmB tx ln po a9 = true then nI (nmR tx ln po b9).2 else nu) ad rv) := by rw [if_pos hn, if_pos hn, hE9]
                  rw [ew] at hw
                  exact hE () dX4_readsNumber_112 (by first | rfl | exact b2_nz) (Nat.le_of_ble_eq_true rfl) (Nat.le_of_ble_eq_true rfl) (hw.sub [0, 1, 2] [] (by decide) rfl rfl) (show nI 1 = b2 (nmB tx ln po a9 = true) from ret1 hn)
                ·
                  have h433 : 0 < ((((sgN tx ln po) - 48) * 10 + (sgN tx ln (po + 1) - 48)) * 10 + (sgN tx ln ((po + 1) + 1) - 48)) := by omega
                  refine lv_aload_n hx hb dX4_readsNumber_46 rfl (lv_at hl 0 rfl) ?_
                  refine cq_V (As := []) (rest := []) S (c_X4_sign l D (cI := cI) (m9 := m9) (sa := sa) (tx := tx) (th := th) (sv := sv) (ln := ln) (po := ((po + 1) + 1) + 1) (lt := lt) (fi := fi) (sc := sc) (nu := nI ((((sgN tx ln po) - 48) * 10 + (sgN tx ln (po + 1) - 48)) * 10 + (sgN tx ln ((po + 1) + 1) - 48))) (ad := ad) (rv := rv) (htx := htx) (hln := by omega) (hpo := by omega)) (cwV 0 hts gX4_readsNumber_X4_sign rfl rfl rfl (by decide +kernel) ⟨Nat.le_of_ble_eq_true rfl, Nat.le_of_ble_eq_true rfl⟩) (hw.q.sub [0, 1, 2] [0] rfl rfl) 0 rfl rfl rfl hl.1 (Nat.le_of_ble_eq_true rfl) ⟨Nat.le_of_ble_eq_true rfl, Nat.le_of_ble_eq_true rfl⟩ rfl dX4_readsNumber_47 (fun r_47 e_47 => ?_)
                  have e_47 : r_47 = nI (sgN tx ln (((po + 1) + 1) + 1)) := e_47
                  subst e_47
                  refine lv_bipush (v := nI 48) hx hb dX4_readsNumber_50 kc_bipush_48 ?_
                  refine lv_bipush (v := nI 57) hx hb dX4_readsNumber_52 kc_bipush_57 ?_
                  refine cq_S (As := [.int (nI (sgN tx ln (((po + 1) + 1) + 1))), .int (nI 48), .int (nI 57)]) (rest := []) S (c_X4_in l D (x := nI (sgN tx ln (((po + 1) + 1) + 1))) (lo := nI 48) (hi := nI 57)) (va_cwS 3 hts gX4_readsNumber_X4_in rfl rfl rfl (by decide +kernel) ⟨Nat.le_of_ble_eq_true rfl, Nat.le_of_ble_eq_true rfl⟩) (hw.q.sub [] [] rfl rfl) rfl hl.1 (Nat.le_of_ble_eq_true rfl) ⟨Nat.le_of_ble_eq_true rfl, Nat.le_of_ble_eq_true rfl⟩ rfl dX4_readsNumber_54 (fun r_54 e_54 => ?_)
                  have e_54 : r_54 = b2 (inP (nI (sgN tx ln (((po + 1) + 1) + 1))) (nI 48) (nI 57)) := e_54
                  subst e_54
                  refine r_if_eqB (tgt := 111) hx hb dX4_readsNumber_57 (by decide) (fun c_57 => ?_) (fun c_57 => ?_)
                  ·
                    have hd3 : ¬ dgB tx ln (((po + 1) + 1) + 1) 9 = true := fun z => c_57 ((inP_iff (by omega) (by omega) (by omega)).mpr (dgB_iff.mp z))
                    have hE9 : nmR tx ln po b9 = (((po + 1) + 1) + 1, ((((sgN tx ln po) - 48) * 10 + (sgN tx ln (po + 1) - 48)) * 10 + (sgN tx ln ((po + 1) + 1) - 48))) := (nmF_s (f' := 2) rfl h431 hd1 h761).trans ((nmF_s (f' := 1) rfl h432 hd2 h762).trans (nmF_d hd3))
                    refine lv_iconst (v := nI 1) hx hb dX4_readsNumber_111 kc_iconst_1 ?_
                    have ew : (wM cI m9 sa tx th sv ln (((po + 1) + 1) + 1) lt fi sc (nI ((((sgN tx ln po) - 48) * 10 + (sgN tx ln (po + 1) - 48)) * 10 + (sgN tx ln ((po + 1) + 1) - 48))) ad rv) = (wM cI m9 sa tx th sv ln (if nmB tx ln po a9 = true then (nmR tx ln po b9).1 else po) lt fi sc (if nmB tx ln po a9 = true then nI (nmR tx ln po b9).2 else nu) ad rv) := by rw [if_pos hn, if_pos hn, hE9]
                    rw [ew] at hw
                    exact hE () dX4_readsNumber_112 (by first | rfl | exact b2_nz) (Nat.le_of_ble_eq_true rfl) (Nat.le_of_ble_eq_true rfl) (hw.sub [0, 1, 2] [] (by decide) rfl rfl) (show nI 1 = b2 (nmB tx ln po a9 = true) from ret1 hn)
                  ·
                    have hd3 : dgB tx ln (((po + 1) + 1) + 1) 9 = true := dgB_iff.mpr ((inP_iff (by omega) (by omega) (by omega)).mp c_57)
                    have hdd3 := dgB_iff.mp hd3
                    refine lv_bipush (v := nI 10) hx hb dX4_readsNumber_60 kc_bipush_10 ?_
                    refine lv_aload_n hx hb dX4_readsNumber_62 rfl (lv_at hl 0 rfl) ?_
                    refine r_get hx hb hts hown hw.q 0 9 hin4 rfl rfl (by decide) k134 rfl dX4_readsNumber_63 ?_
                    refine r_mulN hx hb dX4_readsNumber_66 ?_
                    refine lv_aload_n hx hb dX4_readsNumber_67 rfl (lv_at hl 0 rfl) ?_
                    refine cq_V (As := []) (rest := [.int (nI (10 * ((((sgN tx ln po) - 48) * 10 + (sgN tx ln (po + 1) - 48)) * 10 + (sgN tx ln ((po + 1) + 1) - 48))))]) S (c_X4_sign l D (cI := cI) (m9 := m9) (sa := sa) (tx := tx) (th := th) (sv := sv) (ln := ln) (po := ((po + 1) + 1) + 1) (lt := lt) (fi := fi) (sc := sc) (nu := nI ((((sgN tx ln po) - 48) * 10 + (sgN tx ln (po + 1) - 48)) * 10 + (sgN tx ln ((po + 1) + 1) - 48))) (ad := ad) (rv := rv) (htx := htx) (hln := by omega) (hpo := by omega)) (cwV 0 hts gX4_readsNumber_X4_sign rfl rfl rfl (by decide +kernel) ⟨Nat.le_of_ble_eq_true rfl, Nat.le_of_ble_eq_true rfl⟩) (hw.q.sub [0, 1, 2] [0] rfl rfl) 0 rfl rfl rfl hl.1 (Nat.le_of_ble_eq_true rfl) ⟨Nat.le_of_ble_eq_true rfl, Nat.le_of_ble_eq_true rfl⟩ rfl dX4_readsNumber_68 (fun r_68 e_68 => ?_)
                    have e_68 : r_68 = nI (sgN tx ln (((po + 1) + 1) + 1)) := e_68
                    subst e_68
                    refine r_addN hx hb dX4_readsNumber_71 ?_
                    refine lv_bipush (v := nI 48) hx hb dX4_readsNumber_72 kc_bipush_48 ?_
                    refine r_subN hx hb (by omega) dX4_readsNumber_74 ?_
                    refine r_top hx (show nI (((10 * ((((sgN tx ln po) - 48) * 10 + (sgN tx ln (po + 1) - 48)) * 10 + (sgN tx ln ((po + 1) + 1) - 48))) + (sgN tx ln (((po + 1) + 1) + 1))) - 48) = nI (((((sgN tx ln po) - 48) * 10 + (sgN tx ln (po + 1) - 48)) * 10 + (sgN tx ln ((po + 1) + 1) - 48)) * 10 + (sgN tx ln (((po + 1) + 1) + 1) - 48)) from congrArg nI (by omega)) ?_
                    refine lv_iload_n hx hb dX4_readsNumber_75 rfl (lv_at hl 2 rfl) ?_
                    refine lv_icmp_gt (tgt := 111) hx hb dX4_readsNumber_76 (by decide) (fun _ => ?_) (fun h => absurd ((nI_ltI (by omega) (by omega)).mpr (by omega)) h)
                    have hE9 : nmR tx ln po b9 = (((po + 1) + 1) + 1, ((((sgN tx ln po) - 48) * 10 + (sgN tx ln (po + 1) - 48)) * 10 + (sgN tx ln ((po + 1) + 1) - 48))) := (nmF_s (f' := 2) rfl h431 hd1 h761).trans ((nmF_s (f' := 1) rfl h432 hd2 h762).trans (nmF_m (by omega)))
                    refine lv_iconst (v := nI 1) hx hb dX4_readsNumber_111 kc_iconst_1 ?_
                    have ew : (wM cI m9 sa tx th sv ln (((po + 1) + 1) + 1) lt fi sc (nI ((((sgN tx ln po) - 48) * 10 + (sgN tx ln (po + 1) - 48)) * 10 + (sgN tx ln ((po + 1) + 1) - 48))) ad rv) = (wM cI m9 sa tx th sv ln (if nmB tx ln po a9 = true then (nmR tx ln po b9).1 else po) lt fi sc (if nmB tx ln po a9 = true then nI (nmR tx ln po b9).2 else nu) ad rv) := by rw [if_pos hn, if_pos hn, hE9]
                    rw [ew] at hw
                    exact hE () dX4_readsNumber_112 (by first | rfl | exact b2_nz) (Nat.le_of_ble_eq_true rfl) (Nat.le_of_ble_eq_true rfl) (hw.sub [0, 1, 2] [] (by decide) rfl rfl) (show nI 1 = b2 (nmB tx ln po a9 = true) from ret1 hn)
  ·
    have hn : ¬ nmB tx ln po a9 = true := fun z => c_13 ((inP_iff (by omega) (by omega) (by omega)).mpr (nmB_iff.mp z))
    refine lv_iconst (v := nI 0) hx hb dX4_readsNumber_16 kc_iconst_0 ?_
    have ew : (wM cI m9 sa tx th sv ln po lt fi sc nu ad rv) = (wM cI m9 sa tx th sv ln (if nmB tx ln po a9 = true then (nmR tx ln po b9).1 else po) lt fi sc (if nmB tx ln po a9 = true then nI (nmR tx ln po b9).2 else nu) ad rv) := by rw [if_neg hn, if_neg hn]
    rw [ew] at hw
    exact hE () dX4_readsNumber_17 (by first | rfl | exact b2_nz) (Nat.le_of_ble_eq_true rfl) (Nat.le_of_ble_eq_true rfl) (hw.sub [0, 1, 2] [] (by decide) rfl rfl) (show nI 0 = b2 (nmB tx ln po a9 = true) from ret0 hn)
abbrev rmX4_readsAmount : Room := { frames := 2, cells := 0, slots := 0, locals := 44 }
set_option maxHeartbeats 4000000 in
set_option maxRecDepth 100000 in
theorem c_X4_readsAmount (l : Launch) (D : va_G) (sz : Nat) (cI : ClassId) (m9 : Nat → Nat) (sa : Nat → Int32) (tx : Nat → Nat) (th : Int32) (sv ln po : Nat) (lt fi sc nu : Int32) (ad rv : Nat)  (htx : ∀ i, tx i < 127) (hln : ln ≤ 80) (hpo : po < 980)  : MUi l yX4_readsAmount wsX4_readsAmount rmX4_readsAmount [.ref (m9 0)] D [(cI, .int)] (wM cI m9 sa tx th sv ln po lt fi sc nu ad rv) sz (fun rz (u9 : Int32) => rz = b2 ((arA tx ln po).1 = true) ∧ ((arA tx ln po).1 = true → u9 = (arA tx ln po).2.2)) (fun u9 => []) (fun u9 => wM cI m9 sa tx th sv ln ((arA tx ln po).2.1) lt fi sc u9 ad rv) 0 0 := by
  refine met_u (own := RX4) (cc := cX4_readsAmount) (maxL := 3) (ty := .boolean) (by decide) rfl rfl (Nat.le_of_ble_eq_true rfl) ?_
  intro p e s m args below meth c Q A hsz S hw hA hE ls hl
  obtain ⟨hx, hb, hml, hown, hts⟩ := id S
  have k134 := hts (.fieldLink RX4 134 "CausalTableModel" "number" "I") (by decide +kernel)
  have hin4 := (show ∀ w ∈ wsX40, w ∈ wsX4_readsAmount by decide +kernel)
  have hl : lv_has ls 3 [(0, .ref (m9 0))] := hl
  have hsg := sgN_lt htx ln po
  have hp1 : (po + (if sgN tx ln po = 45 then 1 else 0)) ≤ po + 1 := by split <;> omega
  refine lv_aload_n hx hb dX4_readsAmount_0 rfl (lv_at hl 0 rfl) ?_
  refine lv_bipush (v := nI 45) hx hb dX4_readsAmount_1 kc_bipush_45 ?_
  refine cu_Vi (As := [.int (nI 45)]) (rest := []) (wc := wM cI m9 sa tx th sv ln po lt fi sc nu ad rv) (wr := []) S (c_X4_takes l D (sz := s.heap.size) (cI := cI) (m9 := m9) (sa := sa) (tx := tx) (th := th) (sv := sv) (ln := ln) (po := po) (lt := lt) (fi := fi) (sc := sc) (nu := nu) (ad := ad) (rv := rv) (c9 := 45) (htx := htx) (hln := by omega) (hpo := by omega) (h1c := by omega)) (cwV 1 hts gX4_readsAmount_X4_takes rfl rfl rfl (by decide +kernel) ⟨Nat.le_of_ble_eq_true rfl, Nat.le_of_ble_eq_true rfl⟩) hw hA [0, 1, 2] [] [0] rfl rfl rfl (by decide) (by decide) (by decide) 0 rfl rfl rfl hl.1 (Nat.le_of_ble_eq_true rfl) ⟨Nat.le_of_ble_eq_true rfl, Nat.le_of_ble_eq_true rfl⟩ rfl dX4_readsAmount_3 (fun r_3 u_3 H locs e_3 hw => ?_)
  have hw : Wd D A [(cI, .int)] (wM cI m9 sa tx th sv ln (po + (if sgN tx ln po = 45 then 1 else 0)) lt fi sc nu ad rv) s s.heap H locs := hw
  have e_3 : r_3 = b2 (sgN tx ln po = 45) := e_3
  subst e_3
  refine lv_istore_n (lv' := [(1, .int (b2 (sgN tx ln po = 45))), (0, .ref (m9 0))]) hx hb dX4_readsAmount_6 rfl hl (by decide) rfl (fun ls hl => ?_)
  refine lv_aload_n hx hb dX4_readsAmount_7 rfl (lv_at hl 1 rfl) ?_
  refine lv_iconst (v := nI 1) hx hb dX4_readsAmount_8 kc_iconst_1 ?_
  refine lv_bipush (v := nI 99) hx hb dX4_readsAmount_9 kc_bipush_99 ?_
  refine cu_Vi (As := [.int (nI 1), .int (nI 99)]) (rest := []) (wc := wM cI m9 sa tx th sv ln (po + (if sgN tx ln po = 45 then 1 else 0)) lt fi sc nu ad rv) (wr := []) S (c_X4_readsNumber l D (sz := H.size) (cI := cI) (m9 := m9) (sa := sa) (tx := tx) (th := th) (sv := sv) (ln := ln) (po := po + (if sgN tx ln po = 45 then 1 else 0)) (lt := lt) (fi := fi) (sc := sc) (nu := nu) (ad := ad) (rv := rv) (a9 := 1) (b9 := 99) (htx := htx) (hln := by omega) (hpo := Nat.lt_of_le_of_lt hp1 (by omega)) (ha9 := by omega) (hb9 := by omega)) (cwV 2 hts gX4_readsAmount_X4_readsNumber rfl rfl rfl (by decide +kernel) ⟨Nat.le_of_ble_eq_true rfl, Nat.le_of_ble_eq_true rfl⟩) hw hA [0, 1, 2] [] [0] rfl rfl rfl (by decide) (by decide) (by decide) 0 rfl rfl rfl hl.1 (Nat.le_of_ble_eq_true rfl) ⟨Nat.le_of_ble_eq_true rfl, Nat.le_of_ble_eq_true rfl⟩ rfl dX4_readsAmount_11 (fun r_11 u_11 H locs e_11 hw => ?_)
  have hw : Wd D A [(cI, .int)] (wM cI m9 sa tx th sv ln (if nmB tx ln (po + (if sgN tx ln po = 45 then 1 else 0)) 1 = true then (nmR tx ln (po + (if sgN tx ln po = 45 then 1 else 0)) 99).1 else (po + (if sgN tx ln po = 45 then 1 else 0))) lt fi sc (if nmB tx ln (po + (if sgN tx ln po = 45 then 1 else 0)) 1 = true then nI (nmR tx ln (po + (if sgN tx ln po = 45 then 1 else 0)) 99).2 else nu) ad rv) s s.heap H locs := hw
  have e_11 : r_11 = b2 (nmB tx ln (po + (if sgN tx ln po = 45 then 1 else 0)) 1 = true) := e_11
  subst e_11
  refine lv_istore_n (lv' := [(2, .int (b2 (nmB tx ln (po + (if sgN tx ln po = 45 then 1 else 0)) 1 = true))), (1, .int (b2 (sgN tx ln po = 45))), (0, .ref (m9 0))]) hx hb dX4_readsAmount_14 rfl hl (by decide) rfl (fun ls hl => ?_)
  refine lv_aload_n hx hb dX4_readsAmount_15 rfl (lv_at hl 2 rfl) ?_
  refine lv_iload_n hx hb dX4_readsAmount_16 rfl (lv_at hl 1 rfl) ?_
  refine r_if_eqB (tgt := 28) hx hb dX4_readsAmount_17 (by decide) (fun c_17 => ?_) (fun c_17 => ?_)
  ·
    refine lv_aload_n hx hb dX4_readsAmount_28 rfl (lv_at hl 2 rfl) ?_
    refine r_get hx hb hts hown hw.q 0 9 hin4 rfl rfl (by decide) k134 rfl dX4_readsAmount_29 ?_
    refine r_put hx hb hts hown hw 0 9 (ty := .int) tyX4 tyX4_ok nmX4 hin4 rfl rfl (by decide) k134 rfl (by decide +kernel) rfl rfl (Nat.le_of_ble_eq_true rfl) dX4_readsAmount_32 (fun H locs hw => ?_)
    have hw : Wd D A [(cI, .int)] (wM cI m9 sa tx th sv ln (if nmB tx ln (po + (if sgN tx ln po = 45 then 1 else 0)) 1 = true then (nmR tx ln (po + (if sgN tx ln po = 45 then 1 else 0)) 99).1 else (po + (if sgN tx ln po = 45 then 1 else 0))) lt fi sc (if nmB tx ln (po + (if sgN tx ln po = 45 then 1 else 0)) 1 = true then nI (nmR tx ln (po + (if sgN tx ln po = 45 then 1 else 0)) 99).2 else nu) ad rv) s s.heap H locs := hw
    refine lv_iload_n hx hb dX4_readsAmount_35 rfl (lv_at hl 0 rfl) ?_
    have hw : Wd D A [(cI, .int)] (wM cI m9 sa tx th sv ln ((arA tx ln po).2.1) lt fi sc (if nmB tx ln (po + (if sgN tx ln po = 45 then 1 else 0)) 1 = true then nI (nmR tx ln (po + (if sgN tx ln po = 45 then 1 else 0)) 99).2 else nu) ad rv) s s.heap H locs := hw
    exact hE (if nmB tx ln (po + (if sgN tx ln po = 45 then 1 else 0)) 1 = true then nI (nmR tx ln (po + (if sgN tx ln po = 45 then 1 else 0)) 99).2 else nu) dX4_readsAmount_36 (by first | rfl | exact b2_nz) (Nat.le_of_ble_eq_true rfl) (Nat.le_of_ble_eq_true rfl) (hw.sub [0, 1, 2] [] (by decide) rfl rfl) ⟨rfl, fun h9 => by
      have h8 : nmB tx ln (po + (if sgN tx ln po = 45 then 1 else 0)) 1 = true := h9
      rw [if_pos h8]; exact (if_neg c_17).symm⟩
  ·
    refine lv_aload_n hx hb dX4_readsAmount_20 rfl (lv_at hl 2 rfl) ?_
    refine r_get hx hb hts hown hw.q 0 9 hin4 rfl rfl (by decide) k134 rfl dX4_readsAmount_21 ?_
    refine lv_ineg hx hb dX4_readsAmount_24 ?_
    refine lv_goto (tgt := 32) hx hb dX4_readsAmount_25 (by decide) ?_
    refine r_put hx hb hts hown hw 0 9 (ty := .int) tyX4 tyX4_ok nmX4 hin4 rfl rfl (by decide) k134 rfl (by decide +kernel) rfl rfl (Nat.le_of_ble_eq_true rfl) dX4_readsAmount_32 (fun H locs hw => ?_)
    have hw : Wd D A [(cI, .int)] (wM cI m9 sa tx th sv ln (if nmB tx ln (po + (if sgN tx ln po = 45 then 1 else 0)) 1 = true then (nmR tx ln (po + (if sgN tx ln po = 45 then 1 else 0)) 99).1 else (po + (if sgN tx ln po = 45 then 1 else 0))) lt fi sc (-(if nmB tx ln (po + (if sgN tx ln po = 45 then 1 else 0)) 1 = true then nI (nmR tx ln (po + (if sgN tx ln po = 45 then 1 else 0)) 99).2 else nu)) ad rv) s s.heap H locs := hw
    refine lv_iload_n hx hb dX4_readsAmount_35 rfl (lv_at hl 0 rfl) ?_
    have hw : Wd D A [(cI, .int)] (wM cI m9 sa tx th sv ln ((arA tx ln po).2.1) lt fi sc (-(if nmB tx ln (po + (if sgN tx ln po = 45 then 1 else 0)) 1 = true then nI (nmR tx ln (po + (if sgN tx ln po = 45 then 1 else 0)) 99).2 else nu)) ad rv) s s.heap H locs := hw
    exact hE (-(if nmB tx ln (po + (if sgN tx ln po = 45 then 1 else 0)) 1 = true then nI (nmR tx ln (po + (if sgN tx ln po = 45 then 1 else 0)) 99).2 else nu)) dX4_readsAmount_36 (by first | rfl | exact b2_nz) (Nat.le_of_ble_eq_true rfl) (Nat.le_of_ble_eq_true rfl) (hw.sub [0, 1, 2] [] (by decide) rfl rfl) ⟨rfl, fun h9 => by
      have h8 : nmB tx ln (po + (if sgN tx ln po = 45 then 1 else 0)) 1 = true := h9
      rw [if_pos h8]; exact (if_pos c_17).symm⟩
abbrev rmX4_readsNumbers : Room := { frames := 3, cells := 0, slots := 0, locals := 66 }
set_option maxHeartbeats 4000000 in
set_option maxRecDepth 100000 in
theorem c_X4_readsNumbers (l : Launch) (D : va_G) (sz : Nat) (cI : ClassId) (m9 : Nat → Nat) (sa : Nat → Int32) (tx : Nat → Nat) (th : Int32) (sv ln po : Nat) (fi sc nu : Int32) (ad rv : Nat) (kc : Nat) (htx : ∀ i, tx i < 127) (hln : ln ≤ 80) (hpo : po < 970) (hkc : kc < 127) : MUi l yX4_readsNumbers wsX4_readsNumbers rmX4_readsNumbers [.ref (m9 0)] D [(cI, .int)] (wM cI m9 sa tx th sv ln po (nI kc) fi sc nu ad rv) sz (fun rz (u9 : Int32 × Int32 × Int32) => rz = b2 ((rnC tx ln po kc).1 = true) ∧ ((rnC tx ln po kc).1 = true → u9.1 = nI (sgN tx ln po - 48) ∧ u9.2.1 = nI (sgN tx ln (po + 1) - 48) ∧ (kc ≠ 109 → kc ≠ 100 → u9.2.2 = (rnC tx ln po kc).2.2))) (fun u9 => []) (fun u9 => wM cI m9 sa tx th sv ln ((rnC tx ln po kc).2.1) (nI kc) u9.1 u9.2.1 u9.2.2 ad rv) 0 0 := by
  refine met_u (own := RX4) (cc := cX4_readsNumbers) (maxL := 2) (ty := .boolean) (by decide) rfl rfl (Nat.le_of_ble_eq_true rfl) ?_
  intro p e s m args below meth c Q A hsz S hw hA hE ls hl
  obtain ⟨hx, hb, hml, hown, hts⟩ := id S
  have k147 := hts (.fieldLink RX4 147 "CausalTableModel" "first" "I") (by decide +kernel)
  have hin4 := (show ∀ w ∈ wsX40, w ∈ wsX4_readsNumbers by decide +kernel)
  have k150 := hts (.fieldLink RX4 150 "CausalTableModel" "letter" "I") (by decide +kernel)
  have k153 := hts (.fieldLink RX4 153 "CausalTableModel" "second" "I") (by decide +kernel)
  have hl : lv_has ls 2 [(0, .ref (m9 0))] := hl
  have hsg := sgN_lt htx ln po
  have hsg1 := sgN_lt htx ln (po + 1)
  have hsg2 := sgN_lt htx ln (po + 1 + 1)
  refine lv_aload_n hx hb dX4_readsNumbers_0 rfl (lv_at hl 0 rfl) ?_
  refine lv_aload_n hx hb dX4_readsNumbers_1 rfl (lv_at hl 0 rfl) ?_
  refine lv_iconst (v := nI 3) hx hb dX4_readsNumbers_2 kc_iconst_3 ?_
  refine cu_Vi (As := [.int (nI 3)]) (rest := [.ref (m9 0)]) (wc := wM cI m9 sa tx th sv ln po (nI kc) fi sc nu ad rv) (wr := []) S (c_X4_digit l D (sz := s.heap.size) (cI := cI) (m9 := m9) (sa := sa) (tx := tx) (th := th) (sv := sv) (ln := ln) (po := po) (lt := nI kc) (fi := fi) (sc := sc) (nu := nu) (ad := ad) (rv := rv) (d9 := 3) (htx := htx) (hln := by omega) (hpo := by omega) (hd9 := by omega)) (cwV 1 hts gX4_readsNumbers_X4_digit rfl rfl rfl (by decide +kernel) ⟨Nat.le_of_ble_eq_true rfl, Nat.le_of_ble_eq_true rfl⟩) hw hA [0, 1, 2] [] [0] rfl rfl rfl (by decide) (by decide) (by decide) 0 rfl rfl rfl hl.1 (Nat.le_of_ble_eq_true rfl) ⟨Nat.le_of_ble_eq_true rfl, Nat.le_of_ble_eq_true rfl⟩ rfl dX4_readsNumbers_3 (fun r_3 u_3 H locs e_3 hw => ?_)
  have hw : Wd D A [(cI, .int)] (wM cI m9 sa tx th sv ln (po + (if dgB tx ln po 3 = true then 1 else 0)) (nI kc) fi sc nu ad rv) s s.heap H locs := hw
  have e_3 : r_3 = dgI tx ln po 3 := e_3
  subst e_3
  by_cases h0 : dgB tx ln po 3 = true
  ·
    refine r_top hx (show dgI tx ln po 3 = nI (sgN tx ln po - 48) from dgI_t h0) ?_
    have hw : Wd D A [(cI, .int)] (wM cI m9 sa tx th sv ln (po + 1) (nI kc) fi sc nu ad rv) s s.heap H locs := Eq.mp (congrArg (fun z9 => Wd D A [(cI, .int)] (wM cI m9 sa tx th sv ln z9 (nI kc) fi sc nu ad rv) s s.heap H locs) (show po + (if dgB tx ln po 3 = true then 1 else 0) = po + 1 from by rw [if_pos h0])) hw
    have h08 := dgB_iff.mp h0
    refine r_put hx hb hts hown hw 0 7 (ty := .int) tyX4 tyX4_ok nmX4 hin4 rfl rfl (by decide) k147 rfl (by decide +kernel) rfl rfl (Nat.le_of_ble_eq_true rfl) dX4_readsNumbers_6 (fun H locs hw => ?_)
    have hw : Wd D A [(cI, .int)] (wM cI m9 sa tx th sv ln (po + 1) (nI kc) (nI (sgN tx ln po - 48)) sc nu ad rv) s s.heap H locs := hw
    refine lv_aload_n hx hb dX4_readsNumbers_9 rfl (lv_at hl 0 rfl) ?_
    refine r_get hx hb hts hown hw.q 0 7 hin4 rfl rfl (by decide) k147 rfl dX4_readsNumbers_10 ?_
    refine lv_iconst (v := (-1)) hx hb dX4_readsNumbers_13 kc_iconst_m1 ?_
    refine lv_icmp_ne (tgt := 19) hx hb dX4_readsNumbers_14 (by decide) (fun _ => ?_) (fun h => absurd h (nI_m1 (by omega)))
    refine lv_aload_n hx hb dX4_readsNumbers_19 rfl (lv_at hl 0 rfl) ?_
    refine r_get hx hb hts hown hw.q 0 6 hin4 rfl rfl (by decide) k150 rfl dX4_readsNumbers_20 ?_
    refine lv_bipush (v := nI 109) hx hb dX4_readsNumbers_23 kc_bipush_109 ?_
    refine r_icmp_neN (tgt := 79) hx hb (by omega) (by omega) dX4_readsNumbers_25 (by decide) (fun c_25 => ?_) (fun c_25 => ?_)
    ·
      refine lv_aload_n hx hb dX4_readsNumbers_79 rfl (lv_at hl 0 rfl) ?_
      refine lv_aload_n hx hb dX4_readsNumbers_80 rfl (lv_at hl 0 rfl) ?_
      refine lv_iconst (v := nI 5) hx hb dX4_readsNumbers_81 kc_iconst_5 ?_
      refine cu_Vi (As := [.int (nI 5)]) (rest := [.ref (m9 0)]) (wc := wM cI m9 sa tx th sv ln (po + 1) (nI kc) (nI (sgN tx ln po - 48)) sc nu ad rv) (wr := []) S (c_X4_digit l D (sz := H.size) (cI := cI) (m9 := m9) (sa := sa) (tx := tx) (th := th) (sv := sv) (ln := ln) (po := po + 1) (lt := (nI kc)) (fi := nI (sgN tx ln po - 48)) (sc := sc) (nu := nu) (ad := ad) (rv := rv) (d9 := 5) (htx := htx) (hln := by omega) (hpo := by omega) (hd9 := by omega)) (cwV 1 hts gX4_readsNumbers_X4_digit rfl rfl rfl (by decide +kernel) ⟨Nat.le_of_ble_eq_true rfl, Nat.le_of_ble_eq_true rfl⟩) hw hA [0, 1, 2] [] [0] rfl rfl rfl (by decide) (by decide) (by decide) 0 rfl rfl rfl hl.1 (Nat.le_of_ble_eq_true rfl) ⟨Nat.le_of_ble_eq_true rfl, Nat.le_of_ble_eq_true rfl⟩ rfl dX4_readsNumbers_82 (fun r_82 u_82 H locs e_82 hw => ?_)
      have hw : Wd D A [(cI, .int)] (wM cI m9 sa tx th sv ln ((po + 1) + (if dgB tx ln (po + 1) 5 = true then 1 else 0)) (nI kc) (nI (sgN tx ln po - 48)) sc nu ad rv) s s.heap H locs := hw
      have e_82 : r_82 = dgI tx ln (po + 1) 5 := e_82
      subst e_82
      by_cases h2 : dgB tx ln (po + 1) 5 = true
      ·
        refine r_top hx (show dgI tx ln (po + 1) 5 = nI (sgN tx ln (po + 1) - 48) from dgI_t h2) ?_
        have hw : Wd D A [(cI, .int)] (wM cI m9 sa tx th sv ln (po + 1 + 1) (nI kc) (nI (sgN tx ln po - 48)) sc nu ad rv) s s.heap H locs := Eq.mp (congrArg (fun z9 => Wd D A [(cI, .int)] (wM cI m9 sa tx th sv ln z9 (nI kc) (nI (sgN tx ln po - 48)) sc nu ad rv) s s.heap H locs) (show (po + 1) + (if dgB tx ln (po + 1) 5 = true then 1 else 0) = po + 1 + 1 from by rw [if_pos h2])) hw
        have h28 := dgB_iff.mp h2
        refine r_put hx hb hts hown hw 0 8 (ty := .int) tyX4 tyX4_ok nmX4 hin4 rfl rfl (by decide) k153 rfl (by decide +kernel) rfl rfl (Nat.le_of_ble_eq_true rfl) dX4_readsNumbers_85 (fun H locs hw => ?_)
        have hw : Wd D A [(cI, .int)] (wM cI m9 sa tx th sv ln (po + 1 + 1) (nI kc) (nI (sgN tx ln po - 48)) (nI (sgN tx ln (po + 1) - 48)) nu ad rv) s s.heap H locs := hw
        refine lv_aload_n hx hb dX4_readsNumbers_88 rfl (lv_at hl 0 rfl) ?_
        refine r_get hx hb hts hown hw.q 0 8 hin4 rfl rfl (by decide) k153 rfl dX4_readsNumbers_89 ?_
        refine lv_iconst (v := (-1)) hx hb dX4_readsNumbers_92 kc_iconst_m1 ?_
        refine lv_icmp_eq (tgt := 105) hx hb dX4_readsNumbers_93 (by decide) (fun h => absurd h (nI_m1 (by omega))) (fun _ => ?_)
        refine lv_aload_n hx hb dX4_readsNumbers_96 rfl (lv_at hl 0 rfl) ?_
        refine r_get hx hb hts hown hw.q 0 6 hin4 rfl rfl (by decide) k150 rfl dX4_readsNumbers_97 ?_
        refine lv_bipush (v := nI 100) hx hb dX4_readsNumbers_100 kc_bipush_100 ?_
        refine r_icmp_neN (tgt := 119) hx hb (by omega) (by omega) dX4_readsNumbers_102 (by decide) (fun c_102 => ?_) (fun c_102 => ?_)
        ·
          refine lv_aload_n hx hb dX4_readsNumbers_119 rfl (lv_at hl 0 rfl) ?_
          refine lv_bipush (v := nI 44) hx hb dX4_readsNumbers_120 kc_bipush_44 ?_
          refine cu_Vi (As := [.int (nI 44)]) (rest := []) (wc := wM cI m9 sa tx th sv ln (po + 1 + 1) (nI kc) (nI (sgN tx ln po - 48)) (nI (sgN tx ln (po + 1) - 48)) nu ad rv) (wr := []) S (c_X4_takes l D (sz := H.size) (cI := cI) (m9 := m9) (sa := sa) (tx := tx) (th := th) (sv := sv) (ln := ln) (po := po + 1 + 1) (lt := (nI kc)) (fi := (nI (sgN tx ln po - 48))) (sc := nI (sgN tx ln (po + 1) - 48)) (nu := nu) (ad := ad) (rv := rv) (c9 := 44) (htx := htx) (hln := by omega) (hpo := by omega) (h1c := by omega)) (cwV 1 hts gX4_readsNumbers_X4_takes rfl rfl rfl (by decide +kernel) ⟨Nat.le_of_ble_eq_true rfl, Nat.le_of_ble_eq_true rfl⟩) hw hA [0, 1, 2] [] [0] rfl rfl rfl (by decide) (by decide) (by decide) 0 rfl rfl rfl hl.1 (Nat.le_of_ble_eq_true rfl) ⟨Nat.le_of_ble_eq_true rfl, Nat.le_of_ble_eq_true rfl⟩ rfl dX4_readsNumbers_122 (fun r_122 u_122 H locs e_122 hw => ?_)
          have hw : Wd D A [(cI, .int)] (wM cI m9 sa tx th sv ln ((po + 1 + 1) + (if sgN tx ln (po + 1 + 1) = 44 then 1 else 0)) (nI kc) (nI (sgN tx ln po - 48)) (nI (sgN tx ln (po + 1) - 48)) nu ad rv) s s.heap H locs := hw
          have e_122 : r_122 = b2 (sgN tx ln (po + 1 + 1) = 44) := e_122
          subst e_122
          refine r_if_neB (tgt := 130) hx hb dX4_readsNumbers_125 (by decide) (fun c_125 => ?_) (fun c_125 => ?_)
          ·
            have hw : Wd D A [(cI, .int)] (wM cI m9 sa tx th sv ln (po + 1 + 1 + 1) (nI kc) (nI (sgN tx ln po - 48)) (nI (sgN tx ln (po + 1) - 48)) nu ad rv) s s.heap H locs := Eq.mp (congrArg (fun z9 => Wd D A [(cI, .int)] (wM cI m9 sa tx th sv ln z9 (nI kc) (nI (sgN tx ln po - 48)) (nI (sgN tx ln (po + 1) - 48)) nu ad rv) s s.heap H locs) (show (po + 1 + 1) + (if sgN tx ln (po + 1 + 1) = 44 then 1 else 0) = po + 1 + 1 + 1 from by rw [if_pos c_125])) hw
            refine lv_aload_n hx hb dX4_readsNumbers_130 rfl (lv_at hl 0 rfl) ?_
            refine r_get hx hb hts hown hw.q 0 6 hin4 rfl rfl (by decide) k150 rfl dX4_readsNumbers_131 ?_
            refine lv_bipush (v := nI 97) hx hb dX4_readsNumbers_134 kc_bipush_97 ?_
            refine r_icmp_neN (tgt := 146) hx hb (by omega) (by omega) dX4_readsNumbers_136 (by decide) (fun c_136 => ?_) (fun c_136 => ?_)
            ·
              refine lv_aload_n hx hb dX4_readsNumbers_146 rfl (lv_at hl 0 rfl) ?_
              refine lv_iconst (v := nI 0) hx hb dX4_readsNumbers_147 kc_iconst_0 ?_
              refine lv_aload_n hx hb dX4_readsNumbers_148 rfl (lv_at hl 0 rfl) ?_
              refine r_get hx hb hts hown hw.q 0 6 hin4 rfl rfl (by decide) k150 rfl dX4_readsNumbers_149 ?_
              refine lv_bipush (v := nI 105) hx hb dX4_readsNumbers_152 kc_bipush_105 ?_
              refine r_icmp_eqN (tgt := 166) hx hb (by omega) (by omega) dX4_readsNumbers_154 (by decide) (fun c_154 => ?_) (fun c_154 => ?_)
              ·
                refine lv_bipush (v := nI 15) hx hb dX4_readsNumbers_166 kc_bipush_15 ?_
                refine lv_goto (tgt := 174) hx hb dX4_readsNumbers_168 (by decide) ?_
                refine cu_Vi (As := [.int (nI 0), .int (nI 15)]) (rest := []) (wc := wM cI m9 sa tx th sv ln (po + 1 + 1 + 1) (nI kc) (nI (sgN tx ln po - 48)) (nI (sgN tx ln (po + 1) - 48)) nu ad rv) (wr := []) S (c_X4_readsNumber l D (sz := H.size) (cI := cI) (m9 := m9) (sa := sa) (tx := tx) (th := th) (sv := sv) (ln := ln) (po := po + 1 + 1 + 1) (lt := (nI kc)) (fi := (nI (sgN tx ln po - 48))) (sc := (nI (sgN tx ln (po + 1) - 48))) (nu := nu) (ad := ad) (rv := rv) (a9 := 0) (b9 := 15) (htx := htx) (hln := by omega) (hpo := by omega) (ha9 := by omega) (hb9 := by omega)) (cwV 2 hts gX4_readsNumbers_X4_readsNumber rfl rfl rfl (by decide +kernel) ⟨Nat.le_of_ble_eq_true rfl, Nat.le_of_ble_eq_true rfl⟩) hw hA [0, 1, 2] [] [0] rfl rfl rfl (by decide) (by decide) (by decide) 0 rfl rfl rfl hl.1 (Nat.le_of_ble_eq_true rfl) ⟨Nat.le_of_ble_eq_true rfl, Nat.le_of_ble_eq_true rfl⟩ rfl dX4_readsNumbers_174 (fun r_174 u_174 H locs e_174 hw => ?_)
                have hw : Wd D A [(cI, .int)] (wM cI m9 sa tx th sv ln (if nmB tx ln (po + 1 + 1 + 1) 0 = true then (nmR tx ln (po + 1 + 1 + 1) 15).1 else (po + 1 + 1 + 1)) (nI kc) (nI (sgN tx ln po - 48)) (nI (sgN tx ln (po + 1) - 48)) (if nmB tx ln (po + 1 + 1 + 1) 0 = true then nI (nmR tx ln (po + 1 + 1 + 1) 15).2 else nu) ad rv) s s.heap H locs := hw
                have e_174 : r_174 = b2 (nmB tx ln (po + 1 + 1 + 1) 0 = true) := e_174
                subst e_174
                have hr9 : (rnC tx ln po kc) = (nmB tx ln (po + 1 + 1 + 1) 0, if nmB tx ln (po + 1 + 1 + 1) 0 = true then (nmR tx ln (po + 1 + 1 + 1) 15).1 else (po + 1 + 1 + 1), nI (nmR tx ln (po + 1 + 1 + 1) 15).2) := by rw [rnC, if_pos h0, if_neg c_25, if_pos h2, if_neg c_102, if_pos c_125, agR, if_neg c_136, arN, mfN, if_pos (Or.inl c_154)]
                have hw : Wd D A [(cI, .int)] (wM cI m9 sa tx th sv ln ((rnC tx ln po kc).2.1) (nI kc) (nI (sgN tx ln po - 48)) (nI (sgN tx ln (po + 1) - 48)) (if nmB tx ln (po + 1 + 1 + 1) 0 = true then nI (nmR tx ln (po + 1 + 1 + 1) 15).2 else nu) ad rv) s s.heap H locs := by rw [hr9]; exact hw
                exact hE ((nI (sgN tx ln po - 48)), (nI (sgN tx ln (po + 1) - 48)), if nmB tx ln (po + 1 + 1 + 1) 0 = true then nI (nmR tx ln (po + 1 + 1 + 1) 15).2 else nu) dX4_readsNumbers_177 (by first | rfl | exact b2_nz) (Nat.le_of_ble_eq_true rfl) (Nat.le_of_ble_eq_true rfl) (hw.sub [0, 1, 2] [] (by decide) rfl rfl) ⟨by rw [hr9], fun h9 => by
                    rw [hr9] at h9 ⊢
                    have h8 : nmB tx ln (po + 1 + 1 + 1) 0 = true := h9
                    exact ⟨rfl, rfl, fun _ _ => by rw [if_pos h8]⟩⟩
              ·
                refine lv_aload_n hx hb dX4_readsNumbers_157 rfl (lv_at hl 0 rfl) ?_
                refine r_get hx hb hts hown hw.q 0 6 hin4 rfl rfl (by decide) k150 rfl dX4_readsNumbers_158 ?_
                refine lv_bipush (v := nI 101) hx hb dX4_readsNumbers_161 kc_bipush_101 ?_
                refine r_icmp_neN (tgt := 171) hx hb (by omega) (by omega) dX4_readsNumbers_163 (by decide) (fun c_163 => ?_) (fun c_163 => ?_)
                ·
                  refine lv_sipush (v := nI 999) hx hb dX4_readsNumbers_171 kc_sipush_999 ?_
                  refine cu_Vi (As := [.int (nI 0), .int (nI 999)]) (rest := []) (wc := wM cI m9 sa tx th sv ln (po + 1 + 1 + 1) (nI kc) (nI (sgN tx ln po - 48)) (nI (sgN tx ln (po + 1) - 48)) nu ad rv) (wr := []) S (c_X4_readsNumber l D (sz := H.size) (cI := cI) (m9 := m9) (sa := sa) (tx := tx) (th := th) (sv := sv) (ln := ln) (po := po + 1 + 1 + 1) (lt := (nI kc)) (fi := (nI (sgN tx ln po - 48))) (sc := (nI (sgN tx ln (po + 1) - 48))) (nu := nu) (ad := ad) (rv := rv) (a9 := 0) (b9 := 999) (htx := htx) (hln := by omega) (hpo := by omega) (ha9 := by omega) (hb9 := by omega)) (cwV 2 hts gX4_readsNumbers_X4_readsNumber rfl rfl rfl (by decide +kernel) ⟨Nat.le_of_ble_eq_true rfl, Nat.le_of_ble_eq_true rfl⟩) hw hA [0, 1, 2] [] [0] rfl rfl rfl (by decide) (by decide) (by decide) 0 rfl rfl rfl hl.1 (Nat.le_of_ble_eq_true rfl) ⟨Nat.le_of_ble_eq_true rfl, Nat.le_of_ble_eq_true rfl⟩ rfl dX4_readsNumbers_174 (fun r_174 u_174 H locs e_174 hw => ?_)
                  have hw : Wd D A [(cI, .int)] (wM cI m9 sa tx th sv ln (if nmB tx ln (po + 1 + 1 + 1) 0 = true then (nmR tx ln (po + 1 + 1 + 1) 999).1 else (po + 1 + 1 + 1)) (nI kc) (nI (sgN tx ln po - 48)) (nI (sgN tx ln (po + 1) - 48)) (if nmB tx ln (po + 1 + 1 + 1) 0 = true then nI (nmR tx ln (po + 1 + 1 + 1) 999).2 else nu) ad rv) s s.heap H locs := hw
                  have e_174 : r_174 = b2 (nmB tx ln (po + 1 + 1 + 1) 0 = true) := e_174
                  subst e_174
                  have hr9 : (rnC tx ln po kc) = (nmB tx ln (po + 1 + 1 + 1) 0, if nmB tx ln (po + 1 + 1 + 1) 0 = true then (nmR tx ln (po + 1 + 1 + 1) 999).1 else (po + 1 + 1 + 1), nI (nmR tx ln (po + 1 + 1 + 1) 999).2) := by rw [rnC, if_pos h0, if_neg c_25, if_pos h2, if_neg c_102, if_pos c_125, agR, if_neg c_136, arN, mfN, if_neg (show ¬ (kc = 105 ∨ kc = 101) from fun z => z.elim c_154 c_163)]
                  have hw : Wd D A [(cI, .int)] (wM cI m9 sa tx th sv ln ((rnC tx ln po kc).2.1) (nI kc) (nI (sgN tx ln po - 48)) (nI (sgN tx ln (po + 1) - 48)) (if nmB tx ln (po + 1 + 1 + 1) 0 = true then nI (nmR tx ln (po + 1 + 1 + 1) 999).2 else nu) ad rv) s s.heap H locs := by rw [hr9]; exact hw
                  exact hE ((nI (sgN tx ln po - 48)), (nI (sgN tx ln (po + 1) - 48)), if nmB tx ln (po + 1 + 1 + 1) 0 = true then nI (nmR tx ln (po + 1 + 1 + 1) 999).2 else nu) dX4_readsNumbers_177 (by first | rfl | exact b2_nz) (Nat.le_of_ble_eq_true rfl) (Nat.le_of_ble_eq_true rfl) (hw.sub [0, 1, 2] [] (by decide) rfl rfl) ⟨by rw [hr9], fun h9 => by
                      rw [hr9] at h9 ⊢
                      have h8 : nmB tx ln (po + 1 + 1 + 1) 0 = true := h9
                      exact ⟨rfl, rfl, fun _ _ => by rw [if_pos h8]⟩⟩
                ·
                  refine lv_bipush (v := nI 15) hx hb dX4_readsNumbers_166 kc_bipush_15 ?_
                  refine lv_goto (tgt := 174) hx hb dX4_readsNumbers_168 (by decide) ?_
                  refine cu_Vi (As := [.int (nI 0), .int (nI 15)]) (rest := []) (wc := wM cI m9 sa tx th sv ln (po + 1 + 1 + 1) (nI kc) (nI (sgN tx ln po - 48)) (nI (sgN tx ln (po + 1) - 48)) nu ad rv) (wr := []) S (c_X4_readsNumber l D (sz := H.size) (cI := cI) (m9 := m9) (sa := sa) (tx := tx) (th := th) (sv := sv) (ln := ln) (po := po + 1 + 1 + 1) (lt := (nI kc)) (fi := (nI (sgN tx ln po - 48))) (sc := (nI (sgN tx ln (po + 1) - 48))) (nu := nu) (ad := ad) (rv := rv) (a9 := 0) (b9 := 15) (htx := htx) (hln := by omega) (hpo := by omega) (ha9 := by omega) (hb9 := by omega)) (cwV 2 hts gX4_readsNumbers_X4_readsNumber rfl rfl rfl (by decide +kernel) ⟨Nat.le_of_ble_eq_true rfl, Nat.le_of_ble_eq_true rfl⟩) hw hA [0, 1, 2] [] [0] rfl rfl rfl (by decide) (by decide) (by decide) 0 rfl rfl rfl hl.1 (Nat.le_of_ble_eq_true rfl) ⟨Nat.le_of_ble_eq_true rfl, Nat.le_of_ble_eq_true rfl⟩ rfl dX4_readsNumbers_174 (fun r_174 u_174 H locs e_174 hw => ?_)
                  have hw : Wd D A [(cI, .int)] (wM cI m9 sa tx th sv ln (if nmB tx ln (po + 1 + 1 + 1) 0 = true then (nmR tx ln (po + 1 + 1 + 1) 15).1 else (po + 1 + 1 + 1)) (nI kc) (nI (sgN tx ln po - 48)) (nI (sgN tx ln (po + 1) - 48)) (if nmB tx ln (po + 1 + 1 + 1) 0 = true then nI (nmR tx ln (po + 1 + 1 + 1) 15).2 else nu) ad rv) s s.heap H locs := hw
                  have e_174 : r_174 = b2 (nmB tx ln (po + 1 + 1 + 1) 0 = true) := e_174
                  subst e_174
                  have hr9 : (rnC tx ln po kc) = (nmB tx ln (po + 1 + 1 + 1) 0, if nmB tx ln (po + 1 + 1 + 1) 0 = true then (nmR tx ln (po + 1 + 1 + 1) 15).1 else (po + 1 + 1 + 1), nI (nmR tx ln (po + 1 + 1 + 1) 15).2) := by rw [rnC, if_pos h0, if_neg c_25, if_pos h2, if_neg c_102, if_pos c_125, agR, if_neg c_136, arN, mfN, if_pos (Or.inr c_163)]
                  have hw : Wd D A [(cI, .int)] (wM cI m9 sa tx th sv ln ((rnC tx ln po kc).2.1) (nI kc) (nI (sgN tx ln po - 48)) (nI (sgN tx ln (po + 1) - 48)) (if nmB tx ln (po + 1 + 1 + 1) 0 = true then nI (nmR tx ln (po + 1 + 1 + 1) 15).2 else nu) ad rv) s s.heap H locs := by rw [hr9]; exact hw
                  exact hE ((nI (sgN tx ln po - 48)), (nI (sgN tx ln (po + 1) - 48)), if nmB tx ln (po + 1 + 1 + 1) 0 = true then nI (nmR tx ln (po + 1 + 1 + 1) 15).2 else nu) dX4_readsNumbers_177 (by first | rfl | exact b2_nz) (Nat.le_of_ble_eq_true rfl) (Nat.le_of_ble_eq_true rfl) (hw.sub [0, 1, 2] [] (by decide) rfl rfl) ⟨by rw [hr9], fun h9 => by
                      rw [hr9] at h9 ⊢
                      have h8 : nmB tx ln (po + 1 + 1 + 1) 0 = true := h9
                      exact ⟨rfl, rfl, fun _ _ => by rw [if_pos h8]⟩⟩
            ·
              refine lv_aload_n hx hb dX4_readsNumbers_139 rfl (lv_at hl 0 rfl) ?_
              refine cu_Vi (As := []) (rest := []) (wc := wM cI m9 sa tx th sv ln (po + 1 + 1 + 1) (nI kc) (nI (sgN tx ln po - 48)) (nI (sgN tx ln (po + 1) - 48)) nu ad rv) (wr := []) S (c_X4_readsAmount l D (sz := H.size) (cI := cI) (m9 := m9) (sa := sa) (tx := tx) (th := th) (sv := sv) (ln := ln) (po := po + 1 + 1 + 1) (lt := (nI kc)) (fi := (nI (sgN tx ln po - 48))) (sc := (nI (sgN tx ln (po + 1) - 48))) (nu := nu) (ad := ad) (rv := rv) (htx := htx) (hln := by omega) (hpo := by omega)) (cwV 0 hts gX4_readsNumbers_X4_readsAmount rfl rfl rfl (by decide +kernel) ⟨Nat.le_of_ble_eq_true rfl, Nat.le_of_ble_eq_true rfl⟩) hw hA [0, 1, 2] [] [0] rfl rfl rfl (by decide) (by decide) (by decide) 0 rfl rfl rfl hl.1 (Nat.le_of_ble_eq_true rfl) ⟨Nat.le_of_ble_eq_true rfl, Nat.le_of_ble_eq_true rfl⟩ rfl dX4_readsNumbers_140 (fun r_140 u_140 H locs e_140 hw => ?_)
              have hw : Wd D A [(cI, .int)] (wM cI m9 sa tx th sv ln ((arA tx ln (po + 1 + 1 + 1)).2.1) (nI kc) (nI (sgN tx ln po - 48)) (nI (sgN tx ln (po + 1) - 48)) u_140 ad rv) s s.heap H locs := hw
              obtain ⟨e_140, x_140⟩ := e_140
              have e_140 : r_140 = b2 ((arA tx ln (po + 1 + 1 + 1)).1 = true) := e_140
              subst e_140
              refine lv_goto (tgt := 177) hx hb dX4_readsNumbers_143 (by decide) ?_
              have hr9 : (rnC tx ln po kc) = arA tx ln (po + 1 + 1 + 1) := by rw [rnC, if_pos h0, if_neg c_25, if_pos h2, if_neg c_102, if_pos c_125, agR, if_pos c_136]
              have hw : Wd D A [(cI, .int)] (wM cI m9 sa tx th sv ln ((rnC tx ln po kc).2.1) (nI kc) (nI (sgN tx ln po - 48)) (nI (sgN tx ln (po + 1) - 48)) u_140 ad rv) s s.heap H locs := by rw [hr9]; exact hw
              exact hE ((nI (sgN tx ln po - 48)), (nI (sgN tx ln (po + 1) - 48)), u_140) dX4_readsNumbers_177 (by first | rfl | exact b2_nz) (Nat.le_of_ble_eq_true rfl) (Nat.le_of_ble_eq_true rfl) (hw.sub [0, 1, 2] [] (by decide) rfl rfl) ⟨by rw [hr9], fun h9 => by
                  rw [hr9] at h9 ⊢
                  exact ⟨rfl, rfl, fun _ _ => x_140 h9⟩⟩
          ·
            have hw : Wd D A [(cI, .int)] (wM cI m9 sa tx th sv ln (po + 1 + 1) (nI kc) (nI (sgN tx ln po - 48)) (nI (sgN tx ln (po + 1) - 48)) nu ad rv) s s.heap H locs := Eq.mp (congrArg (fun z9 => Wd D A [(cI, .int)] (wM cI m9 sa tx th sv ln z9 (nI kc) (nI (sgN tx ln po - 48)) (nI (sgN tx ln (po + 1) - 48)) nu ad rv) s s.heap H locs) (show (po + 1 + 1) + (if sgN tx ln (po + 1 + 1) = 44 then 1 else 0) = po + 1 + 1 from by rw [if_neg c_125] <;> rfl)) hw
            refine lv_iconst (v := nI 0) hx hb dX4_readsNumbers_128 kc_iconst_0 ?_
            have hr9 : (rnC tx ln po kc) = (false, po + 1 + 1, 0) := by rw [rnC, if_pos h0, if_neg c_25, if_pos h2, if_neg c_102, if_neg c_125]
            have hw : Wd D A [(cI, .int)] (wM cI m9 sa tx th sv ln ((rnC tx ln po kc).2.1) (nI kc) (nI (sgN tx ln po - 48)) (nI (sgN tx ln (po + 1) - 48)) nu ad rv) s s.heap H locs := by rw [hr9]; exact hw
            exact hE ((nI (sgN tx ln po - 48)), (nI (sgN tx ln (po + 1) - 48)), nu) dX4_readsNumbers_129 (by first | rfl | exact b2_nz) (Nat.le_of_ble_eq_true rfl) (Nat.le_of_ble_eq_true rfl) (hw.sub [0, 1, 2] [] (by decide) rfl rfl) ⟨by rw [hr9]; exact ret0 Bool.false_ne_true, fun h9 => by
                rw [hr9] at h9
                exact absurd h9 Bool.false_ne_true⟩
        ·
          refine lv_aload_n hx hb dX4_readsNumbers_105 rfl (lv_at hl 0 rfl) ?_
          refine r_get hx hb hts hown hw.q 0 8 hin4 rfl rfl (by decide) k153 rfl dX4_readsNumbers_106 ?_
          refine lv_iconst (v := (-1)) hx hb dX4_readsNumbers_109 kc_iconst_m1 ?_
          refine lv_icmp_eq (tgt := 117) hx hb dX4_readsNumbers_110 (by decide) (fun h => absurd h (nI_m1 (by omega))) (fun _ => ?_)
          refine lv_iconst (v := nI 1) hx hb dX4_readsNumbers_113 kc_iconst_1 ?_
          refine lv_goto (tgt := 118) hx hb dX4_readsNumbers_114 (by decide) ?_
          have hr9 : (rnC tx ln po kc) = (true, po + 1 + 1, 0) := by rw [rnC, if_pos h0, if_neg c_25, if_pos h2, if_pos c_102]
          have hw : Wd D A [(cI, .int)] (wM cI m9 sa tx th sv ln ((rnC tx ln po kc).2.1) (nI kc) (nI (sgN tx ln po - 48)) (nI (sgN tx ln (po + 1) - 48)) nu ad rv) s s.heap H locs := by rw [hr9]; exact hw
          exact hE ((nI (sgN tx ln po - 48)), nI (sgN tx ln (po + 1) - 48), nu) dX4_readsNumbers_118 (by first | rfl | exact b2_nz) (Nat.le_of_ble_eq_true rfl) (Nat.le_of_ble_eq_true rfl) (hw.sub [0, 1, 2] [] (by decide) rfl rfl) ⟨by rw [hr9]; exact ret1 rfl, fun h9 => by
              exact ⟨rfl, rfl, fun _ z => absurd c_102 z⟩⟩
      ·
        refine r_top hx (show dgI tx ln (po + 1) 5 = (-1) from dgI_f h2) ?_
        have hw : Wd D A [(cI, .int)] (wM cI m9 sa tx th sv ln (po + 1) (nI kc) (nI (sgN tx ln po - 48)) sc nu ad rv) s s.heap H locs := Eq.mp (congrArg (fun z9 => Wd D A [(cI, .int)] (wM cI m9 sa tx th sv ln z9 (nI kc) (nI (sgN tx ln po - 48)) sc nu ad rv) s s.heap H locs) (show (po + 1) + (if dgB tx ln (po + 1) 5 = true then 1 else 0) = po + 1 from by rw [if_neg h2] <;> rfl)) hw
        refine r_put hx hb hts hown hw 0 8 (ty := .int) tyX4 tyX4_ok nmX4 hin4 rfl rfl (by decide) k153 rfl (by decide +kernel) rfl rfl (Nat.le_of_ble_eq_true rfl) dX4_readsNumbers_85 (fun H locs hw => ?_)
        have hw : Wd D A [(cI, .int)] (wM cI m9 sa tx th sv ln (po + 1) (nI kc) (nI (sgN tx ln po - 48)) (-1) nu ad rv) s s.heap H locs := hw
        refine lv_aload_n hx hb dX4_readsNumbers_88 rfl (lv_at hl 0 rfl) ?_
        refine r_get hx hb hts hown hw.q 0 8 hin4 rfl rfl (by decide) k153 rfl dX4_readsNumbers_89 ?_
        refine lv_iconst (v := (-1)) hx hb dX4_readsNumbers_92 kc_iconst_m1 ?_
        refine lv_icmp_eq (tgt := 105) hx hb dX4_readsNumbers_93 (by decide) (fun _ => ?_) (fun h => absurd (rfl) h)
        refine lv_aload_n hx hb dX4_readsNumbers_105 rfl (lv_at hl 0 rfl) ?_
        refine r_get hx hb hts hown hw.q 0 8 hin4 rfl rfl (by decide) k153 rfl dX4_readsNumbers_106 ?_
        refine lv_iconst (v := (-1)) hx hb dX4_readsNumbers_109 kc_iconst_m1 ?_
        refine lv_icmp_eq (tgt := 117) hx hb dX4_readsNumbers_110 (by decide) (fun _ => ?_) (fun h => absurd (rfl) h)
        refine lv_iconst (v := nI 0) hx hb dX4_readsNumbers_117 kc_iconst_0 ?_
        have hr9 : (rnC tx ln po kc) = (false, po + 1, 0) := by rw [rnC, if_pos h0, if_neg c_25, if_neg h2]
        have hw : Wd D A [(cI, .int)] (wM cI m9 sa tx th sv ln ((rnC tx ln po kc).2.1) (nI kc) (nI (sgN tx ln po - 48)) (-1) nu ad rv) s s.heap H locs := by rw [hr9]; exact hw
        exact hE ((nI (sgN tx ln po - 48)), (-1), nu) dX4_readsNumbers_118 (by first | rfl | exact b2_nz) (Nat.le_of_ble_eq_true rfl) (Nat.le_of_ble_eq_true rfl) (hw.sub [0, 1, 2] [] (by decide) rfl rfl) ⟨by rw [hr9]; exact ret0 Bool.false_ne_true, fun h9 => by
            rw [hr9] at h9
            exact absurd h9 Bool.false_ne_true⟩
    ·
      refine lv_aload_n hx hb dX4_readsNumbers_28 rfl (lv_at hl 0 rfl) ?_
      refine cq_V (As := []) (rest := []) S (c_X4_sign l D (cI := cI) (m9 := m9) (sa := sa) (tx := tx) (th := th) (sv := sv) (ln := ln) (po := po + 1) (lt := (nI kc)) (fi := nI (sgN tx ln po - 48)) (sc := sc) (nu := nu) (ad := ad) (rv := rv) (htx := htx) (hln := by omega) (hpo := by omega)) (cwV 0 hts gX4_readsNumbers_X4_sign rfl rfl rfl (by decide +kernel) ⟨Nat.le_of_ble_eq_true rfl, Nat.le_of_ble_eq_true rfl⟩) (hw.q.sub [0, 1, 2] [0] rfl rfl) 0 rfl rfl rfl hl.1 (Nat.le_of_ble_eq_true rfl) ⟨Nat.le_of_ble_eq_true rfl, Nat.le_of_ble_eq_true rfl⟩ rfl dX4_readsNumbers_29 (fun r_29 e_29 => ?_)
      have e_29 : r_29 = nI (sgN tx ln (po + 1)) := e_29
      subst e_29
      refine lv_bipush (v := nI 48) hx hb dX4_readsNumbers_32 kc_bipush_48 ?_
      refine lv_aload_n hx hb dX4_readsNumbers_34 rfl (lv_at hl 0 rfl) ?_
      refine r_get hx hb hts hown hw.q 0 7 hin4 rfl rfl (by decide) k147 rfl dX4_readsNumbers_35 ?_
      refine r_addN hx hb dX4_readsNumbers_38 ?_
      refine r_icmp_eqN (tgt := 46) hx hb (by omega) (by omega) dX4_readsNumbers_39 (by decide) (fun c_39 => ?_) (fun c_39 => ?_)
      ·
        refine lv_iconst (v := nI 0) hx hb dX4_readsNumbers_46 kc_iconst_0 ?_
        refine lv_istore_n (lv' := [(1, .int (nI 0)), (0, .ref (m9 0))]) hx hb dX4_readsNumbers_47 rfl hl (by decide) rfl (fun ls hl => ?_)
        refine lv_aload_n hx hb dX4_readsNumbers_48 rfl (lv_at hl 1 rfl) ?_
        refine lv_iload_n hx hb dX4_readsNumbers_49 rfl (lv_at hl 0 rfl) ?_
        refine lv_if_eq (tgt := 61) hx hb dX4_readsNumbers_50 (by decide) (fun _ => ?_) (fun h => absurd h (by decide))
        refine lv_iconst (v := (-1)) hx hb dX4_readsNumbers_61 kc_iconst_m1 ?_
        refine r_put hx hb hts hown hw 0 8 (ty := .int) tyX4 tyX4_ok nmX4 hin4 rfl rfl (by decide) k153 rfl (by decide +kernel) rfl rfl (Nat.le_of_ble_eq_true rfl) dX4_readsNumbers_62 (fun H locs hw => ?_)
        have hw : Wd D A [(cI, .int)] (wM cI m9 sa tx th sv ln (po + 1) (nI kc) (nI (sgN tx ln po - 48)) (-1) nu ad rv) s s.heap H locs := hw
        refine lv_aload_n hx hb dX4_readsNumbers_65 rfl (lv_at hl 1 rfl) ?_
        refine r_get hx hb hts hown hw.q 0 8 hin4 rfl rfl (by decide) k153 rfl dX4_readsNumbers_66 ?_
        refine lv_iconst (v := (-1)) hx hb dX4_readsNumbers_69 kc_iconst_m1 ?_
        refine lv_icmp_eq (tgt := 77) hx hb dX4_readsNumbers_70 (by decide) (fun _ => ?_) (fun h => absurd (rfl) h)
        refine lv_iconst (v := nI 0) hx hb dX4_readsNumbers_77 kc_iconst_0 ?_
        have hr9 : (rnC tx ln po kc) = (false, po + 1, 0) := by rw [rnC, if_pos h0, if_pos c_25, roR, if_neg (fun z => z.2 (by omega))]
        have hw : Wd D A [(cI, .int)] (wM cI m9 sa tx th sv ln ((rnC tx ln po kc).2.1) (nI kc) (nI (sgN tx ln po - 48)) (-1) nu ad rv) s s.heap H locs := by rw [hr9]; exact hw
        exact hE (nI (sgN tx ln po - 48), (-1), nu) dX4_readsNumbers_78 (by first | rfl | exact b2_nz) (Nat.le_of_ble_eq_true rfl) (Nat.le_of_ble_eq_true rfl) (hw.sub [0, 1, 2] [] (by decide) rfl rfl) ⟨by rw [hr9]; exact ret0 Bool.false_ne_true, fun h9 => by
            rw [hr9] at h9
            exact absurd h9 Bool.false_ne_true⟩
      ·
        refine lv_iconst (v := nI 1) hx hb dX4_readsNumbers_42 kc_iconst_1 ?_
        refine lv_goto (tgt := 47) hx hb dX4_readsNumbers_43 (by decide) ?_
        refine lv_istore_n (lv' := [(1, .int (nI 1)), (0, .ref (m9 0))]) hx hb dX4_readsNumbers_47 rfl hl (by decide) rfl (fun ls hl => ?_)
        refine lv_aload_n hx hb dX4_readsNumbers_48 rfl (lv_at hl 1 rfl) ?_
        refine lv_iload_n hx hb dX4_readsNumbers_49 rfl (lv_at hl 0 rfl) ?_
        refine lv_if_eq (tgt := 61) hx hb dX4_readsNumbers_50 (by decide) (fun h => absurd h (by decide)) (fun _ => ?_)
        refine lv_aload_n hx hb dX4_readsNumbers_53 rfl (lv_at hl 1 rfl) ?_
        refine lv_iconst (v := nI 3) hx hb dX4_readsNumbers_54 kc_iconst_3 ?_
        refine cu_Vi (As := [.int (nI 3)]) (rest := [.ref (m9 0)]) (wc := wM cI m9 sa tx th sv ln (po + 1) (nI kc) (nI (sgN tx ln po - 48)) sc nu ad rv) (wr := []) S (c_X4_digit l D (sz := H.size) (cI := cI) (m9 := m9) (sa := sa) (tx := tx) (th := th) (sv := sv) (ln := ln) (po := po + 1) (lt := (nI kc)) (fi := nI (sgN tx ln po - 48)) (sc := sc) (nu := nu) (ad := ad) (rv := rv) (d9 := 3) (htx := htx) (hln := by omega) (hpo := by omega) (hd9 := by omega)) (cwV 1 hts gX4_readsNumbers_X4_digit rfl rfl rfl (by decide +kernel) ⟨Nat.le_of_ble_eq_true rfl, Nat.le_of_ble_eq_true rfl⟩) hw hA [0, 1, 2] [] [0] rfl rfl rfl (by decide) (by decide) (by decide) 0 rfl rfl rfl hl.1 (Nat.le_of_ble_eq_true rfl) ⟨Nat.le_of_ble_eq_true rfl, Nat.le_of_ble_eq_true rfl⟩ rfl dX4_readsNumbers_55 (fun r_55 u_55 H locs e_55 hw => ?_)
        have hw : Wd D A [(cI, .int)] (wM cI m9 sa tx th sv ln ((po + 1) + (if dgB tx ln (po + 1) 3 = true then 1 else 0)) (nI kc) (nI (sgN tx ln po - 48)) sc nu ad rv) s s.heap H locs := hw
        have e_55 : r_55 = dgI tx ln (po + 1) 3 := e_55
        subst e_55
        by_cases h1 : dgB tx ln (po + 1) 3 = true
        ·
          refine r_top hx (show dgI tx ln (po + 1) 3 = nI (sgN tx ln (po + 1) - 48) from dgI_t h1) ?_
          have hw : Wd D A [(cI, .int)] (wM cI m9 sa tx th sv ln (po + 1 + 1) (nI kc) (nI (sgN tx ln po - 48)) sc nu ad rv) s s.heap H locs := Eq.mp (congrArg (fun z9 => Wd D A [(cI, .int)] (wM cI m9 sa tx th sv ln z9 (nI kc) (nI (sgN tx ln po - 48)) sc nu ad rv) s s.heap H locs) (show (po + 1) + (if dgB tx ln (po + 1) 3 = true then 1 else 0) = po + 1 + 1 from by rw [if_pos h1])) hw
          have h18 := dgB_iff.mp h1
          refine lv_goto (tgt := 62) hx hb dX4_readsNumbers_58 (by decide) ?_
          refine r_put hx hb hts hown hw 0 8 (ty := .int) tyX4 tyX4_ok nmX4 hin4 rfl rfl (by decide) k153 rfl (by decide +kernel) rfl rfl (Nat.le_of_ble_eq_true rfl) dX4_readsNumbers_62 (fun H locs hw => ?_)
          have hw : Wd D A [(cI, .int)] (wM cI m9 sa tx th sv ln (po + 1 + 1) (nI kc) (nI (sgN tx ln po - 48)) (nI (sgN tx ln (po + 1) - 48)) nu ad rv) s s.heap H locs := hw
          refine lv_aload_n hx hb dX4_readsNumbers_65 rfl (lv_at hl 1 rfl) ?_
          refine r_get hx hb hts hown hw.q 0 8 hin4 rfl rfl (by decide) k153 rfl dX4_readsNumbers_66 ?_
          refine lv_iconst (v := (-1)) hx hb dX4_readsNumbers_69 kc_iconst_m1 ?_
          refine lv_icmp_eq (tgt := 77) hx hb dX4_readsNumbers_70 (by decide) (fun h => absurd h (nI_m1 (by omega))) (fun _ => ?_)
          refine lv_iconst (v := nI 1) hx hb dX4_readsNumbers_73 kc_iconst_1 ?_
          refine lv_goto (tgt := 78) hx hb dX4_readsNumbers_74 (by decide) ?_
          have hr9 : (rnC tx ln po kc) = (true, po + 1 + 1, nI (sgN tx ln (po + 1) - 48)) := by rw [rnC, if_pos h0, if_pos c_25, roR, if_pos ⟨h1, by omega⟩]
          have hw : Wd D A [(cI, .int)] (wM cI m9 sa tx th sv ln ((rnC tx ln po kc).2.1) (nI kc) (nI (sgN tx ln po - 48)) (nI (sgN tx ln (po + 1) - 48)) nu ad rv) s s.heap H locs := by rw [hr9]; exact hw
          exact hE ((nI (sgN tx ln po - 48)), nI (sgN tx ln (po + 1) - 48), nu) dX4_readsNumbers_78 (by first | rfl | exact b2_nz) (Nat.le_of_ble_eq_true rfl) (Nat.le_of_ble_eq_true rfl) (hw.sub [0, 1, 2] [] (by decide) rfl rfl) ⟨by rw [hr9]; exact ret1 rfl, fun h9 => by
              exact ⟨rfl, rfl, fun z => absurd c_25 z⟩⟩
        ·
          refine r_top hx (show dgI tx ln (po + 1) 3 = (-1) from dgI_f h1) ?_
          have hw : Wd D A [(cI, .int)] (wM cI m9 sa tx th sv ln (po + 1) (nI kc) (nI (sgN tx ln po - 48)) sc nu ad rv) s s.heap H locs := Eq.mp (congrArg (fun z9 => Wd D A [(cI, .int)] (wM cI m9 sa tx th sv ln z9 (nI kc) (nI (sgN tx ln po - 48)) sc nu ad rv) s s.heap H locs) (show (po + 1) + (if dgB tx ln (po + 1) 3 = true then 1 else 0) = po + 1 from by rw [if_neg h1] <;> rfl)) hw
          refine lv_goto (tgt := 62) hx hb dX4_readsNumbers_58 (by decide) ?_
          refine r_put hx hb hts hown hw 0 8 (ty := .int) tyX4 tyX4_ok nmX4 hin4 rfl rfl (by decide) k153 rfl (by decide +kernel) rfl rfl (Nat.le_of_ble_eq_true rfl) dX4_readsNumbers_62 (fun H locs hw => ?_)
          have hw : Wd D A [(cI, .int)] (wM cI m9 sa tx th sv ln (po + 1) (nI kc) (nI (sgN tx ln po - 48)) (-1) nu ad rv) s s.heap H locs := hw
          refine lv_aload_n hx hb dX4_readsNumbers_65 rfl (lv_at hl 1 rfl) ?_
          refine r_get hx hb hts hown hw.q 0 8 hin4 rfl rfl (by decide) k153 rfl dX4_readsNumbers_66 ?_
          refine lv_iconst (v := (-1)) hx hb dX4_readsNumbers_69 kc_iconst_m1 ?_
          refine lv_icmp_eq (tgt := 77) hx hb dX4_readsNumbers_70 (by decide) (fun _ => ?_) (fun h => absurd (rfl) h)
          refine lv_iconst (v := nI 0) hx hb dX4_readsNumbers_77 kc_iconst_0 ?_
          have hr9 : (rnC tx ln po kc) = (false, po + 1, 0) := by rw [rnC, if_pos h0, if_pos c_25, roR, if_neg (fun z => h1 z.1)]
          have hw : Wd D A [(cI, .int)] (wM cI m9 sa tx th sv ln ((rnC tx ln po kc).2.1) (nI kc) (nI (sgN tx ln po - 48)) (-1) nu ad rv) s s.heap H locs := by rw [hr9]; exact hw
          exact hE ((nI (sgN tx ln po - 48)), (-1), nu) dX4_readsNumbers_78 (by first | rfl | exact b2_nz) (Nat.le_of_ble_eq_true rfl) (Nat.le_of_ble_eq_true rfl) (hw.sub [0, 1, 2] [] (by decide) rfl rfl) ⟨by rw [hr9]; exact ret0 Bool.false_ne_true, fun h9 => by
              rw [hr9] at h9
              exact absurd h9 Bool.false_ne_true⟩
  ·
    refine r_top hx (show dgI tx ln po 3 = (-1) from dgI_f h0) ?_
    have hw : Wd D A [(cI, .int)] (wM cI m9 sa tx th sv ln po (nI kc) fi sc nu ad rv) s s.heap H locs := Eq.mp (congrArg (fun z9 => Wd D A [(cI, .int)] (wM cI m9 sa tx th sv ln z9 (nI kc) fi sc nu ad rv) s s.heap H locs) (show po + (if dgB tx ln po 3 = true then 1 else 0) = po from by rw [if_neg h0] <;> rfl)) hw
    refine r_put hx hb hts hown hw 0 7 (ty := .int) tyX4 tyX4_ok nmX4 hin4 rfl rfl (by decide) k147 rfl (by decide +kernel) rfl rfl (Nat.le_of_ble_eq_true rfl) dX4_readsNumbers_6 (fun H locs hw => ?_)
    have hw : Wd D A [(cI, .int)] (wM cI m9 sa tx th sv ln po (nI kc) (-1) sc nu ad rv) s s.heap H locs := hw
    refine lv_aload_n hx hb dX4_readsNumbers_9 rfl (lv_at hl 0 rfl) ?_
    refine r_get hx hb hts hown hw.q 0 7 hin4 rfl rfl (by decide) k147 rfl dX4_readsNumbers_10 ?_
    refine lv_iconst (v := (-1)) hx hb dX4_readsNumbers_13 kc_iconst_m1 ?_
    refine lv_icmp_ne (tgt := 19) hx hb dX4_readsNumbers_14 (by decide) (fun h => absurd (rfl) h) (fun _ => ?_)
    refine lv_iconst (v := nI 0) hx hb dX4_readsNumbers_17 kc_iconst_0 ?_
    have hr9 : (rnC tx ln po kc) = (false, po, 0) := by rw [rnC, if_neg h0]
    have hw : Wd D A [(cI, .int)] (wM cI m9 sa tx th sv ln ((rnC tx ln po kc).2.1) (nI kc) (-1) sc nu ad rv) s s.heap H locs := by rw [hr9]; exact hw
    exact hE ((-1), sc, nu) dX4_readsNumbers_18 (by first | rfl | exact b2_nz) (Nat.le_of_ble_eq_true rfl) (Nat.le_of_ble_eq_true rfl) (hw.sub [0, 1, 2] [] (by decide) rfl rfl) ⟨by rw [hr9]; exact ret0 Bool.false_ne_true, fun h9 => by
        rw [hr9] at h9
        exact absurd h9 Bool.false_ne_true⟩
abbrev rmX4_readsCommand : Room := { frames := 4, cells := 0, slots := 0, locals := 87 }
set_option maxHeartbeats 4000000 in
set_option maxRecDepth 100000 in
theorem c_X4_readsCommand (l : Launch) (D : va_G) (sz : Nat) (cI : ClassId) (m9 : Nat → Nat) (sa : Nat → Int32) (tx : Nat → Nat) (th : Int32) (sv ln po : Nat) (lt fi sc nu : Int32) (ad rv : Nat)  (htx : ∀ i, tx i < 127) (hln : ln ≤ 80) (hpo : po < 960)  : MUi l yX4_readsCommand wsX4_readsCommand rmX4_readsCommand [.ref (m9 0)] D [(cI, .int)] (wM cI m9 sa tx th sv ln po lt fi sc nu ad rv) sz (fun rz (u9 : Int32 × Int32 × Int32 × Int32) => rz = b2 ((rcC tx ln po).1 = true) ∧ cmP tx ln po u9.1 u9.2.1 u9.2.2.1 u9.2.2.2 (rcC tx ln po)) (fun u9 => []) (fun u9 => wM cI m9 sa tx th sv ln ((rcC tx ln po).2.1) u9.1 u9.2.1 u9.2.2.1 u9.2.2.2 ad rv) 0 0 := by
  refine met_u (own := RX4) (cc := cX4_readsCommand) (maxL := 1) (ty := .boolean) (by decide) rfl rfl (Nat.le_of_ble_eq_true rfl) ?_
  intro p e s m args below meth c Q A hsz S hw hA hE ls hl
  obtain ⟨hx, hb, hml, hown, hts⟩ := id S
  have k150 := hts (.fieldLink RX4 150 "CausalTableModel" "letter" "I") (by decide +kernel)
  have hin4 := (show ∀ w ∈ wsX40, w ∈ wsX4_readsCommand by decide +kernel)
  have k127 := hts (.fieldLink RX4 127 "CausalTableModel" "at" "I") (by decide +kernel)
  have hl : lv_has ls 1 [(0, .ref (m9 0))] := hl
  have hsg := sgN_lt htx ln po
  refine lv_aload_n hx hb dX4_readsCommand_0 rfl (lv_at hl 0 rfl) ?_
  refine lv_aload_n hx hb dX4_readsCommand_1 rfl (lv_at hl 0 rfl) ?_
  refine cq_V (As := []) (rest := [.ref (m9 0)]) S (c_X4_sign l D (cI := cI) (m9 := m9) (sa := sa) (tx := tx) (th := th) (sv := sv) (ln := ln) (po := po) (lt := lt) (fi := fi) (sc := sc) (nu := nu) (ad := ad) (rv := rv) (htx := htx) (hln := by omega) (hpo := by omega)) (cwV 0 hts gX4_readsCommand_X4_sign rfl rfl rfl (by decide +kernel) ⟨Nat.le_of_ble_eq_true rfl, Nat.le_of_ble_eq_true rfl⟩) (hw.q.sub [0, 1, 2] [0] rfl rfl) 0 rfl rfl rfl hl.1 (Nat.le_of_ble_eq_true rfl) ⟨Nat.le_of_ble_eq_true rfl, Nat.le_of_ble_eq_true rfl⟩ rfl dX4_readsCommand_2 (fun r_2 e_2 => ?_)
  have e_2 : r_2 = nI (sgN tx ln po) := e_2
  subst e_2
  refine r_put hx hb hts hown hw 0 6 (ty := .int) tyX4 tyX4_ok nmX4 hin4 rfl rfl (by decide) k150 rfl (by decide +kernel) rfl rfl (Nat.le_of_ble_eq_true rfl) dX4_readsCommand_5 (fun H locs hw => ?_)
  have hw : Wd D A [(cI, .int)] (wM cI m9 sa tx th sv ln po (nI (sgN tx ln po)) fi sc nu ad rv) s s.heap H locs := hw
  refine lv_aload_n hx hb dX4_readsCommand_8 rfl (lv_at hl 0 rfl) ?_
  refine r_get hx hb hts hown hw.q 0 6 hin4 rfl rfl (by decide) k150 rfl dX4_readsCommand_9 ?_
  by_cases hkd : kdB (sgN tx ln po) = true
  ·
    have hrg := kdB_rng hkd
    have hat := offK_ok ((sgN tx ln po) - 97) (by omega)
    rw [show 97 + ((sgN tx ln po) - 97) = sgN tx ln po from by omega, if_pos hkd] at hat
    refine lv_tableIn (off := 104) (tgt := 116) hx hb dX4_readsCommand_12 (by rw [nI_toInt (by omega)]; omega) (by rw [nI_toInt (by omega)]; omega) (sw_at offK 22 (by omega) (by omega) hat) (by decide) ?_
    refine lv_aload_n hx hb dX4_readsCommand_116 rfl (lv_at hl 0 rfl) ?_
    refine lv_dup hx hb dX4_readsCommand_117 rfl ?_
    refine r_get hx hb hts hown hw.q 0 5 hin4 rfl rfl (by decide) k127 rfl dX4_readsCommand_118 ?_
    refine lv_iconst (v := nI 1) hx hb dX4_readsCommand_121 kc_iconst_1 ?_
    refine r_addN hx hb dX4_readsCommand_122 ?_
    refine r_put hx hb hts hown hw 0 5 (ty := .int) tyX4 tyX4_ok nmX4 hin4 rfl rfl (by decide) k127 rfl (by decide +kernel) rfl rfl (Nat.le_of_ble_eq_true rfl) dX4_readsCommand_123 (fun H locs hw => ?_)
    have hw : Wd D A [(cI, .int)] (wM cI m9 sa tx th sv ln (po + 1) (nI (sgN tx ln po)) fi sc nu ad rv) s s.heap H locs := hw
    refine lv_aload_n hx hb dX4_readsCommand_126 rfl (lv_at hl 0 rfl) ?_
    refine cu_Vi (As := []) (rest := []) (wc := wM cI m9 sa tx th sv ln (po + 1) (nI (sgN tx ln po)) fi sc nu ad rv) (wr := []) S (c_X4_readsNumbers l D (sz := H.size) (cI := cI) (m9 := m9) (sa := sa) (tx := tx) (th := th) (sv := sv) (ln := ln) (po := po + 1) (fi := fi) (sc := sc) (nu := nu) (ad := ad) (rv := rv) (kc := sgN tx ln po) (htx := htx) (hln := by omega) (hpo := by omega) (hkc := by omega)) (cwV 0 hts gX4_readsCommand_X4_readsNumbers rfl rfl rfl (by decide +kernel) ⟨Nat.le_of_ble_eq_true rfl, Nat.le_of_ble_eq_true rfl⟩) hw hA [0, 1, 2] [] [0] rfl rfl rfl (by decide) (by decide) (by decide) 0 rfl rfl rfl hl.1 (Nat.le_of_ble_eq_true rfl) ⟨Nat.le_of_ble_eq_true rfl, Nat.le_of_ble_eq_true rfl⟩ rfl dX4_readsCommand_127 (fun r_127 u_127 H locs e_127 hw => ?_)
    obtain ⟨u0_127, u1_127, u2_127⟩ := u_127
    have hw : Wd D A [(cI, .int)] (wM cI m9 sa tx th sv ln ((rnC tx ln (po + 1) (sgN tx ln po)).2.1) (nI (sgN tx ln po)) u0_127 u1_127 u2_127 ad rv) s s.heap H locs := hw
    obtain ⟨e_127, x_127⟩ := e_127
    have e_127 : r_127 = b2 ((rnC tx ln (po + 1) (sgN tx ln po)).1 = true) := e_127
    subst e_127
    have hr9 : (rcC tx ln po) = rnC tx ln (po + 1) (sgN tx ln po) := by rw [rcC, if_pos hkd]
    have hw : Wd D A [(cI, .int)] (wM cI m9 sa tx th sv ln ((rcC tx ln po).2.1) (nI (sgN tx ln po)) u0_127 u1_127 u2_127 ad rv) s s.heap H locs := by rw [hr9]; exact hw
    exact hE (nI (sgN tx ln po), u0_127, u1_127, u2_127) dX4_readsCommand_130 (by first | rfl | exact b2_nz) (Nat.le_of_ble_eq_true rfl) (Nat.le_of_ble_eq_true rfl) (hw.sub [0, 1, 2] [] (by decide) rfl rfl) ⟨by rw [hr9], fun h9 => by
        rw [hr9] at h9 ⊢
        exact ⟨rfl, x_127 h9⟩⟩
  ·
    have JO : W p l e rmX4_readsCommand s m args below meth c H locs 0 0 Q (F0 m 131 ls []) := by
      refine lv_iconst (v := nI 0) hx hb dX4_readsCommand_131 kc_iconst_0 ?_
      have hr9 : (rcC tx ln po) = (false, po, 0) := by rw [rcC, if_neg hkd]
      have hw : Wd D A [(cI, .int)] (wM cI m9 sa tx th sv ln ((rcC tx ln po).2.1) (nI (sgN tx ln po)) fi sc nu ad rv) s s.heap H locs := by rw [hr9]; exact hw
      exact hE (nI (sgN tx ln po), fi, sc, nu) dX4_readsCommand_132 (by first | rfl | exact b2_nz) (Nat.le_of_ble_eq_true rfl) (Nat.le_of_ble_eq_true rfl) (hw.sub [0, 1, 2] [] (by decide) rfl rfl) ⟨by rw [hr9]; exact ret0 Bool.false_ne_true, fun h9 => by
          rw [hr9] at h9
          exact absurd h9 Bool.false_ne_true⟩
    by_cases h97 : 97 ≤ (sgN tx ln po) ∧ (sgN tx ln po) ≤ 118
    ·
      have hat := offK_ok ((sgN tx ln po) - 97) (by omega)
      rw [show 97 + ((sgN tx ln po) - 97) = sgN tx ln po from by omega, if_neg hkd] at hat
      exact lv_tableIn (off := 119) (tgt := 131) hx hb dX4_readsCommand_12 (by rw [nI_toInt (by omega)]; omega) (by rw [nI_toInt (by omega)]; omega) (sw_at offK 22 (by omega) (by omega) hat) (by decide) JO
    ·
      exact lv_tableOut (tgt := 131) hx hb dX4_readsCommand_12 (by rw [nI_toInt (by omega)]; omega) (by decide) JO
abbrev rmX4_isValid : Room := { frames := 5, cells := 0, slots := 0, locals := 107 }
set_option maxHeartbeats 4000000 in
set_option maxRecDepth 100000 in
theorem c_X4_isValid (l : Launch) (D : va_G) (sz : Nat) (cI : ClassId) (m9 : Nat → Nat) (sa : Nat → Int32) (tx : Nat → Nat) (th : Int32) (sv ln po : Nat) (lt fi sc nu : Int32) (ad rv : Nat)  (htx : ∀ i, tx i < 127) (hln : ln ≤ 80) (hpo : po < 1000)  : MUi l yX4_isValid wsX4_isValid rmX4_isValid [.ref (m9 0)] D [(cI, .int)] (wM cI m9 sa tx th sv ln po lt fi sc nu ad rv) sz (fun rz (u9 : Int32 × Int32 × Int32 × Int32) => rz = b2 ((rvC tx ln 81 0).1 = true)) (fun u9 => []) (fun u9 => wM cI m9 sa tx th sv ln ((rvC tx ln 81 0).2) u9.1 u9.2.1 u9.2.2.1 u9.2.2.2 ad rv) 0 0 := by
  refine met_u (own := RX4) (cc := cX4_isValid) (maxL := 1) (ty := .boolean) (by decide) rfl rfl (Nat.le_of_ble_eq_true rfl) ?_
  intro p e s m args below meth c Q A hsz S hw hA hE ls hl
  obtain ⟨hx, hb, hml, hown, hts⟩ := id S
  have k127 := hts (.fieldLink RX4 127 "CausalTableModel" "at" "I") (by decide +kernel)
  have hin4 := (show ∀ w ∈ wsX40, w ∈ wsX4_isValid by decide +kernel)
  have k124 := hts (.fieldLink RX4 124 "CausalTableModel" "length" "I") (by decide +kernel)
  have hl : lv_has ls 1 [(0, .ref (m9 0))] := hl
  refine lv_aload_n hx hb dX4_isValid_0 rfl (lv_at hl 0 rfl) ?_
  refine lv_iconst (v := nI 0) hx hb dX4_isValid_1 kc_iconst_0 ?_
  refine r_put hx hb hts hown hw 0 5 (ty := .int) tyX4 tyX4_ok nmX4 hin4 rfl rfl (by decide) k127 rfl (by decide +kernel) rfl rfl (Nat.le_of_ble_eq_true rfl) dX4_isValid_2 (fun H locs hw => ?_)
  have hw : Wd D A [(cI, .int)] (wM cI m9 sa tx th sv ln 0 lt fi sc nu ad rv) s s.heap H locs := hw
  have L5_1 : ∀ (fu_2 k : Nat) (p9 : Nat) (j1 : Int32) (j2 : Int32) (j3 : Int32) (j4 : Int32), k ≤ 80 → 80 - k < fu_2 → ((rvC tx ln 81 0) = rvC tx ln (81 - k) p9) → (p9 ≤ ln) → (k ≤ p9) → ∀ (H : Heap) (locs : List Loc), Wd D A [(cI, .int)] (wM cI m9 sa tx th sv ln p9 j1 j2 j3 j4 ad rv) s s.heap H locs → ∀ ls : Array Slot, lv_has ls 1 [(0, .ref (m9 0))] → W p l e rmX4_isValid s m args below meth c H locs 0 0 Q (F0 m 5 ls []) := by
    intro fu_2
    induction fu_2 with
    | zero => intro k p9 j1 j2 j3 j4 _ h9; exact absurd h9 (Nat.not_lt_zero _)
    | succ fu_2 ih_5 =>
      intro k p9 j1 j2 j3 j4 hk_5 hf_5 hs hp9 hkp H locs hw ls hl
      have hrx := rcC_le (tx := tx) hln hp9
      refine lv_aload_n hx hb dX4_isValid_5 rfl (lv_at hl 0 rfl) ?_
      refine cu_Vi (As := []) (rest := []) (wc := wM cI m9 sa tx th sv ln p9 j1 j2 j3 j4 ad rv) (wr := []) S (c_X4_readsCommand l D (sz := H.size) (cI := cI) (m9 := m9) (sa := sa) (tx := tx) (th := th) (sv := sv) (ln := ln) (po := p9) (lt := j1) (fi := j2) (sc := j3) (nu := j4) (ad := ad) (rv := rv) (htx := htx) (hln := by omega) (hpo := by omega)) (cwV 0 hts gX4_isValid_X4_readsCommand rfl rfl rfl (by decide +kernel) ⟨Nat.le_of_ble_eq_true rfl, Nat.le_of_ble_eq_true rfl⟩) hw hA [0, 1, 2] [] [0] rfl rfl rfl (by decide) (by decide) (by decide) 0 rfl rfl rfl hl.1 (Nat.le_of_ble_eq_true rfl) ⟨Nat.le_of_ble_eq_true rfl, Nat.le_of_ble_eq_true rfl⟩ rfl dX4_isValid_6 (fun r_6 u_6 H locs e_6 hw => ?_)
      obtain ⟨u0_6, u1_6, u2_6, u3_6⟩ := u_6
      have hw : Wd D A [(cI, .int)] (wM cI m9 sa tx th sv ln ((rcC tx ln p9).2.1) u0_6 u1_6 u2_6 u3_6 ad rv) s s.heap H locs := hw
      obtain ⟨e_6, x_6⟩ := e_6
      have e_6 : r_6 = b2 ((rcC tx ln p9).1 = true) := e_6
      subst e_6
      refine r_if_eqB (tgt := 36) hx hb dX4_isValid_9 (by decide) (fun c_9 => ?_) (fun c_9 => ?_)
      ·
        have hv9 : (rvC tx ln 81 0) = (false, (rcC tx ln p9).2.1) := by rw [hs, show 81 - k = (81 - (k + 1)) + 1 by omega, rvC, if_neg c_9]
        refine lv_iconst (v := nI 0) hx hb dX4_isValid_36 kc_iconst_0 ?_
        have hw : Wd D A [(cI, .int)] (wM cI m9 sa tx th sv ln ((rvC tx ln 81 0).2) u0_6 u1_6 u2_6 u3_6 ad rv) s s.heap H locs := by rw [hv9]; exact hw
        exact hE (u0_6, u1_6, u2_6, u3_6) dX4_isValid_37 (by first | rfl | exact b2_nz) (Nat.le_of_ble_eq_true rfl) (Nat.le_of_ble_eq_true rfl) (hw.sub [0, 1, 2] [] (by decide) rfl rfl) (by rw [hv9]; exact ret0 Bool.false_ne_true)
      ·
        have hr3 := hrx.2.2 c_9
        refine lv_aload_n hx hb dX4_isValid_12 rfl (lv_at hl 0 rfl) ?_
        refine r_get hx hb hts hown hw.q 0 5 hin4 rfl rfl (by decide) k127 rfl dX4_isValid_13 ?_
        refine lv_aload_n hx hb dX4_isValid_16 rfl (lv_at hl 0 rfl) ?_
        refine r_get hx hb hts hown hw.q 0 4 hin4 rfl rfl (by decide) k124 rfl dX4_isValid_17 ?_
        refine r_icmp_neN (tgt := 25) hx hb (by omega) (by omega) dX4_isValid_20 (by decide) (fun c_20 => ?_) (fun c_20 => ?_)
        ·
          refine lv_aload_n hx hb dX4_isValid_25 rfl (lv_at hl 0 rfl) ?_
          refine lv_bipush (v := nI 59) hx hb dX4_isValid_26 kc_bipush_59 ?_
          refine cu_Vi (As := [.int (nI 59)]) (rest := []) (wc := wM cI m9 sa tx th sv ln ((rcC tx ln p9).2.1) u0_6 u1_6 u2_6 u3_6 ad rv) (wr := []) S (c_X4_takes l D (sz := H.size) (cI := cI) (m9 := m9) (sa := sa) (tx := tx) (th := th) (sv := sv) (ln := ln) (po := (rcC tx ln p9).2.1) (lt := u0_6) (fi := u1_6) (sc := u2_6) (nu := u3_6) (ad := ad) (rv := rv) (c9 := 59) (htx := htx) (hln := by omega) (hpo := by omega) (h1c := by omega)) (cwV 1 hts gX4_isValid_X4_takes rfl rfl rfl (by decide +kernel) ⟨Nat.le_of_ble_eq_true rfl, Nat.le_of_ble_eq_true rfl⟩) hw hA [0, 1, 2] [] [0] rfl rfl rfl (by decide) (by decide) (by decide) 0 rfl rfl rfl hl.1 (Nat.le_of_ble_eq_true rfl) ⟨Nat.le_of_ble_eq_true rfl, Nat.le_of_ble_eq_true rfl⟩ rfl dX4_isValid_28 (fun r_28 u_28 H locs e_28 hw => ?_)
          have hw : Wd D A [(cI, .int)] (wM cI m9 sa tx th sv ln (((rcC tx ln p9).2.1) + (if sgN tx ln ((rcC tx ln p9).2.1) = 59 then 1 else 0)) u0_6 u1_6 u2_6 u3_6 ad rv) s s.heap H locs := hw
          have e_28 : r_28 = b2 (sgN tx ln ((rcC tx ln p9).2.1) = 59) := e_28
          subst e_28
          refine r_if_neB (tgt := 5) hx hb dX4_isValid_31 (by decide) (fun c_31 => ?_) (fun c_31 => ?_)
          ·
            have hl : lv_has ls 1 [(0, .ref (m9 0))] := lv_sub hl [0] rfl
            have hw : Wd D A [(cI, .int)] (wM cI m9 sa tx th sv ln (((rcC tx ln p9).2.1) + (if sgN tx ln ((rcC tx ln p9).2.1) = 59 then 1 else 0)) u0_6 u1_6 u2_6 u3_6 ad rv) s s.heap H locs := Eq.mp (congrArg (fun z9 => Wd D A [(cI, .int)] (wM cI m9 sa tx th sv ln z9 u0_6 u1_6 u2_6 u3_6 ad rv) s s.heap H locs) (show ((rcC tx ln p9).2.1) + (if sgN tx ln ((rcC tx ln p9).2.1) = 59 then 1 else 0) = (((rcC tx ln p9).2.1) + (if sgN tx ln ((rcC tx ln p9).2.1) = 59 then 1 else 0)) from by first | rfl | simp_all)) hw
            exact ih_5 (k + 1) (((rcC tx ln p9).2.1) + (if sgN tx ln ((rcC tx ln p9).2.1) = 59 then 1 else 0)) (u0_6) (u1_6) (u2_6) (u3_6) (by omega) (by omega) (by rw [hs, show 81 - k = (81 - (k + 1)) + 1 by omega, rvC, if_pos c_9, if_neg c_20, if_pos c_31, if_pos c_31]) (by rw [if_pos c_31]; exact sg_pos c_31 (by omega)) (by rw [if_pos c_31]; omega) _ _ hw ls hl
          ·
            have hv9 : (rvC tx ln 81 0) = (false, (rcC tx ln p9).2.1 + (if sgN tx ln (rcC tx ln p9).2.1 = 59 then 1 else 0)) := by rw [hs, show 81 - k = (81 - (k + 1)) + 1 by omega, rvC, if_pos c_9, if_neg c_20, if_neg c_31, if_neg c_31] <;> rfl
            refine lv_iconst (v := nI 0) hx hb dX4_isValid_34 kc_iconst_0 ?_
            have hw : Wd D A [(cI, .int)] (wM cI m9 sa tx th sv ln ((rvC tx ln 81 0).2) u0_6 u1_6 u2_6 u3_6 ad rv) s s.heap H locs := by rw [hv9]; exact hw
            exact hE (u0_6, u1_6, u2_6, u3_6) dX4_isValid_35 (by first | rfl | exact b2_nz) (Nat.le_of_ble_eq_true rfl) (Nat.le_of_ble_eq_true rfl) (hw.sub [0, 1, 2] [] (by decide) rfl rfl) (by rw [hv9]; exact ret0 Bool.false_ne_true)
        ·
          have hv9 : (rvC tx ln 81 0) = (true, (rcC tx ln p9).2.1) := by rw [hs, show 81 - k = (81 - (k + 1)) + 1 by omega, rvC, if_pos c_9, if_pos c_20]
          refine lv_iconst (v := nI 1) hx hb dX4_isValid_23 kc_iconst_1 ?_
          have hw : Wd D A [(cI, .int)] (wM cI m9 sa tx th sv ln ((rvC tx ln 81 0).2) u0_6 u1_6 u2_6 u3_6 ad rv) s s.heap H locs := by rw [hv9]; exact hw
          exact hE (u0_6, u1_6, u2_6, u3_6) dX4_isValid_24 (by first | rfl | exact b2_nz) (Nat.le_of_ble_eq_true rfl) (Nat.le_of_ble_eq_true rfl) (hw.sub [0, 1, 2] [] (by decide) rfl rfl) (by rw [hv9]; exact ret1 rfl)
  have hl : lv_has ls 1 [(0, .ref (m9 0))] := lv_sub hl [0] rfl
  have hw : Wd D A [(cI, .int)] (wM cI m9 sa tx th sv ln 0 lt fi sc nu ad rv) s s.heap H locs := hw
  exact L5_1 (80 + 1) (0) (0) (lt) (fi) (sc) (nu) (by omega) (by omega) (rfl) (Nat.zero_le _) (Nat.le_refl _) _ _ hw ls hl
abbrev rmX4_errorPosition : Room := { frames := 6, cells := 0, slots := 0, locals := 127 }
set_option maxHeartbeats 4000000 in
set_option maxRecDepth 100000 in
theorem c_X4_errorPosition (l : Launch) (D : va_G) (sz : Nat) (cI : ClassId) (m9 : Nat → Nat) (sa : Nat → Int32) (tx : Nat → Nat) (th : Int32) (sv ln po : Nat) (lt fi sc nu : Int32) (ad rv : Nat)  (htx : ∀ i, tx i < 127) (hln : ln ≤ 80) (hpo : po < 1000)  : MUi l yX4_errorPosition wsX4_errorPosition rmX4_errorPosition [.ref (m9 0)] D [(cI, .int)] (wM cI m9 sa tx th sv ln po lt fi sc nu ad rv) sz (fun rz (u9 : Int32 × Int32 × Int32 × Int32) => rz = if (rvC tx ln 81 0).1 = true then -1 else nI (rvC tx ln 81 0).2) (fun u9 => []) (fun u9 => wM cI m9 sa tx (nI 0) sv ln ((rvC tx ln 81 0).2) u9.1 u9.2.1 u9.2.2.1 u9.2.2.2 ad rv) 0 0 := by
  refine met_u (own := RX4) (cc := cX4_errorPosition) (maxL := 1) (ty := .int) (by decide) rfl rfl (Nat.le_of_ble_eq_true rfl) ?_
  intro p e s m args below meth c Q A hsz S hw hA hE ls hl
  obtain ⟨hx, hb, hml, hown, hts⟩ := id S
  have k16 := hts (.fieldLink RX4 16 "CausalTableModel" "thrown" "I") (by decide +kernel)
  have hin4 := (show ∀ w ∈ wsX40, w ∈ wsX4_errorPosition by decide +kernel)
  have k127 := hts (.fieldLink RX4 127 "CausalTableModel" "at" "I") (by decide +kernel)
  have hl : lv_has ls 1 [(0, .ref (m9 0))] := hl
  refine lv_aload_n hx hb dX4_errorPosition_0 rfl (lv_at hl 0 rfl) ?_
  refine lv_iconst (v := nI 0) hx hb dX4_errorPosition_1 kc_iconst_0 ?_
  refine r_put hx hb hts hown hw 0 0 (ty := .int) tyX4 tyX4_ok nmX4 hin4 rfl rfl (by decide) k16 rfl (by decide +kernel) rfl rfl (Nat.le_of_ble_eq_true rfl) dX4_errorPosition_2 (fun H locs hw => ?_)
  have hw : Wd D A [(cI, .int)] (wM cI m9 sa tx (nI 0) sv ln po lt fi sc nu ad rv) s s.heap H locs := hw
  refine lv_aload_n hx hb dX4_errorPosition_5 rfl (lv_at hl 0 rfl) ?_
  refine cu_Vi (As := []) (rest := []) (wc := wM cI m9 sa tx (nI 0) sv ln po lt fi sc nu ad rv) (wr := []) S (c_X4_isValid l D (sz := H.size) (cI := cI) (m9 := m9) (sa := sa) (tx := tx) (th := nI 0) (sv := sv) (ln := ln) (po := po) (lt := lt) (fi := fi) (sc := sc) (nu := nu) (ad := ad) (rv := rv) (htx := htx) (hln := by omega) (hpo := by omega)) (cwV 0 hts gX4_errorPosition_X4_isValid rfl rfl rfl (by decide +kernel) ⟨Nat.le_of_ble_eq_true rfl, Nat.le_of_ble_eq_true rfl⟩) hw hA [0, 1, 2] [] [0] rfl rfl rfl (by decide) (by decide) (by decide) 0 rfl rfl rfl hl.1 (Nat.le_of_ble_eq_true rfl) ⟨Nat.le_of_ble_eq_true rfl, Nat.le_of_ble_eq_true rfl⟩ rfl dX4_errorPosition_6 (fun r_6 u_6 H locs e_6 hw => ?_)
  obtain ⟨u0_6, u1_6, u2_6, u3_6⟩ := u_6
  have hw : Wd D A [(cI, .int)] (wM cI m9 sa tx (nI 0) sv ln ((rvC tx ln 81 0).2) u0_6 u1_6 u2_6 u3_6 ad rv) s s.heap H locs := hw
  have e_6 : r_6 = b2 ((rvC tx ln 81 0).1 = true) := e_6
  subst e_6
  refine r_if_eqB (tgt := 16) hx hb dX4_errorPosition_9 (by decide) (fun c_9 => ?_) (fun c_9 => ?_)
  ·
    refine lv_aload_n hx hb dX4_errorPosition_16 rfl (lv_at hl 0 rfl) ?_
    refine r_get hx hb hts hown hw.q 0 5 hin4 rfl rfl (by decide) k127 rfl dX4_errorPosition_17 ?_
    exact hE (u0_6, u1_6, u2_6, u3_6) dX4_errorPosition_20 rfl (Nat.le_of_ble_eq_true rfl) (Nat.le_of_ble_eq_true rfl) (hw.sub [0, 1, 2] [] (by decide) rfl rfl) (by rw [if_neg c_9])
  ·
    refine lv_iconst (v := (-1)) hx hb dX4_errorPosition_12 kc_iconst_m1 ?_
    refine lv_goto (tgt := 20) hx hb dX4_errorPosition_13 (by decide) ?_
    exact hE (u0_6, u1_6, u2_6, u3_6) dX4_errorPosition_20 rfl (Nat.le_of_ble_eq_true rfl) (Nat.le_of_ble_eq_true rfl) (hw.sub [0, 1, 2] [] (by decide) rfl rfl) (by rw [if_pos c_9])
abbrev rmX4_does : Room := { frames := 5, cells := 0, slots := 0, locals := 124 }
set_option maxHeartbeats 4000000 in
set_option maxRecDepth 100000 in
theorem c_X4_does (l : Launch) (D : va_G) (sz : Nat) (cI : ClassId) (m9 : Nat → Nat) (sa : Nat → Int32) (tx : Nat → Nat) (th : Int32) (sv ln po : Nat) (nu : Int32) (ad rv : Nat) (kc r w e9 : Nat) (htx : ∀ i, tx i < 127) (hln : ln ≤ 80) (hpo : po < 1000) (hkd : kdB kc = true) (hr : r < 4) (hw9 : w < 6) (hm8 : kc = 109 → w < 4) (hn8 : (kc = 105 ∨ kc = 101) → nu = nI e9 ∧ e9 < 16) : MUi l yX4_does wsX4_does rmX4_does [.ref (m9 0)] D [(cI, .int)] (wM cI m9 sa tx th sv ln po (nI kc) (nI r) (nI w) nu ad rv) sz (fun rz (u9 : Int32 × Int32 × Nat × Nat) => rz = u9.1) (fun u9 => []) (fun u9 => wM cI m9 (dsM sa kc r w nu e9) tx th sv ln po (nI kc) (nI r) (nI w) u9.2.1 u9.2.2.1 u9.2.2.2) 0 0 := by
  refine met_u (own := RX4) (cc := cX4_does) (maxL := 1) (ty := .int) (by decide) rfl rfl (Nat.le_of_ble_eq_true rfl) ?_
  intro p e s m args below meth c Q A hsz S hw hA hE ls hl
  obtain ⟨hx, hb, hml, hown, hts⟩ := id S
  have k150 := hts (.fieldLink RX4 150 "CausalTableModel" "letter" "I") (by decide +kernel)
  have hin4 := (show ∀ w ∈ wsX40, w ∈ wsX4_does by decide +kernel)
  have k147 := hts (.fieldLink RX4 147 "CausalTableModel" "first" "I") (by decide +kernel)
  have k153 := hts (.fieldLink RX4 153 "CausalTableModel" "second" "I") (by decide +kernel)
  have k134 := hts (.fieldLink RX4 134 "CausalTableModel" "number" "I") (by decide +kernel)
  have hl : lv_has ls 1 [(0, .ref (m9 0))] := hl
  refine lv_aload_n hx hb dX4_does_0 rfl (lv_at hl 0 rfl) ?_
  refine r_get hx hb hts hown hw.q 0 6 hin4 rfl rfl (by decide) k150 rfl dX4_does_1 ?_
  rcases kd_cases hkd with hk8 | hk8 | hk8 | hk8 | hk8 | hk8 | hk8 | hk8
  ·
    refine r_top hx (show nI kc = nI 97 from congrArg nI hk8) ?_
    refine lv_tableIn (off := 158) (tgt := 162) hx hb dX4_does_4 (by decide) (by decide) (by decide) (by decide) ?_
    refine lv_aload_n hx hb dX4_does_162 rfl (lv_at hl 0 rfl) ?_
    refine lv_aload_n hx hb dX4_does_163 rfl (lv_at hl 0 rfl) ?_
    refine r_get hx hb hts hown hw.q 0 7 hin4 rfl rfl (by decide) k147 rfl dX4_does_164 ?_
    refine lv_aload_n hx hb dX4_does_167 rfl (lv_at hl 0 rfl) ?_
    refine r_get hx hb hts hown hw.q 0 8 hin4 rfl rfl (by decide) k153 rfl dX4_does_168 ?_
    refine lv_aload_n hx hb dX4_does_171 rfl (lv_at hl 0 rfl) ?_
    refine r_get hx hb hts hown hw.q 0 9 hin4 rfl rfl (by decide) k134 rfl dX4_does_172 ?_
    refine cu_Vi (As := [.int (nI r), .int (nI w), .int nu]) (rest := []) (wc := wM cI m9 sa tx th sv ln po (nI kc) (nI r) (nI w) nu ad rv) (wr := []) S (c_X4_adds l D (sz := s.heap.size) (cI := cI) (m9 := m9) (sa := sa) (tx := tx) (th := th) (sv := sv) (ln := ln) (po := po) (lt := nI kc) (fi := nI r) (sc := nI w) (nu := nu) (ad := ad) (rv := rv) (r := r) (w := w) (v := nu) (hr := by omega) (hw5 := by omega)) (cwV 3 hts gX4_does_X4_adds rfl rfl rfl (by decide +kernel) ⟨Nat.le_of_ble_eq_true rfl, Nat.le_of_ble_eq_true rfl⟩) hw hA [0, 1, 2] [] [0] rfl rfl rfl (by decide) (by decide) (by decide) 0 rfl rfl rfl hl.1 (Nat.le_of_ble_eq_true rfl) ⟨Nat.le_of_ble_eq_true rfl, Nat.le_of_ble_eq_true rfl⟩ rfl dX4_does_175 (fun r_175 u_175 H locs e_175 hw => ?_)
    have hw : Wd D A [(cI, .int)] (wM cI m9 (addM sa r w nu) tx th sv ln po (nI kc) (nI r) (nI w) nu ad rv) s s.heap H locs := hw
    have e_175 : r_175 = smM (addM sa r w nu) r w 3 4 := e_175
    subst e_175
    have hd9 : dsM sa kc r w nu e9 = addM sa r w nu := by rw [dsM, if_pos hk8]
    have hw : Wd D A [(cI, .int)] (wM cI m9 (dsM sa kc r w nu e9) tx th sv ln po (nI kc) (nI r) (nI w) nu ad rv) s s.heap H locs := by rw [hd9]; exact hw
    exact hE (smM (addM sa r w nu) r w 3 4, nu, ad, rv) dX4_does_178 rfl (Nat.le_of_ble_eq_true rfl) (Nat.le_of_ble_eq_true rfl) (hw.sub [0, 1, 2] [] (by decide) rfl rfl) rfl
  ·
    refine r_top hx (show nI kc = nI 100 from congrArg nI hk8) ?_
    refine lv_tableIn (off := 209) (tgt := 213) hx hb dX4_does_4 (by decide) (by decide) (by decide) (by decide) ?_
    refine lv_aload_n hx hb dX4_does_213 rfl (lv_at hl 0 rfl) ?_
    refine lv_aload_n hx hb dX4_does_214 rfl (lv_at hl 0 rfl) ?_
    refine r_get hx hb hts hown hw.q 0 7 hin4 rfl rfl (by decide) k147 rfl dX4_does_215 ?_
    refine lv_aload_n hx hb dX4_does_218 rfl (lv_at hl 0 rfl) ?_
    refine r_get hx hb hts hown hw.q 0 8 hin4 rfl rfl (by decide) k153 rfl dX4_does_219 ?_
    refine cu_Vi (As := [.int (nI r), .int (nI w)]) (rest := []) (wc := wM cI m9 sa tx th sv ln po (nI kc) (nI r) (nI w) nu ad rv) (wr := []) S (c_X4_deletes l D (sz := s.heap.size) (cI := cI) (m9 := m9) (sa := sa) (tx := tx) (th := th) (sv := sv) (ln := ln) (po := po) (lt := nI kc) (fi := nI r) (sc := nI w) (nu := nu) (ad := ad) (rv := rv) (r := r) (w := w) (hr := by omega) (hw5 := by omega)) (cwV 2 hts gX4_does_X4_deletes rfl rfl rfl (by decide +kernel) ⟨Nat.le_of_ble_eq_true rfl, Nat.le_of_ble_eq_true rfl⟩) hw hA [0, 1, 2] [] [0] rfl rfl rfl (by decide) (by decide) (by decide) 0 rfl rfl rfl hl.1 (Nat.le_of_ble_eq_true rfl) ⟨Nat.le_of_ble_eq_true rfl, Nat.le_of_ble_eq_true rfl⟩ rfl dX4_does_222 (fun r_222 u_222 H locs e_222 hw => ?_)
    have hw : Wd D A [(cI, .int)] (wM cI m9 (delM sa r w) tx th sv ln po (nI kc) (nI r) (nI w) nu ad rv) s s.heap H locs := hw
    have e_222 : r_222 = nI (dcA (bgM sa r) r w 4 + dcB (dlA (bgM sa r) r w 4) r w 16) := e_222
    subst e_222
    have hd9 : dsM sa kc r w nu e9 = delM sa r w := by rw [dsM, if_neg (show ¬ kc = 97 by omega), if_pos hk8]
    have hw : Wd D A [(cI, .int)] (wM cI m9 (dsM sa kc r w nu e9) tx th sv ln po (nI kc) (nI r) (nI w) nu ad rv) s s.heap H locs := by rw [hd9]; exact hw
    exact hE (nI (dcA (bgM sa r) r w 4 + dcB (dlA (bgM sa r) r w 4) r w 16), nu, ad, rv) dX4_does_225 rfl (Nat.le_of_ble_eq_true rfl) (Nat.le_of_ble_eq_true rfl) (hw.sub [0, 1, 2] [] (by decide) rfl rfl) rfl
  ·
    refine r_top hx (show nI kc = nI 101 from congrArg nI hk8) ?_
    refine lv_tableIn (off := 192) (tgt := 196) hx hb dX4_does_4 (by decide) (by decide) (by decide) (by decide) ?_
    have hw : Wd D A [(cI, .int)] (wM cI m9 sa tx th sv ln po (nI kc) (nI r) (nI w) (nI e9) ad rv) s s.heap s.heap [] := by rw [← (hn8 (by omega)).1]; exact hw
    have he9 := (hn8 (by omega)).2
    refine lv_aload_n hx hb dX4_does_196 rfl (lv_at hl 0 rfl) ?_
    refine lv_aload_n hx hb dX4_does_197 rfl (lv_at hl 0 rfl) ?_
    refine r_get hx hb hts hown hw.q 0 7 hin4 rfl rfl (by decide) k147 rfl dX4_does_198 ?_
    refine lv_aload_n hx hb dX4_does_201 rfl (lv_at hl 0 rfl) ?_
    refine r_get hx hb hts hown hw.q 0 8 hin4 rfl rfl (by decide) k153 rfl dX4_does_202 ?_
    refine lv_aload_n hx hb dX4_does_205 rfl (lv_at hl 0 rfl) ?_
    refine r_get hx hb hts hown hw.q 0 9 hin4 rfl rfl (by decide) k134 rfl dX4_does_206 ?_
    refine cu_Vi (As := [.int (nI r), .int (nI w), .int (nI e9)]) (rest := []) (wc := wM cI m9 sa tx th sv ln po (nI kc) (nI r) (nI w) (nI e9) ad rv) (wr := []) S (c_X4_excludes l D (sz := s.heap.size) (cI := cI) (m9 := m9) (sa := sa) (tx := tx) (th := th) (sv := sv) (ln := ln) (po := po) (lt := nI kc) (fi := nI r) (sc := nI w) (nu := nI e9) (ad := ad) (rv := rv) (r := r) (w := w) (c9 := e9) (hr := by omega) (hw5 := by omega) (hc := by omega)) (cwV 3 hts gX4_does_X4_excludes rfl rfl rfl (by decide +kernel) ⟨Nat.le_of_ble_eq_true rfl, Nat.le_of_ble_eq_true rfl⟩) hw hA [0, 1, 2] [] [0] rfl rfl rfl (by decide) (by decide) (by decide) 0 rfl rfl rfl hl.1 (Nat.le_of_ble_eq_true rfl) ⟨Nat.le_of_ble_eq_true rfl, Nat.le_of_ble_eq_true rfl⟩ rfl dX4_does_209 (fun r_209 u_209 H locs e_209 hw => ?_)
    have hw : Wd D A [(cI, .int)] (wM cI m9 (excM sa r w e9) tx th sv ln po (nI kc) (nI r) (nI w) (nI e9) ad rv) s s.heap H locs := hw
    have e_209 : r_209 = nI (cntG (fun j9 => bgM sa r (888 + 4 * (16 * (6 * r + w) + e9) + j9)) 4) := e_209
    subst e_209
    have hd9 : dsM sa kc r w nu e9 = excM sa r w e9 := by rw [dsM, if_neg (show ¬ kc = 97 by omega), if_neg (show ¬ kc = 100 by omega), if_pos hk8]
    have hw : Wd D A [(cI, .int)] (wM cI m9 (dsM sa kc r w nu e9) tx th sv ln po (nI kc) (nI r) (nI w) (nI e9) ad rv) s s.heap H locs := by rw [hd9]; exact hw
    exact hE (nI (cntG (fun j9 => bgM sa r (888 + 4 * (16 * (6 * r + w) + e9) + j9)) 4), (nI e9), ad, rv) dX4_does_212 rfl (Nat.le_of_ble_eq_true rfl) (Nat.le_of_ble_eq_true rfl) (hw.sub [0, 1, 2] [] (by decide) rfl rfl) rfl
  ·
    refine r_top hx (show nI kc = nI 103 from congrArg nI hk8) ?_
    refine lv_tableIn (off := 140) (tgt := 144) hx hb dX4_does_4 (by decide) (by decide) (by decide) (by decide) ?_
    refine lv_aload_n hx hb dX4_does_144 rfl (lv_at hl 0 rfl) ?_
    refine lv_aload_n hx hb dX4_does_145 rfl (lv_at hl 0 rfl) ?_
    refine r_get hx hb hts hown hw.q 0 7 hin4 rfl rfl (by decide) k147 rfl dX4_does_146 ?_
    refine lv_aload_n hx hb dX4_does_149 rfl (lv_at hl 0 rfl) ?_
    refine r_get hx hb hts hown hw.q 0 8 hin4 rfl rfl (by decide) k153 rfl dX4_does_150 ?_
    refine lv_iconst (v := nI 2) hx hb dX4_does_153 kc_iconst_2 ?_
    refine lv_aload_n hx hb dX4_does_154 rfl (lv_at hl 0 rfl) ?_
    refine r_get hx hb hts hown hw.q 0 9 hin4 rfl rfl (by decide) k134 rfl dX4_does_155 ?_
    refine cu_Vi (As := [.int (nI r), .int (nI w), .int (nI 2), .int nu]) (rest := []) (wc := wM cI m9 sa tx th sv ln po (nI kc) (nI r) (nI w) nu ad rv) (wr := []) S (c_X4_puts l D (sz := s.heap.size) (cI := cI) (m9 := m9) (sa := sa) (tx := tx) (th := th) (sv := sv) (ln := ln) (po := po) (lt := nI kc) (fi := nI r) (sc := nI w) (nu := nu) (ad := ad) (rv := rv) (r := r) (w := w) (c9 := 2) (v := nu) (hr := by omega) (hw5 := by omega) (hc := by omega)) (cwV 4 hts gX4_does_X4_puts rfl rfl rfl (by decide +kernel) ⟨Nat.le_of_ble_eq_true rfl, Nat.le_of_ble_eq_true rfl⟩) hw hA [0, 1, 2] [] [0] rfl rfl rfl (by decide) (by decide) (by decide) 0 rfl rfl rfl hl.1 (Nat.le_of_ble_eq_true rfl) ⟨Nat.le_of_ble_eq_true rfl, Nat.le_of_ble_eq_true rfl⟩ rfl dX4_does_158 (fun r_158 u_158 H locs e_158 hw => ?_)
    have hw : Wd D A [(cI, .int)] (wM cI m9 (putM sa r w 2 nu) tx th sv ln po (nI kc) (nI r) (nI w) nu ad rv) s s.heap H locs := hw
    have e_158 : r_158 = nI (cntG (fun j9 => bgM sa r (24 + (4 * (4 * (6 * r + w) + 2) + j9))) 4) := e_158
    subst e_158
    have hd9 : dsM sa kc r w nu e9 = putM sa r w 2 nu := by rw [dsM, if_neg (show ¬ kc = 97 by omega), if_neg (show ¬ kc = 100 by omega), if_neg (show ¬ kc = 101 by omega), if_pos hk8]
    have hw : Wd D A [(cI, .int)] (wM cI m9 (dsM sa kc r w nu e9) tx th sv ln po (nI kc) (nI r) (nI w) nu ad rv) s s.heap H locs := by rw [hd9]; exact hw
    exact hE (nI (cntG (fun j9 => bgM sa r (24 + (4 * (4 * (6 * r + w) + 2) + j9))) 4), nu, ad, rv) dX4_does_161 rfl (Nat.le_of_ble_eq_true rfl) (Nat.le_of_ble_eq_true rfl) (hw.sub [0, 1, 2] [] (by decide) rfl rfl) rfl
  ·
    refine r_top hx (show nI kc = nI 105 from congrArg nI hk8) ?_
    refine lv_tableIn (off := 175) (tgt := 179) hx hb dX4_does_4 (by decide) (by decide) (by decide) (by decide) ?_
    have hw : Wd D A [(cI, .int)] (wM cI m9 sa tx th sv ln po (nI kc) (nI r) (nI w) (nI e9) ad rv) s s.heap s.heap [] := by rw [← (hn8 (by omega)).1]; exact hw
    have he9 := (hn8 (by omega)).2
    refine lv_aload_n hx hb dX4_does_179 rfl (lv_at hl 0 rfl) ?_
    refine lv_aload_n hx hb dX4_does_180 rfl (lv_at hl 0 rfl) ?_
    refine r_get hx hb hts hown hw.q 0 7 hin4 rfl rfl (by decide) k147 rfl dX4_does_181 ?_
    refine lv_aload_n hx hb dX4_does_184 rfl (lv_at hl 0 rfl) ?_
    refine r_get hx hb hts hown hw.q 0 8 hin4 rfl rfl (by decide) k153 rfl dX4_does_185 ?_
    refine lv_aload_n hx hb dX4_does_188 rfl (lv_at hl 0 rfl) ?_
    refine r_get hx hb hts hown hw.q 0 9 hin4 rfl rfl (by decide) k134 rfl dX4_does_189 ?_
    refine cu_Vi (As := [.int (nI r), .int (nI w), .int (nI e9)]) (rest := []) (wc := wM cI m9 sa tx th sv ln po (nI kc) (nI r) (nI w) (nI e9) ad rv) (wr := []) S (c_X4_includes l D (sz := s.heap.size) (cI := cI) (m9 := m9) (sa := sa) (tx := tx) (th := th) (sv := sv) (ln := ln) (po := po) (lt := nI kc) (fi := nI r) (sc := nI w) (nu := nI e9) (ad := ad) (rv := rv) (r := r) (w := w) (c9 := e9) (hr := by omega) (hw5 := by omega) (hc := by omega)) (cwV 3 hts gX4_does_X4_includes rfl rfl rfl (by decide +kernel) ⟨Nat.le_of_ble_eq_true rfl, Nat.le_of_ble_eq_true rfl⟩) hw hA [0, 1, 2] [] [0] rfl rfl rfl (by decide) (by decide) (by decide) 0 rfl rfl rfl hl.1 (Nat.le_of_ble_eq_true rfl) ⟨Nat.le_of_ble_eq_true rfl, Nat.le_of_ble_eq_true rfl⟩ rfl dX4_does_192 (fun r_192 u_192 H locs e_192 hw => ?_)
    have hw : Wd D A [(cI, .int)] (wM cI m9 (incM sa r w e9) tx th sv ln po (nI kc) (nI r) (nI w) (nI e9) ad rv) s s.heap H locs := hw
    have e_192 : r_192 = nI (cntG (fun j9 => bgM sa r (888 + 4 * (16 * (6 * r + w) + e9) + j9)) 4) := e_192
    subst e_192
    have hd9 : dsM sa kc r w nu e9 = incM sa r w e9 := by rw [dsM, if_neg (show ¬ kc = 97 by omega), if_neg (show ¬ kc = 100 by omega), if_neg (show ¬ kc = 101 by omega), if_neg (show ¬ kc = 103 by omega), if_pos hk8]
    have hw : Wd D A [(cI, .int)] (wM cI m9 (dsM sa kc r w nu e9) tx th sv ln po (nI kc) (nI r) (nI w) (nI e9) ad rv) s s.heap H locs := by rw [hd9]; exact hw
    exact hE (nI (cntG (fun j9 => bgM sa r (888 + 4 * (16 * (6 * r + w) + e9) + j9)) 4), (nI e9), ad, rv) dX4_does_195 rfl (Nat.le_of_ble_eq_true rfl) (Nat.le_of_ble_eq_true rfl) (hw.sub [0, 1, 2] [] (by decide) rfl rfl) rfl
  ·
    refine r_top hx (show nI kc = nI 108 from congrArg nI hk8) ?_
    refine lv_tableIn (off := 104) (tgt := 108) hx hb dX4_does_4 (by decide) (by decide) (by decide) (by decide) ?_
    refine lv_aload_n hx hb dX4_does_108 rfl (lv_at hl 0 rfl) ?_
    refine lv_aload_n hx hb dX4_does_109 rfl (lv_at hl 0 rfl) ?_
    refine r_get hx hb hts hown hw.q 0 7 hin4 rfl rfl (by decide) k147 rfl dX4_does_110 ?_
    refine lv_aload_n hx hb dX4_does_113 rfl (lv_at hl 0 rfl) ?_
    refine r_get hx hb hts hown hw.q 0 8 hin4 rfl rfl (by decide) k153 rfl dX4_does_114 ?_
    refine lv_iconst (v := nI 0) hx hb dX4_does_117 kc_iconst_0 ?_
    refine lv_aload_n hx hb dX4_does_118 rfl (lv_at hl 0 rfl) ?_
    refine r_get hx hb hts hown hw.q 0 9 hin4 rfl rfl (by decide) k134 rfl dX4_does_119 ?_
    refine cu_Vi (As := [.int (nI r), .int (nI w), .int (nI 0), .int nu]) (rest := []) (wc := wM cI m9 sa tx th sv ln po (nI kc) (nI r) (nI w) nu ad rv) (wr := []) S (c_X4_puts l D (sz := s.heap.size) (cI := cI) (m9 := m9) (sa := sa) (tx := tx) (th := th) (sv := sv) (ln := ln) (po := po) (lt := nI kc) (fi := nI r) (sc := nI w) (nu := nu) (ad := ad) (rv := rv) (r := r) (w := w) (c9 := 0) (v := nu) (hr := by omega) (hw5 := by omega) (hc := by omega)) (cwV 4 hts gX4_does_X4_puts rfl rfl rfl (by decide +kernel) ⟨Nat.le_of_ble_eq_true rfl, Nat.le_of_ble_eq_true rfl⟩) hw hA [0, 1, 2] [] [0] rfl rfl rfl (by decide) (by decide) (by decide) 0 rfl rfl rfl hl.1 (Nat.le_of_ble_eq_true rfl) ⟨Nat.le_of_ble_eq_true rfl, Nat.le_of_ble_eq_true rfl⟩ rfl dX4_does_122 (fun r_122 u_122 H locs e_122 hw => ?_)
    have hw : Wd D A [(cI, .int)] (wM cI m9 (putM sa r w 0 nu) tx th sv ln po (nI kc) (nI r) (nI w) nu ad rv) s s.heap H locs := hw
    have e_122 : r_122 = nI (cntG (fun j9 => bgM sa r (24 + (4 * (4 * (6 * r + w) + 0) + j9))) 4) := e_122
    subst e_122
    have hd9 : dsM sa kc r w nu e9 = putM sa r w 0 nu := by rw [dsM, if_neg (show ¬ kc = 97 by omega), if_neg (show ¬ kc = 100 by omega), if_neg (show ¬ kc = 101 by omega), if_neg (show ¬ kc = 103 by omega), if_neg (show ¬ kc = 105 by omega), if_pos hk8]
    have hw : Wd D A [(cI, .int)] (wM cI m9 (dsM sa kc r w nu e9) tx th sv ln po (nI kc) (nI r) (nI w) nu ad rv) s s.heap H locs := by rw [hd9]; exact hw
    exact hE (nI (cntG (fun j9 => bgM sa r (24 + (4 * (4 * (6 * r + w) + 0) + j9))) 4), nu, ad, rv) dX4_does_125 rfl (Nat.le_of_ble_eq_true rfl) (Nat.le_of_ble_eq_true rfl) (hw.sub [0, 1, 2] [] (by decide) rfl rfl) rfl
  ·
    refine r_top hx (show nI kc = nI 109 from congrArg nI hk8) ?_
    refine lv_tableIn (off := 222) (tgt := 226) hx hb dX4_does_4 (by decide) (by decide) (by decide) (by decide) ?_
    refine lv_aload_n hx hb dX4_does_226 rfl (lv_at hl 0 rfl) ?_
    refine lv_aload_n hx hb dX4_does_227 rfl (lv_at hl 0 rfl) ?_
    refine r_get hx hb hts hown hw.q 0 7 hin4 rfl rfl (by decide) k147 rfl dX4_does_228 ?_
    refine lv_aload_n hx hb dX4_does_231 rfl (lv_at hl 0 rfl) ?_
    refine r_get hx hb hts hown hw.q 0 8 hin4 rfl rfl (by decide) k153 rfl dX4_does_232 ?_
    refine cu_Vi (As := [.int (nI r), .int (nI w)]) (rest := []) (wc := wM cI m9 sa tx th sv ln po (nI kc) (nI r) (nI w) nu ad rv) (wr := []) S (c_X4_merges l D (sz := s.heap.size) (cI := cI) (m9 := m9) (sa := sa) (tx := tx) (th := th) (sv := sv) (ln := ln) (po := po) (lt := nI kc) (fi := nI r) (sc := nI w) (nu := nu) (ad := ad) (rv := rv) (f := r) (t := w) (hf4 := by omega) (ht4 := by omega)) (cwV 2 hts gX4_does_X4_merges rfl rfl rfl (by decide +kernel) ⟨Nat.le_of_ble_eq_true rfl, Nat.le_of_ble_eq_true rfl⟩) hw hA [0, 1, 2] [] [0] rfl rfl rfl (by decide) (by decide) (by decide) 0 rfl rfl rfl hl.1 (Nat.le_of_ble_eq_true rfl) ⟨Nat.le_of_ble_eq_true rfl, Nat.le_of_ble_eq_true rfl⟩ rfl dX4_does_235 (fun r_235 u_235 H locs e_235 hw => ?_)
    have hw : Wd D A [(cI, .int)] (wM cI m9 (mgM sa r w) tx th sv ln po (nI kc) (nI r) (nI w) nu ((lkM true sa r w).2.1) ((lkM true sa r w).2.2)) s s.heap H locs := hw
    have e_235 : r_235 = nI ((lkM true sa r w).2.1 + (lkM true sa r w).2.2) := e_235
    subst e_235
    have hd9 : dsM sa kc r w nu e9 = mgM sa r w := by rw [dsM, if_neg (show ¬ kc = 97 by omega), if_neg (show ¬ kc = 100 by omega), if_neg (show ¬ kc = 101 by omega), if_neg (show ¬ kc = 103 by omega), if_neg (show ¬ kc = 105 by omega), if_neg (show ¬ kc = 108 by omega), if_neg (show ¬ kc = 118 by omega)]
    have hw : Wd D A [(cI, .int)] (wM cI m9 (dsM sa kc r w nu e9) tx th sv ln po (nI kc) (nI r) (nI w) nu ((lkM true sa r w).2.1) ((lkM true sa r w).2.2)) s s.heap H locs := by rw [hd9]; exact hw
    exact hE (nI ((lkM true sa r w).2.1 + (lkM true sa r w).2.2), nu, (lkM true sa r w).2.1, (lkM true sa r w).2.2) dX4_does_238 rfl (Nat.le_of_ble_eq_true rfl) (Nat.le_of_ble_eq_true rfl) (hw.sub [0, 1, 2] [] (by decide) rfl rfl) rfl
  ·
    refine r_top hx (show nI kc = nI 118 from congrArg nI hk8) ?_
    refine lv_tableIn (off := 122) (tgt := 126) hx hb dX4_does_4 (by decide) (by decide) (by decide) (by decide) ?_
    refine lv_aload_n hx hb dX4_does_126 rfl (lv_at hl 0 rfl) ?_
    refine lv_aload_n hx hb dX4_does_127 rfl (lv_at hl 0 rfl) ?_
    refine r_get hx hb hts hown hw.q 0 7 hin4 rfl rfl (by decide) k147 rfl dX4_does_128 ?_
    refine lv_aload_n hx hb dX4_does_131 rfl (lv_at hl 0 rfl) ?_
    refine r_get hx hb hts hown hw.q 0 8 hin4 rfl rfl (by decide) k153 rfl dX4_does_132 ?_
    refine lv_iconst (v := nI 1) hx hb dX4_does_135 kc_iconst_1 ?_
    refine lv_aload_n hx hb dX4_does_136 rfl (lv_at hl 0 rfl) ?_
    refine r_get hx hb hts hown hw.q 0 9 hin4 rfl rfl (by decide) k134 rfl dX4_does_137 ?_
    refine cu_Vi (As := [.int (nI r), .int (nI w), .int (nI 1), .int nu]) (rest := []) (wc := wM cI m9 sa tx th sv ln po (nI kc) (nI r) (nI w) nu ad rv) (wr := []) S (c_X4_puts l D (sz := s.heap.size) (cI := cI) (m9 := m9) (sa := sa) (tx := tx) (th := th) (sv := sv) (ln := ln) (po := po) (lt := nI kc) (fi := nI r) (sc := nI w) (nu := nu) (ad := ad) (rv := rv) (r := r) (w := w) (c9 := 1) (v := nu) (hr := by omega) (hw5 := by omega) (hc := by omega)) (cwV 4 hts gX4_does_X4_puts rfl rfl rfl (by decide +kernel) ⟨Nat.le_of_ble_eq_true rfl, Nat.le_of_ble_eq_true rfl⟩) hw hA [0, 1, 2] [] [0] rfl rfl rfl (by decide) (by decide) (by decide) 0 rfl rfl rfl hl.1 (Nat.le_of_ble_eq_true rfl) ⟨Nat.le_of_ble_eq_true rfl, Nat.le_of_ble_eq_true rfl⟩ rfl dX4_does_140 (fun r_140 u_140 H locs e_140 hw => ?_)
    have hw : Wd D A [(cI, .int)] (wM cI m9 (putM sa r w 1 nu) tx th sv ln po (nI kc) (nI r) (nI w) nu ad rv) s s.heap H locs := hw
    have e_140 : r_140 = nI (cntG (fun j9 => bgM sa r (24 + (4 * (4 * (6 * r + w) + 1) + j9))) 4) := e_140
    subst e_140
    have hd9 : dsM sa kc r w nu e9 = putM sa r w 1 nu := by rw [dsM, if_neg (show ¬ kc = 97 by omega), if_neg (show ¬ kc = 100 by omega), if_neg (show ¬ kc = 101 by omega), if_neg (show ¬ kc = 103 by omega), if_neg (show ¬ kc = 105 by omega), if_neg (show ¬ kc = 108 by omega), if_pos hk8]
    have hw : Wd D A [(cI, .int)] (wM cI m9 (dsM sa kc r w nu e9) tx th sv ln po (nI kc) (nI r) (nI w) nu ad rv) s s.heap H locs := by rw [hd9]; exact hw
    exact hE (nI (cntG (fun j9 => bgM sa r (24 + (4 * (4 * (6 * r + w) + 1) + j9))) 4), nu, ad, rv) dX4_does_143 rfl (Nat.le_of_ble_eq_true rfl) (Nat.le_of_ble_eq_true rfl) (hw.sub [0, 1, 2] [] (by decide) rfl rfl) rfl
abbrev rmX4_runText_v : Room := { frames := 6, cells := 0, slots := 0, locals := 144 }
set_option maxHeartbeats 4000000 in
set_option maxRecDepth 100000 in
theorem c_X4_runText_v (l : Launch) (D : va_G) (sz : Nat) (cI : ClassId) (m9 : Nat → Nat) (sa : Nat → Int32) (tx : Nat → Nat) (th : Int32) (sv ln po : Nat) (lt fi sc nu : Int32) (ad rv : Nat)  (htx : ∀ i, tx i < 127) (hln : ln ≤ 80) (hpo : po < 1000) (hvd : (rvC tx ln 81 0).1 = true) (hsv : sv ≤ 6) : MUi l yX4_runText wsX4_runText rmX4_runText_v [.ref (m9 0)] D [(cI, .int)] (wM cI m9 sa tx th sv ln po lt fi sc nu ad rv) sz (fun rz (u9 : Int32 × Int32 × Int32 × Int32 × Nat × Nat) => rz = nI ((rtF tx ln 81 0 (kpM sa sv) 0).2.2)) (fun u9 => []) (fun u9 => wM cI m9 ((rtF tx ln 81 0 (kpM sa sv) 0).1) tx (nI 0) (sv + (if sv < 6 then 1 else 0)) ln ((rtF tx ln 81 0 (kpM sa sv) 0).2.1) u9.1 u9.2.1 u9.2.2.1 u9.2.2.2.1 u9.2.2.2.2.1 u9.2.2.2.2.2) 0 0 := by
  refine met_u (own := RX4) (cc := cX4_runText) (maxL := 2) (ty := .int) (by decide) rfl rfl (Nat.le_of_ble_eq_true rfl) ?_
  intro p e s m args below meth c Q A hsz S hw hA hE ls hl
  obtain ⟨hx, hb, hml, hown, hts⟩ := id S
  have k127 := hts (.fieldLink RX4 127 "CausalTableModel" "at" "I") (by decide +kernel)
  have hin4 := (show ∀ w ∈ wsX40, w ∈ wsX4_runText by decide +kernel)
  have hl : lv_has ls 2 [(0, .ref (m9 0))] := hl
  refine lv_aload_n hx hb dX4_runText_0 rfl (lv_at hl 0 rfl) ?_
  refine lv_aload_n hx hb dX4_runText_1 rfl (lv_at hl 0 rfl) ?_
  refine cu_Vi (As := []) (rest := [.ref (m9 0)]) (wc := wM cI m9 sa tx th sv ln po lt fi sc nu ad rv) (wr := []) S (c_X4_isValid l D (sz := s.heap.size) (cI := cI) (m9 := m9) (sa := sa) (tx := tx) (th := th) (sv := sv) (ln := ln) (po := po) (lt := lt) (fi := fi) (sc := sc) (nu := nu) (ad := ad) (rv := rv) (htx := htx) (hln := by omega) (hpo := by omega)) (cwV 0 hts gX4_runText_X4_isValid rfl rfl rfl (by decide +kernel) ⟨Nat.le_of_ble_eq_true rfl, Nat.le_of_ble_eq_true rfl⟩) hw hA [0, 1, 2] [] [0] rfl rfl rfl (by decide) (by decide) (by decide) 0 rfl rfl rfl hl.1 (Nat.le_of_ble_eq_true rfl) ⟨Nat.le_of_ble_eq_true rfl, Nat.le_of_ble_eq_true rfl⟩ rfl dX4_runText_2 (fun r_2 u_2 H locs e_2 hw => ?_)
  obtain ⟨u0_2, u1_2, u2_2, u3_2⟩ := u_2
  have hw : Wd D A [(cI, .int)] (wM cI m9 sa tx th sv ln ((rvC tx ln 81 0).2) u0_2 u1_2 u2_2 u3_2 ad rv) s s.heap H locs := hw
  have e_2 : r_2 = b2 ((rvC tx ln 81 0).1 = true) := e_2
  subst e_2
  refine r_if_eqB (tgt := 12) hx hb dX4_runText_5 (by decide) (fun h => absurd (hvd) h) (fun _ => ?_)
  refine lv_iconst (v := nI 0) hx hb dX4_runText_8 kc_iconst_0 ?_
  refine lv_goto (tgt := 13) hx hb dX4_runText_9 (by decide) ?_
  refine cu_Vi (As := [.int (nI 0)]) (rest := []) (wc := wM cI m9 sa tx th sv ln ((rvC tx ln 81 0).2) u0_2 u1_2 u2_2 u3_2 ad rv) (wr := []) S (c_X4_holds l D (sz := H.size) (cI := cI) (m9 := m9) (sa := sa) (tx := tx) (th := th) (sv := sv) (ln := ln) (po := (rvC tx ln 81 0).2) (lt := u0_2) (fi := u1_2) (sc := u2_2) (nu := u3_2) (ad := ad) (rv := rv) (x := nI 0)) (cwV 1 hts gX4_runText_X4_holds rfl rfl rfl (by decide +kernel) ⟨Nat.le_of_ble_eq_true rfl, Nat.le_of_ble_eq_true rfl⟩) hw hA [0, 1, 2] [] [0] rfl rfl rfl (by decide) (by decide) (by decide) 0 rfl rfl rfl hl.1 (Nat.le_of_ble_eq_true rfl) ⟨Nat.le_of_ble_eq_true rfl, Nat.le_of_ble_eq_true rfl⟩ rfl dX4_runText_13 (fun r_13 u_13 H locs e_13 hw => ?_)
  have hw : Wd D A [(cI, .int)] (wM cI m9 sa tx (nI 0) sv ln ((rvC tx ln 81 0).2) u0_2 u1_2 u2_2 u3_2 ad rv) s s.heap H locs := hw
  have e_13 : r_13 = b2 ((nI 0) = 0) := e_13
  subst e_13
  refine r_if_neB (tgt := 21) hx hb dX4_runText_16 (by decide) (fun _ => ?_) (fun h => absurd (rfl) h)
  refine lv_aload_n hx hb dX4_runText_21 rfl (lv_at hl 0 rfl) ?_
  refine cu_Vv (As := []) (rest := []) (wc := wM cI m9 sa tx (nI 0) sv ln ((rvC tx ln 81 0).2) u0_2 u1_2 u2_2 u3_2 ad rv) (wr := []) S (c_X4_keeps l D (sz := H.size) (cI := cI) (m9 := m9) (sa := sa) (tx := tx) (th := (nI 0)) (sv := sv) (ln := ln) (po := ((rvC tx ln 81 0).2)) (lt := u0_2) (fi := u1_2) (sc := u2_2) (nu := u3_2) (ad := ad) (rv := rv) (hsv := by omega)) (cwV 0 hts gX4_runText_X4_keeps rfl rfl rfl (by decide +kernel) ⟨Nat.le_of_ble_eq_true rfl, Nat.le_of_ble_eq_true rfl⟩) hw hA [0, 1, 2] [] [0] rfl rfl rfl (by decide) (by decide) (by decide) 0 rfl rfl rfl hl.1 (Nat.le_of_ble_eq_true rfl) ⟨Nat.le_of_ble_eq_true rfl, Nat.le_of_ble_eq_true rfl⟩ rfl dX4_runText_22 (fun u_22 H locs e_22 hw => ?_)
  have hw : Wd D A [(cI, .int)] (wM cI m9 (kpM sa sv) tx (nI 0) (sv + (if sv < 6 then 1 else 0)) ln ((rvC tx ln 81 0).2) u0_2 u1_2 u2_2 u3_2 ad rv) s s.heap H locs := hw
  refine lv_aload_n hx hb dX4_runText_25 rfl (lv_at hl 0 rfl) ?_
  refine lv_iconst (v := nI 0) hx hb dX4_runText_26 kc_iconst_0 ?_
  refine r_put hx hb hts hown hw 0 5 (ty := .int) tyX4 tyX4_ok nmX4 hin4 rfl rfl (by decide) k127 rfl (by decide +kernel) rfl rfl (Nat.le_of_ble_eq_true rfl) dX4_runText_27 (fun H locs hw => ?_)
  have hw : Wd D A [(cI, .int)] (wM cI m9 (kpM sa sv) tx (nI 0) (sv + (if sv < 6 then 1 else 0)) ln 0 u0_2 u1_2 u2_2 u3_2 ad rv) s s.heap H locs := hw
  refine lv_iconst (v := nI 0) hx hb dX4_runText_30 kc_iconst_0 ?_
  refine lv_istore_n (lv' := [(1, .int (nI 0)), (0, .ref (m9 0))]) hx hb dX4_runText_31 rfl hl (by decide) rfl (fun ls hl => ?_)
  have L32_1 : ∀ (fu_2 k : Nat) (n9 : Nat) (p9 : Nat) (s9 : Nat → Int32) (j1 : Int32) (j2 : Int32) (j3 : Int32) (j4 : Int32) (a9 : Nat) (b9 : Nat), k ≤ 80 → 80 - k < fu_2 → ((rtF tx ln 81 0 (kpM sa sv) 0) = rtF tx ln (81 - k) p9 s9 n9) → (p9 ≤ ln) → (k ≤ p9) → ∀ (H : Heap) (locs : List Loc), Wd D A [(cI, .int)] (wM cI m9 s9 tx (nI 0) (sv + (if sv < 6 then 1 else 0)) ln p9 j1 j2 j3 j4 a9 b9) s s.heap H locs → ∀ ls : Array Slot, lv_has ls 2 [(1, .int (nI n9)), (0, .ref (m9 0))] → W p l e rmX4_runText_v s m args below meth c H locs 0 0 Q (F0 m 32 ls []) := by
    intro fu_2
    induction fu_2 with
    | zero => intro k n9 p9 s9 j1 j2 j3 j4 a9 b9 _ h9; exact absurd h9 (Nat.not_lt_zero _)
    | succ fu_2 ih_32 =>
      intro k n9 p9 s9 j1 j2 j3 j4 a9 b9 hk_32 hf_32 hs hp9 hkp H locs hw ls hl
      have hrx := rcC_le (tx := tx) hln hp9
      refine lv_aload_n hx hb dX4_runText_32 rfl (lv_at hl 1 rfl) ?_
      refine cu_Vi (As := []) (rest := []) (wc := wM cI m9 s9 tx (nI 0) (sv + (if sv < 6 then 1 else 0)) ln p9 j1 j2 j3 j4 a9 b9) (wr := []) S (c_X4_readsCommand l D (sz := H.size) (cI := cI) (m9 := m9) (sa := s9) (tx := tx) (th := nI 0) (sv := sv + (if sv < 6 then 1 else 0)) (ln := ln) (po := p9) (lt := j1) (fi := j2) (sc := j3) (nu := j4) (ad := a9) (rv := b9) (htx := htx) (hln := by omega) (hpo := by omega)) (cwV 0 hts gX4_runText_X4_readsCommand rfl rfl rfl (by decide +kernel) ⟨Nat.le_of_ble_eq_true rfl, Nat.le_of_ble_eq_true rfl⟩) hw hA [0, 1, 2] [] [0] rfl rfl rfl (by decide) (by decide) (by decide) 0 rfl rfl rfl hl.1 (Nat.le_of_ble_eq_true rfl) ⟨Nat.le_of_ble_eq_true rfl, Nat.le_of_ble_eq_true rfl⟩ rfl dX4_runText_33 (fun r_33 u_33 H locs e_33 hw => ?_)
      obtain ⟨u0_33, u1_33, u2_33, u3_33⟩ := u_33
      have hw : Wd D A [(cI, .int)] (wM cI m9 s9 tx (nI 0) (sv + (if sv < 6 then 1 else 0)) ln ((rcC tx ln p9).2.1) u0_33 u1_33 u2_33 u3_33 a9 b9) s s.heap H locs := hw
      obtain ⟨e_33, x_33⟩ := e_33
      have e_33 : r_33 = b2 ((rcC tx ln p9).1 = true) := e_33
      subst e_33
      refine r_if_eqB (tgt := 57) hx hb dX4_runText_36 (by decide) (fun c_36 => ?_) (fun c_36 => ?_)
      ·
        have hv9 : (rtF tx ln 81 0 (kpM sa sv) 0) = (s9, (rcC tx ln p9).2.1, n9) := by rw [hs, show 81 - k = (81 - (k + 1)) + 1 by omega, rtF, if_neg c_36]
        refine lv_iload_n hx hb dX4_runText_57 rfl (lv_at hl 0 rfl) ?_
        have hw : Wd D A [(cI, .int)] (wM cI m9 ((rtF tx ln 81 0 (kpM sa sv) 0).1) tx (nI 0) (sv + (if sv < 6 then 1 else 0)) ln ((rtF tx ln 81 0 (kpM sa sv) 0).2.1) u0_33 u1_33 u2_33 u3_33 a9 b9) s s.heap H locs := by rw [hv9]; exact hw
        exact hE (u0_33, u1_33, u2_33, u3_33, a9, b9) dX4_runText_58 rfl (Nat.le_of_ble_eq_true rfl) (Nat.le_of_ble_eq_true rfl) (hw.sub [0, 1, 2] [] (by decide) rfl rfl) (by rw [hv9])
      ·
        have hr3 := hrx.2.2 c_36
        obtain ⟨y1, y2, y3, y4⟩ := x_33 c_36
        have hok := rcC_ok c_36
        have hd8 := dgB_iff.mp hok.2.1
        have hw8 : sgN tx ln (p9 + 1 + 1) - 48 < 6 := by
            by_cases z : sgN tx ln p9 = 109
            · have := dgB_iff.mp (hok.2.2.1 z).1; omega
            · have := dgB_iff.mp (hok.2.2.2.1 z); omega
        refine lv_aload_n hx hb dX4_runText_39 rfl (lv_at hl 1 rfl) ?_
        have hw : Wd D A [(cI, .int)] (wM cI m9 s9 tx (nI 0) (sv + (if sv < 6 then 1 else 0)) ln ((rcC tx ln p9).2.1) (nI (sgN tx ln p9)) u1_33 u2_33 u3_33 a9 b9) s s.heap H locs := Eq.mp (congrArg (fun z9 => Wd D A [(cI, .int)] (wM cI m9 s9 tx (nI 0) (sv + (if sv < 6 then 1 else 0)) ln ((rcC tx ln p9).2.1) z9 u1_33 u2_33 u3_33 a9 b9) s s.heap H locs) (show u0_33 = nI (sgN tx ln p9) from y1)) hw
        have hw : Wd D A [(cI, .int)] (wM cI m9 s9 tx (nI 0) (sv + (if sv < 6 then 1 else 0)) ln ((rcC tx ln p9).2.1) (nI (sgN tx ln p9)) (nI (sgN tx ln (p9 + 1) - 48)) u2_33 u3_33 a9 b9) s s.heap H locs := Eq.mp (congrArg (fun z9 => Wd D A [(cI, .int)] (wM cI m9 s9 tx (nI 0) (sv + (if sv < 6 then 1 else 0)) ln ((rcC tx ln p9).2.1) (nI (sgN tx ln p9)) z9 u2_33 u3_33 a9 b9) s s.heap H locs) (show u1_33 = nI (sgN tx ln (p9 + 1) - 48) from y2)) hw
        have hw : Wd D A [(cI, .int)] (wM cI m9 s9 tx (nI 0) (sv + (if sv < 6 then 1 else 0)) ln ((rcC tx ln p9).2.1) (nI (sgN tx ln p9)) (nI (sgN tx ln (p9 + 1) - 48)) (nI (sgN tx ln (p9 + 1 + 1) - 48)) u3_33 a9 b9) s s.heap H locs := Eq.mp (congrArg (fun z9 => Wd D A [(cI, .int)] (wM cI m9 s9 tx (nI 0) (sv + (if sv < 6 then 1 else 0)) ln ((rcC tx ln p9).2.1) (nI (sgN tx ln p9)) (nI (sgN tx ln (p9 + 1) - 48)) z9 u3_33 a9 b9) s s.heap H locs) (show u2_33 = nI (sgN tx ln (p9 + 1 + 1) - 48) from y3)) hw
        refine cu_Vi (As := []) (rest := []) (wc := wM cI m9 s9 tx (nI 0) (sv + (if sv < 6 then 1 else 0)) ln ((rcC tx ln p9).2.1) (nI (sgN tx ln p9)) (nI (sgN tx ln (p9 + 1) - 48)) (nI (sgN tx ln (p9 + 1 + 1) - 48)) u3_33 a9 b9) (wr := []) S (c_X4_does l D (sz := H.size) (cI := cI) (m9 := m9) (sa := s9) (tx := tx) (th := (nI 0)) (sv := (sv + (if sv < 6 then 1 else 0))) (ln := ln) (po := (rcC tx ln p9).2.1) (nu := u3_33) (ad := a9) (rv := b9) (kc := sgN tx ln p9) (r := sgN tx ln (p9 + 1) - 48) (w := sgN tx ln (p9 + 1 + 1) - 48) (e9 := elN tx ln p9) (htx := htx) (hln := by omega) (hpo := by omega) (hkd := hok.1) (hr := by omega) (hw9 := by omega) (hm8 := fun z => by have := dgB_iff.mp (hok.2.2.1 z).1; omega) (hn8 := fun z => ⟨(y4 (by omega) (by omega)).trans (rcC_el c_36 z).1, (rcC_el c_36 z).2⟩)) (cwV 0 hts gX4_runText_X4_does rfl rfl rfl (by decide +kernel) ⟨Nat.le_of_ble_eq_true rfl, Nat.le_of_ble_eq_true rfl⟩) hw hA [0, 1, 2] [] [0] rfl rfl rfl (by decide) (by decide) (by decide) 0 rfl rfl rfl hl.1 (Nat.le_of_ble_eq_true rfl) ⟨Nat.le_of_ble_eq_true rfl, Nat.le_of_ble_eq_true rfl⟩ rfl dX4_runText_40 (fun r_40 u_40 H locs e_40 hw => ?_)
        obtain ⟨u0_40, u1_40, u2_40, u3_40⟩ := u_40
        have hw : Wd D A [(cI, .int)] (wM cI m9 (dsM s9 (sgN tx ln p9) (sgN tx ln (p9 + 1) - 48) (sgN tx ln (p9 + 1 + 1) - 48) u3_33 (elN tx ln p9)) tx (nI 0) (sv + (if sv < 6 then 1 else 0)) ln ((rcC tx ln p9).2.1) (nI (sgN tx ln p9)) (nI (sgN tx ln (p9 + 1) - 48)) (nI (sgN tx ln (p9 + 1 + 1) - 48)) u1_40 u2_40 u3_40) s s.heap H locs := hw
        have e_40 : r_40 = u0_40 := e_40
        subst e_40
        refine lv_pop hx hb dX4_runText_43 rfl ?_
        have hw : Wd D A [(cI, .int)] (wM cI m9 (dsM s9 (sgN tx ln p9) (sgN tx ln (p9 + 1) - 48) (sgN tx ln (p9 + 1 + 1) - 48) (rcC tx ln p9).2.2 (elN tx ln p9)) tx (nI 0) (sv + (if sv < 6 then 1 else 0)) ln ((rcC tx ln p9).2.1) (nI (sgN tx ln p9)) (nI (sgN tx ln (p9 + 1) - 48)) (nI (sgN tx ln (p9 + 1 + 1) - 48)) u1_40 u2_40 u3_40) s s.heap H locs := Eq.mp (congrArg (fun z9 => Wd D A [(cI, .int)] (wM cI m9 z9 tx (nI 0) (sv + (if sv < 6 then 1 else 0)) ln ((rcC tx ln p9).2.1) (nI (sgN tx ln p9)) (nI (sgN tx ln (p9 + 1) - 48)) (nI (sgN tx ln (p9 + 1 + 1) - 48)) u1_40 u2_40 u3_40) s s.heap H locs) (show dsM s9 (sgN tx ln p9) (sgN tx ln (p9 + 1) - 48) (sgN tx ln (p9 + 1 + 1) - 48) u3_33 (elN tx ln p9) = dsM s9 (sgN tx ln p9) (sgN tx ln (p9 + 1) - 48) (sgN tx ln (p9 + 1 + 1) - 48) (rcC tx ln p9).2.2 (elN tx ln p9) from dsM_v y4)) hw
        refine lv_iinc (v := nI (n9 + 1)) (lv' := [(1, .int (nI (n9 + 1))), (0, .ref (m9 0))]) hx hb dX4_runText_44 hl (k := 0) rfl (nI_add n9 1) (by decide) rfl (fun ls hl => ?_)
        refine lv_aload_n hx hb dX4_runText_47 rfl (lv_at hl 1 rfl) ?_
        refine lv_bipush (v := nI 59) hx hb dX4_runText_48 kc_bipush_59 ?_
        refine cu_Vi (As := [.int (nI 59)]) (rest := []) (wc := wM cI m9 (dsM s9 (sgN tx ln p9) (sgN tx ln (p9 + 1) - 48) (sgN tx ln (p9 + 1 + 1) - 48) (rcC tx ln p9).2.2 (elN tx ln p9)) tx (nI 0) (sv + (if sv < 6 then 1 else 0)) ln ((rcC tx ln p9).2.1) (nI (sgN tx ln p9)) (nI (sgN tx ln (p9 + 1) - 48)) (nI (sgN tx ln (p9 + 1 + 1) - 48)) u1_40 u2_40 u3_40) (wr := []) S (c_X4_takes l D (sz := H.size) (cI := cI) (m9 := m9) (sa := dsM s9 (sgN tx ln p9) (sgN tx ln (p9 + 1) - 48) (sgN tx ln (p9 + 1 + 1) - 48) (rcC tx ln p9).2.2 (elN tx ln p9)) (tx := tx) (th := (nI 0)) (sv := (sv + (if sv < 6 then 1 else 0))) (ln := ln) (po := ((rcC tx ln p9).2.1)) (lt := nI (sgN tx ln p9)) (fi := nI (sgN tx ln (p9 + 1) - 48)) (sc := nI (sgN tx ln (p9 + 1 + 1) - 48)) (nu := u1_40) (ad := u2_40) (rv := u3_40) (c9 := 59) (htx := htx) (hln := by omega) (hpo := by omega) (h1c := by omega)) (cwV 1 hts gX4_runText_X4_takes rfl rfl rfl (by decide +kernel) ⟨Nat.le_of_ble_eq_true rfl, Nat.le_of_ble_eq_true rfl⟩) hw hA [0, 1, 2] [] [0] rfl rfl rfl (by decide) (by decide) (by decide) 0 rfl rfl rfl hl.1 (Nat.le_of_ble_eq_true rfl) ⟨Nat.le_of_ble_eq_true rfl, Nat.le_of_ble_eq_true rfl⟩ rfl dX4_runText_50 (fun r_50 u_50 H locs e_50 hw => ?_)
        have hw : Wd D A [(cI, .int)] (wM cI m9 (dsM s9 (sgN tx ln p9) (sgN tx ln (p9 + 1) - 48) (sgN tx ln (p9 + 1 + 1) - 48) (rcC tx ln p9).2.2 (elN tx ln p9)) tx (nI 0) (sv + (if sv < 6 then 1 else 0)) ln (((rcC tx ln p9).2.1) + (if sgN tx ln ((rcC tx ln p9).2.1) = 59 then 1 else 0)) (nI (sgN tx ln p9)) (nI (sgN tx ln (p9 + 1) - 48)) (nI (sgN tx ln (p9 + 1 + 1) - 48)) u1_40 u2_40 u3_40) s s.heap H locs := hw
        have e_50 : r_50 = b2 (sgN tx ln ((rcC tx ln p9).2.1) = 59) := e_50
        subst e_50
        refine lv_pop hx hb dX4_runText_53 rfl ?_
        refine lv_goto (tgt := 32) hx hb dX4_runText_54 (by decide) ?_
        have hl : lv_has ls 2 [(1, .int (nI (n9 + 1))), (0, .ref (m9 0))] := lv_sub hl [0, 1] rfl
        have hw : Wd D A [(cI, .int)] (wM cI m9 (dsM s9 (sgN tx ln p9) (sgN tx ln (p9 + 1) - 48) (sgN tx ln (p9 + 1 + 1) - 48) (rcC tx ln p9).2.2 (elN tx ln p9)) tx (nI 0) (sv + (if sv < 6 then 1 else 0)) ln (((rcC tx ln p9).2.1) + (if sgN tx ln ((rcC tx ln p9).2.1) = 59 then 1 else 0)) (nI (sgN tx ln p9)) (nI (sgN tx ln (p9 + 1) - 48)) (nI (sgN tx ln (p9 + 1 + 1) - 48)) u1_40 u2_40 u3_40) s s.heap H locs := Eq.mp (congrArg (fun z9 => Wd D A [(cI, .int)] (wM cI m9 (dsM s9 (sgN tx ln p9) (sgN tx ln (p9 + 1) - 48) (sgN tx ln (p9 + 1 + 1) - 48) (rcC tx ln p9).2.2 (elN tx ln p9)) tx z9 (sv + (if sv < 6 then 1 else 0)) ln (((rcC tx ln p9).2.1) + (if sgN tx ln ((rcC tx ln p9).2.1) = 59 then 1 else 0)) (nI (sgN tx ln p9)) (nI (sgN tx ln (p9 + 1) - 48)) (nI (sgN tx ln (p9 + 1 + 1) - 48)) u1_40 u2_40 u3_40) s s.heap H locs) (show (nI 0) = nI 0 from by first | rfl | simp_all)) hw
        have hw : Wd D A [(cI, .int)] (wM cI m9 (dsM s9 (sgN tx ln p9) (sgN tx ln (p9 + 1) - 48) (sgN tx ln (p9 + 1 + 1) - 48) (rcC tx ln p9).2.2 (elN tx ln p9)) tx (nI 0) (sv + (if sv < 6 then 1 else 0)) ln (((rcC tx ln p9).2.1) + (if sgN tx ln ((rcC tx ln p9).2.1) = 59 then 1 else 0)) (nI (sgN tx ln p9)) (nI (sgN tx ln (p9 + 1) - 48)) (nI (sgN tx ln (p9 + 1 + 1) - 48)) u1_40 u2_40 u3_40) s s.heap H locs := Eq.mp (congrArg (fun z9 => Wd D A [(cI, .int)] (wM cI m9 (dsM s9 (sgN tx ln p9) (sgN tx ln (p9 + 1) - 48) (sgN tx ln (p9 + 1 + 1) - 48) (rcC tx ln p9).2.2 (elN tx ln p9)) tx (nI 0) z9 ln (((rcC tx ln p9).2.1) + (if sgN tx ln ((rcC tx ln p9).2.1) = 59 then 1 else 0)) (nI (sgN tx ln p9)) (nI (sgN tx ln (p9 + 1) - 48)) (nI (sgN tx ln (p9 + 1 + 1) - 48)) u1_40 u2_40 u3_40) s s.heap H locs) (show (sv + (if sv < 6 then 1 else 0)) = sv + (if sv < 6 then 1 else 0) from by first | rfl | simp_all)) hw
        have hw : Wd D A [(cI, .int)] (wM cI m9 (dsM s9 (sgN tx ln p9) (sgN tx ln (p9 + 1) - 48) (sgN tx ln (p9 + 1 + 1) - 48) (rcC tx ln p9).2.2 (elN tx ln p9)) tx (nI 0) (sv + (if sv < 6 then 1 else 0)) ln (((rcC tx ln p9).2.1) + (if sgN tx ln ((rcC tx ln p9).2.1) = 59 then 1 else 0)) (nI (sgN tx ln p9)) (nI (sgN tx ln (p9 + 1) - 48)) (nI (sgN tx ln (p9 + 1 + 1) - 48)) u1_40 u2_40 u3_40) s s.heap H locs := Eq.mp (congrArg (fun z9 => Wd D A [(cI, .int)] (wM cI m9 (dsM s9 (sgN tx ln p9) (sgN tx ln (p9 + 1) - 48) (sgN tx ln (p9 + 1 + 1) - 48) (rcC tx ln p9).2.2 (elN tx ln p9)) tx (nI 0) (sv + (if sv < 6 then 1 else 0)) ln z9 (nI (sgN tx ln p9)) (nI (sgN tx ln (p9 + 1) - 48)) (nI (sgN tx ln (p9 + 1 + 1) - 48)) u1_40 u2_40 u3_40) s s.heap H locs) (show ((rcC tx ln p9).2.1) + (if sgN tx ln ((rcC tx ln p9).2.1) = 59 then 1 else 0) = (((rcC tx ln p9).2.1) + (if sgN tx ln ((rcC tx ln p9).2.1) = 59 then 1 else 0)) from by first | rfl | simp_all)) hw
        exact ih_32 (k + 1) (n9 + 1) (((rcC tx ln p9).2.1) + (if sgN tx ln ((rcC tx ln p9).2.1) = 59 then 1 else 0)) ((dsM s9 (sgN tx ln p9) (sgN tx ln (p9 + 1) - 48) (sgN tx ln (p9 + 1 + 1) - 48) (rcC tx ln p9).2.2 (elN tx ln p9))) ((nI (sgN tx ln p9))) ((nI (sgN tx ln (p9 + 1) - 48))) ((nI (sgN tx ln (p9 + 1 + 1) - 48))) (u1_40) (u2_40) (u3_40) (by omega) (by omega) (by rw [hs, show 81 - k = (81 - (k + 1)) + 1 by omega, rtF, if_pos c_36]) (by split <;> first | exact sg_pos (by assumption) (by omega) | exact hrx.2.1) (by omega) _ _ hw ls hl
  have hl : lv_has ls 2 [(1, .int (nI 0)), (0, .ref (m9 0))] := lv_sub hl [0, 1] rfl
  have hw : Wd D A [(cI, .int)] (wM cI m9 (kpM sa sv) tx (nI 0) (sv + (if sv < 6 then 1 else 0)) ln 0 u0_2 u1_2 u2_2 u3_2 ad rv) s s.heap H locs := Eq.mp (congrArg (fun z9 => Wd D A [(cI, .int)] (wM cI m9 z9 tx (nI 0) (sv + (if sv < 6 then 1 else 0)) ln 0 u0_2 u1_2 u2_2 u3_2 ad rv) s s.heap H locs) (show kpM sa sv = (kpM sa sv) from by first | rfl | simp_all)) hw
  have hw : Wd D A [(cI, .int)] (wM cI m9 (kpM sa sv) tx (nI 0) (sv + (if sv < 6 then 1 else 0)) ln 0 u0_2 u1_2 u2_2 u3_2 ad rv) s s.heap H locs := Eq.mp (congrArg (fun z9 => Wd D A [(cI, .int)] (wM cI m9 (kpM sa sv) tx z9 (sv + (if sv < 6 then 1 else 0)) ln 0 u0_2 u1_2 u2_2 u3_2 ad rv) s s.heap H locs) (show (nI 0) = nI 0 from by first | rfl | simp_all)) hw
  exact L32_1 (80 + 1) (0) (0) (0) (kpM sa sv) (u0_2) (u1_2) (u2_2) (u3_2) (ad) (rv) (by omega) (by omega) (rfl) (Nat.zero_le _) (Nat.le_refl _) _ _ hw ls hl
abbrev rmX4_runText_e1 : Room := { frames := 6, cells := 0, slots := 0, locals := 127 }
set_option maxHeartbeats 4000000 in
set_option maxRecDepth 100000 in
theorem c_X4_runText_e1 (l : Launch) (D : va_G) (sz : Nat) (cI : ClassId) (m9 : Nat → Nat) (sa : Nat → Int32) (tx : Nat → Nat) (th : Int32) (sv ln po : Nat) (lt fi sc nu : Int32) (ad rv : Nat)  (htx : ∀ i, tx i < 127) (hln : ln ≤ 80) (hpo : po < 1000) (hvd : ¬ (rvC tx ln 81 0).1 = true) : MUi l yX4_runText wsX4_runText rmX4_runText_e1 [.ref (m9 0)] D [(cI, .int)] (wM cI m9 sa tx th sv ln po lt fi sc nu ad rv) sz (fun rz (u9 : Int32 × Int32 × Int32 × Int32) => rz = nI 0) (fun u9 => []) (fun u9 => wM cI m9 sa tx (nI 1) sv ln ((rvC tx ln 81 0).2) u9.1 u9.2.1 u9.2.2.1 u9.2.2.2 ad rv) 0 0 := by
  refine met_u (own := RX4) (cc := cX4_runText) (maxL := 2) (ty := .int) (by decide) rfl rfl (Nat.le_of_ble_eq_true rfl) ?_
  intro p e s m args below meth c Q A hsz S hw hA hE ls hl
  obtain ⟨hx, hb, hml, hown, hts⟩ := id S
  have hl : lv_has ls 2 [(0, .ref (m9 0))] := hl
  refine lv_aload_n hx hb dX4_runText_0 rfl (lv_at hl 0 rfl) ?_
  refine lv_aload_n hx hb dX4_runText_1 rfl (lv_at hl 0 rfl) ?_
  refine cu_Vi (As := []) (rest := [.ref (m9 0)]) (wc := wM cI m9 sa tx th sv ln po lt fi sc nu ad rv) (wr := []) S (c_X4_isValid l D (sz := s.heap.size) (cI := cI) (m9 := m9) (sa := sa) (tx := tx) (th := th) (sv := sv) (ln := ln) (po := po) (lt := lt) (fi := fi) (sc := sc) (nu := nu) (ad := ad) (rv := rv) (htx := htx) (hln := by omega) (hpo := by omega)) (cwV 0 hts gX4_runText_X4_isValid rfl rfl rfl (by decide +kernel) ⟨Nat.le_of_ble_eq_true rfl, Nat.le_of_ble_eq_true rfl⟩) hw hA [0, 1, 2] [] [0] rfl rfl rfl (by decide) (by decide) (by decide) 0 rfl rfl rfl hl.1 (Nat.le_of_ble_eq_true rfl) ⟨Nat.le_of_ble_eq_true rfl, Nat.le_of_ble_eq_true rfl⟩ rfl dX4_runText_2 (fun r_2 u_2 H locs e_2 hw => ?_)
  obtain ⟨u0_2, u1_2, u2_2, u3_2⟩ := u_2
  have hw : Wd D A [(cI, .int)] (wM cI m9 sa tx th sv ln ((rvC tx ln 81 0).2) u0_2 u1_2 u2_2 u3_2 ad rv) s s.heap H locs := hw
  have e_2 : r_2 = b2 ((rvC tx ln 81 0).1 = true) := e_2
  subst e_2
  refine r_if_eqB (tgt := 12) hx hb dX4_runText_5 (by decide) (fun _ => ?_) (fun h => absurd h (hvd))
  refine lv_iconst (v := nI 1) hx hb dX4_runText_12 kc_iconst_1 ?_
  refine cu_Vi (As := [.int (nI 1)]) (rest := []) (wc := wM cI m9 sa tx th sv ln ((rvC tx ln 81 0).2) u0_2 u1_2 u2_2 u3_2 ad rv) (wr := []) S (c_X4_holds l D (sz := H.size) (cI := cI) (m9 := m9) (sa := sa) (tx := tx) (th := th) (sv := sv) (ln := ln) (po := (rvC tx ln 81 0).2) (lt := u0_2) (fi := u1_2) (sc := u2_2) (nu := u3_2) (ad := ad) (rv := rv) (x := nI 1)) (cwV 1 hts gX4_runText_X4_holds rfl rfl rfl (by decide +kernel) ⟨Nat.le_of_ble_eq_true rfl, Nat.le_of_ble_eq_true rfl⟩) hw hA [0, 1, 2] [] [0] rfl rfl rfl (by decide) (by decide) (by decide) 0 rfl rfl rfl hl.1 (Nat.le_of_ble_eq_true rfl) ⟨Nat.le_of_ble_eq_true rfl, Nat.le_of_ble_eq_true rfl⟩ rfl dX4_runText_13 (fun r_13 u_13 H locs e_13 hw => ?_)
  have hw : Wd D A [(cI, .int)] (wM cI m9 sa tx (nI 1) sv ln ((rvC tx ln 81 0).2) u0_2 u1_2 u2_2 u3_2 ad rv) s s.heap H locs := hw
  have e_13 : r_13 = b2 ((nI 1) = 0) := e_13
  subst e_13
  refine r_if_neB (tgt := 21) hx hb dX4_runText_16 (by decide) (fun h => absurd h (by decide)) (fun _ => ?_)
  refine lv_iconst (v := nI 0) hx hb dX4_runText_19 kc_iconst_0 ?_
  exact hE (u0_2, u1_2, u2_2, u3_2) dX4_runText_20 rfl (Nat.le_of_ble_eq_true rfl) (Nat.le_of_ble_eq_true rfl) (hw.sub [0, 1, 2] [] (by decide) rfl rfl) rfl
