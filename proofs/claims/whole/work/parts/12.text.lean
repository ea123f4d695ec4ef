abbrev rmX2_nextCharacter : Room := { frames := 0, cells := 0, slots := 0, locals := 0 }
set_option maxHeartbeats 4000000 in
set_option maxRecDepth 100000 in
theorem c_X2_nextCharacter (l : Launch) (D : va_G) (cC : ClassId) (t9 : Nat → Nat) (tx : Nat → Nat) (ln po : Nat) (ki rp tg nu : Int32)  (htx : ∀ i, tx i < 127) (hln : ln ≤ 80) (hpo : po < 1000)  : MQi l yX2_nextCharacter wsX2_nextCharacter rmX2_nextCharacter [.ref (t9 0)] D [(cC, .char)] (wT cC t9 tx ln po ki rp tg nu) (fun rz => rz = ncI tx ln po) := by
  refine met_q (own := RX2) (cc := cX2_nextCharacter) (maxL := 1) (ty := .int) (by decide) rfl rfl (Nat.le_of_ble_eq_true rfl) ?_
  intro p e s m args below meth c Q S hq hE ls hl
  obtain ⟨hx, hb, hml, hown, hts⟩ := id S
  have k19 := hts (.fieldLink RX2 19 "CausalTable$Text" "position" "I") (by decide +kernel)
  have hin2 := (show ∀ w ∈ wsX20, w ∈ wsX2_nextCharacter by decide +kernel)
  have k15 := hts (.fieldLink RX2 15 "CausalTable$Text" "length" "I") (by decide +kernel)
  have k9 := hts (.fieldLink RX2 9 "CausalTable$Text" "characters" "[C") (by decide +kernel)
  have hl : lv_has ls 1 [(0, .ref (t9 0))] := hl
  refine lv_aload_n hx hb dX2_nextCharacter_0 rfl (lv_at hl 0 rfl) ?_
  refine r_get hx hb hts hown hq 0 2 hin2 rfl rfl (by decide) k19 rfl dX2_nextCharacter_1 ?_
  refine lv_aload_n hx hb dX2_nextCharacter_4 rfl (lv_at hl 0 rfl) ?_
  refine r_get hx hb hts hown hq 0 1 hin2 rfl rfl (by decide) k15 rfl dX2_nextCharacter_5 ?_
  refine r_icmp_geN (tgt := 23) hx hb (by omega) (by omega) dX2_nextCharacter_8 (by decide) (fun c_8 => ?_) (fun c_8 => ?_)
  ·
    refine lv_iconst (v := (-1)) hx hb dX2_nextCharacter_23 kc_iconst_m1 ?_
    exact hE dX2_nextCharacter_24 (rfl) (show (-1) = ncI tx ln po from by rw [ncI]; first | rw [if_pos c_8] | rw [if_neg (Nat.not_lt.mpr c_8)])
  ·
    refine lv_aload_n hx hb dX2_nextCharacter_11 rfl (lv_at hl 0 rfl) ?_
    refine r_get hx hb hts hown hq 0 0 hin2 rfl rfl (by decide) k9 rfl dX2_nextCharacter_12 ?_
    refine lv_aload_n hx hb dX2_nextCharacter_15 rfl (lv_at hl 0 rfl) ?_
    refine r_get hx hb hts hown hq 0 2 hin2 rfl rfl (by decide) k19 rfl dX2_nextCharacter_16 ?_
    refine r_cld hx hb hq 1 0 rfl rfl (i := po) (by omega) (by decide) dX2_nextCharacter_19 ?_
    refine r_top hx (show (fun i => nI (tx i)) po = nI (tx po) from rfl) ?_
    refine lv_goto (tgt := 24) hx hb dX2_nextCharacter_20 (by decide) ?_
    exact hE dX2_nextCharacter_24 (rfl) (show nI (tx po) = ncI tx ln po from by rw [ncI]; first | rw [if_pos c_8] | rw [if_neg (Nat.not_lt.mpr c_8)])
abbrev rmX2_readCharacter : Room := { frames := 1, cells := 0, slots := 0, locals := 20 }
set_option maxHeartbeats 4000000 in
set_option maxRecDepth 100000 in
theorem c_X2_readCharacter (l : Launch) (D : va_G) (sz : Nat) (cC : ClassId) (t9 : Nat → Nat) (tx : Nat → Nat) (ln po : Nat) (ki rp tg nu : Int32) (c9 : Nat) (htx : ∀ i, tx i < 127) (hln : ln ≤ 80) (hpo : po < 1000) (h0c : 0 < c9) (h1c : c9 < 2 ^ 31) : MUi l yX2_readCharacter wsX2_readCharacter rmX2_readCharacter [.ref (t9 0), .int (nI c9)] D [(cC, .char)] (wT cC t9 tx ln po ki rp tg nu) sz (fun rz (u9 : Unit) => rz = b2 (sgN tx ln po = c9)) (fun u9 => []) (fun u9 => wT cC t9 tx ln (po + (if sgN tx ln po = c9 then 1 else 0)) ki rp tg nu) 0 0 := by
  refine met_u (own := RX2) (cc := cX2_readCharacter) (maxL := 2) (ty := .boolean) (by decide) rfl rfl (Nat.le_of_ble_eq_true rfl) ?_
  intro p e s m args below meth c Q A hsz S hw hA hE ls hl
  obtain ⟨hx, hb, hml, hown, hts⟩ := id S
  have k19 := hts (.fieldLink RX2 19 "CausalTable$Text" "position" "I") (by decide +kernel)
  have hin2 := (show ∀ w ∈ wsX20, w ∈ wsX2_readCharacter by decide +kernel)
  have hl : lv_has ls 2 [(0, .ref (t9 0)), (1, .int (nI c9))] := hl
  refine lv_aload_n hx hb dX2_readCharacter_0 rfl (lv_at hl 0 rfl) ?_
  refine cq_V (As := []) (rest := []) S (c_X2_nextCharacter l D (cC := cC) (t9 := t9) (tx := tx) (ln := ln) (po := po) (ki := ki) (rp := rp) (tg := tg) (nu := nu) (htx := htx) (hln := by omega) (hpo := by omega)) (cwV 0 hts gX2_readCharacter_X2_nextCharacter rfl rfl rfl (by decide +kernel) ⟨Nat.le_of_ble_eq_true rfl, Nat.le_of_ble_eq_true rfl⟩) (hw.q.sub [0, 1] [0] rfl rfl) 0 rfl rfl rfl hl.1 (Nat.le_of_ble_eq_true rfl) ⟨Nat.le_of_ble_eq_true rfl, Nat.le_of_ble_eq_true rfl⟩ rfl dX2_readCharacter_1 (fun r_1 e_1 => ?_)
  have e_1 : r_1 = ncI tx ln po := e_1
  subst e_1
  refine lv_iload_n hx hb dX2_readCharacter_4 rfl (lv_at hl 1 rfl) ?_
  refine lv_icmp_eq (tgt := 10) hx hb dX2_readCharacter_5 (by decide) (fun c_5 => ?_) (fun c_5 => ?_)
  ·
    have h8 := (nc_eq htx h0c h1c).mp c_5
    refine lv_aload_n hx hb dX2_readCharacter_10 rfl (lv_at hl 0 rfl) ?_
    refine lv_dup hx hb dX2_readCharacter_11 rfl ?_
    refine r_get hx hb hts hown hw.q 0 2 hin2 rfl rfl (by decide) k19 rfl dX2_readCharacter_12 ?_
    refine lv_iconst (v := nI 1) hx hb dX2_readCharacter_15 kc_iconst_1 ?_
    refine r_addN hx hb dX2_readCharacter_16 ?_
    refine r_put hx hb hts hown hw 0 2 (ty := .int) tyX2 tyX2_ok nmX2 hin2 rfl rfl (by decide) k19 rfl (by decide +kernel) rfl rfl (Nat.le_of_ble_eq_true rfl) dX2_readCharacter_17 (fun H locs hw => ?_)
    have hw : Wd D A [(cC, .char)] (wT cC t9 tx ln (po + 1) ki rp tg nu) s s.heap H locs := hw
    refine lv_iconst (v := nI 1) hx hb dX2_readCharacter_20 kc_iconst_1 ?_
    have ew : (wT cC t9 tx ln (po + 1) ki rp tg nu) = (wT cC t9 tx ln (po + (if sgN tx ln po = c9 then 1 else 0)) ki rp tg nu) := by rw [if_pos h8]
    rw [ew] at hw
    exact hE () dX2_readCharacter_21 (by first | rfl | exact b2_nz) (Nat.le_of_ble_eq_true rfl) (Nat.le_of_ble_eq_true rfl) (hw.sub [0, 1] [] (by decide) rfl rfl) (show nI 1 = b2 (sgN tx ln po = c9) from ret1 h8)
  ·
    have h8 := fun z => c_5 ((nc_eq htx h0c h1c).mpr z)
    refine lv_iconst (v := nI 0) hx hb dX2_readCharacter_8 kc_iconst_0 ?_
    have ew : (wT cC t9 tx ln po ki rp tg nu) = (wT cC t9 tx ln (po + (if sgN tx ln po = c9 then 1 else 0)) ki rp tg nu) := by rw [if_neg h8]; rfl
    rw [ew] at hw
    exact hE () dX2_readCharacter_9 (by first | rfl | exact b2_nz) (Nat.le_of_ble_eq_true rfl) (Nat.le_of_ble_eq_true rfl) (hw.sub [0, 1] [] (by decide) rfl rfl) (show nI 0 = b2 (sgN tx ln po = c9) from ret0 h8)
abbrev rmX2_nextDigit : Room := { frames := 0, cells := 0, slots := 0, locals := 0 }
set_option maxHeartbeats 4000000 in
set_option maxRecDepth 100000 in
theorem c_X2_nextDigit (l : Launch) (D : va_G) (cC : ClassId) (t9 : Nat → Nat) (tx : Nat → Nat) (ln po : Nat) (ki rp tg nu : Int32) (d9 : Nat) (htx : ∀ i, tx i < 127) (hln : ln ≤ 80) (hpo : po < 1000) (hd9 : d9 ≤ 9) : MQi l yX2_nextDigit wsX2_nextDigit rmX2_nextDigit [.ref (t9 0), .int (nI d9)] D [(cC, .char)] (wT cC t9 tx ln po ki rp tg nu) (fun rz => rz = dgI tx ln po d9) := by
  refine met_q (own := RX2) (cc := cX2_nextDigit) (maxL := 3) (ty := .int) (by decide) rfl rfl (Nat.le_of_ble_eq_true rfl) ?_
  intro p e s m args below meth c Q S hq hE ls hl
  obtain ⟨hx, hb, hml, hown, hts⟩ := id S
  have k19 := hts (.fieldLink RX2 19 "CausalTable$Text" "position" "I") (by decide +kernel)
  have hin2 := (show ∀ w ∈ wsX20, w ∈ wsX2_nextDigit by decide +kernel)
  have k15 := hts (.fieldLink RX2 15 "CausalTable$Text" "length" "I") (by decide +kernel)
  have k9 := hts (.fieldLink RX2 9 "CausalTable$Text" "characters" "[C") (by decide +kernel)
  have hl : lv_has ls 3 [(0, .ref (t9 0)), (1, .int (nI d9))] := hl
  have htp := htx po
  refine lv_aload_n hx hb dX2_nextDigit_0 rfl (lv_at hl 0 rfl) ?_
  refine r_get hx hb hts hown hq 0 2 hin2 rfl rfl (by decide) k19 rfl dX2_nextDigit_1 ?_
  refine lv_aload_n hx hb dX2_nextDigit_4 rfl (lv_at hl 0 rfl) ?_
  refine r_get hx hb hts hown hq 0 1 hin2 rfl rfl (by decide) k15 rfl dX2_nextDigit_5 ?_
  refine r_icmp_ltN (tgt := 13) hx hb (by omega) (by omega) dX2_nextDigit_8 (by decide) (fun c_8 => ?_) (fun c_8 => ?_)
  ·
    have hs9 := sgN_in (tx := tx) c_8
    refine lv_aload_n hx hb dX2_nextDigit_13 rfl (lv_at hl 0 rfl) ?_
    refine r_get hx hb hts hown hq 0 0 hin2 rfl rfl (by decide) k9 rfl dX2_nextDigit_14 ?_
    refine lv_aload_n hx hb dX2_nextDigit_17 rfl (lv_at hl 0 rfl) ?_
    refine r_get hx hb hts hown hq 0 2 hin2 rfl rfl (by decide) k19 rfl dX2_nextDigit_18 ?_
    refine r_cld hx hb hq 1 0 rfl rfl (i := po) (by omega) (by decide) dX2_nextDigit_21 ?_
    refine r_top hx (show (fun i => nI (tx i)) po = nI (tx po) from rfl) ?_
    refine lv_bipush (v := nI 48) hx hb dX2_nextDigit_22 kc_bipush_48 ?_
    by_cases h48 : 48 ≤ tx po
    ·
      refine r_subN hx hb (by omega) dX2_nextDigit_24 ?_
      refine lv_istore_n (lv' := [(2, .int (nI ((tx po) - 48))), (0, .ref (t9 0)), (1, .int (nI d9))]) hx hb dX2_nextDigit_25 rfl hl (by decide) rfl (fun ls hl => ?_)
      refine lv_iload_n hx hb dX2_nextDigit_26 rfl (lv_at hl 0 rfl) ?_
      refine lv_if_lt (tgt := 39) hx hb dX2_nextDigit_27 (by decide) (fun h => absurd h (nI_pos (by omega))) (fun _ => ?_)
      refine lv_iload_n hx hb dX2_nextDigit_30 rfl (lv_at hl 0 rfl) ?_
      refine lv_iload_n hx hb dX2_nextDigit_31 rfl (lv_at hl 2 rfl) ?_
      refine r_icmp_gtN (tgt := 39) hx hb (by omega) (by omega) dX2_nextDigit_32 (by decide) (fun c_32 => ?_) (fun c_32 => ?_)
      ·
        refine lv_iconst (v := (-1)) hx hb dX2_nextDigit_39 kc_iconst_m1 ?_
        exact hE dX2_nextDigit_40 (rfl) (show (-1) = dgI tx ln po d9 from by first | exact (dgI_f (fun z => by have := dgB_iff.mp z; omega)).symm | exact ((dgI_t (dgB_iff.mpr (by omega))).trans (by rw [hs9])).symm)
      ·
        refine lv_iload_n hx hb dX2_nextDigit_35 rfl (lv_at hl 0 rfl) ?_
        refine lv_goto (tgt := 40) hx hb dX2_nextDigit_36 (by decide) ?_
        exact hE dX2_nextDigit_40 (rfl) (show nI ((tx po) - 48) = dgI tx ln po d9 from by first | exact (dgI_f (fun z => by have := dgB_iff.mp z; omega)).symm | exact ((dgI_t (dgB_iff.mpr (by omega))).trans (by rw [hs9])).symm)
    ·
      refine lv_isub hx hb dX2_nextDigit_24 ?_
      refine lv_istore_n (lv' := [(2, .int (nI (tx po) - nI 48)), (0, .ref (t9 0)), (1, .int (nI d9))]) hx hb dX2_nextDigit_25 rfl hl (by decide) rfl (fun ls hl => ?_)
      refine lv_iload_n hx hb dX2_nextDigit_26 rfl (lv_at hl 0 rfl) ?_
      refine lv_if_lt (tgt := 39) hx hb dX2_nextDigit_27 (by decide) (fun _ => ?_) (fun h => absurd (pk_sneg (by decide) (by omega)) h)
      refine lv_iconst (v := (-1)) hx hb dX2_nextDigit_39 kc_iconst_m1 ?_
      exact hE dX2_nextDigit_40 (rfl) (show (-1) = dgI tx ln po d9 from by first | exact (dgI_f (fun z => by have := dgB_iff.mp z; omega)).symm | exact ((dgI_t (dgB_iff.mpr (by omega))).trans (by rw [hs9])).symm)
  ·
    have hs9 := sgN_out (tx := tx) c_8
    refine lv_iconst (v := (-1)) hx hb dX2_nextDigit_11 kc_iconst_m1 ?_
    exact hE dX2_nextDigit_12 (rfl) (show (-1) = dgI tx ln po d9 from (dgI_f (fun z => by have := (dgB_iff.mp z).1; omega)).symm)
abbrev rmX2_readDigit : Room := { frames := 1, cells := 0, slots := 0, locals := 22 }
set_option maxHeartbeats 4000000 in
set_option maxRecDepth 100000 in
theorem c_X2_readDigit (l : Launch) (D : va_G) (sz : Nat) (cC : ClassId) (t9 : Nat → Nat) (tx : Nat → Nat) (ln po : Nat) (ki rp tg nu : Int32) (d9 : Nat) (htx : ∀ i, tx i < 127) (hln : ln ≤ 80) (hpo : po < 1000) (hd9 : d9 ≤ 9) : MUi l yX2_readDigit wsX2_readDigit rmX2_readDigit [.ref (t9 0), .int (nI d9)] D [(cC, .char)] (wT cC t9 tx ln po ki rp tg nu) sz (fun rz (u9 : Unit) => rz = dgI tx ln po d9) (fun u9 => []) (fun u9 => wT cC t9 tx ln (po + (if dgB tx ln po d9 = true then 1 else 0)) ki rp tg nu) 0 0 := by
  refine met_u (own := RX2) (cc := cX2_readDigit) (maxL := 3) (ty := .int) (by decide) rfl rfl (Nat.le_of_ble_eq_true rfl) ?_
  intro p e s m args below meth c Q A hsz S hw hA hE ls hl
  obtain ⟨hx, hb, hml, hown, hts⟩ := id S
  have k19 := hts (.fieldLink RX2 19 "CausalTable$Text" "position" "I") (by decide +kernel)
  have hin2 := (show ∀ w ∈ wsX20, w ∈ wsX2_readDigit by decide +kernel)
  have hl : lv_has ls 3 [(0, .ref (t9 0)), (1, .int (nI d9))] := hl
  have hsg := sgN_lt htx ln po
  refine lv_aload_n hx hb dX2_readDigit_0 rfl (lv_at hl 0 rfl) ?_
  refine lv_iload_n hx hb dX2_readDigit_1 rfl (lv_at hl 1 rfl) ?_
  refine cq_V (As := [.int (nI d9)]) (rest := []) S (c_X2_nextDigit l D (cC := cC) (t9 := t9) (tx := tx) (ln := ln) (po := po) (ki := ki) (rp := rp) (tg := tg) (nu := nu) (d9 := d9) (htx := htx) (hln := by omega) (hpo := by omega) (hd9 := by omega)) (cwV 1 hts gX2_readDigit_X2_nextDigit rfl rfl rfl (by decide +kernel) ⟨Nat.le_of_ble_eq_true rfl, Nat.le_of_ble_eq_true rfl⟩) (hw.q.sub [0, 1] [0] rfl rfl) 0 rfl rfl rfl hl.1 (Nat.le_of_ble_eq_true rfl) ⟨Nat.le_of_ble_eq_true rfl, Nat.le_of_ble_eq_true rfl⟩ rfl dX2_readDigit_2 (fun r_2 e_2 => ?_)
  have e_2 : r_2 = dgI tx ln po d9 := e_2
  subst e_2
  by_cases hd : dgB tx ln po d9 = true
  ·
    refine r_top hx (show dgI tx ln po d9 = nI (sgN tx ln po - 48) from dgI_t hd) ?_
    refine lv_istore_n (lv' := [(2, .int (nI (sgN tx ln po - 48))), (0, .ref (t9 0)), (1, .int (nI d9))]) hx hb dX2_readDigit_5 rfl hl (by decide) rfl (fun ls hl => ?_)
    refine lv_iload_n hx hb dX2_readDigit_6 rfl (lv_at hl 0 rfl) ?_
    refine lv_iconst (v := (-1)) hx hb dX2_readDigit_7 kc_iconst_m1 ?_
    refine lv_icmp_eq (tgt := 21) hx hb dX2_readDigit_8 (by decide) (fun h => absurd h (nI_m1 (by omega))) (fun _ => ?_)
    refine lv_aload_n hx hb dX2_readDigit_11 rfl (lv_at hl 1 rfl) ?_
    refine lv_dup hx hb dX2_readDigit_12 rfl ?_
    refine r_get hx hb hts hown hw.q 0 2 hin2 rfl rfl (by decide) k19 rfl dX2_readDigit_13 ?_
    refine lv_iconst (v := nI 1) hx hb dX2_readDigit_16 kc_iconst_1 ?_
    refine r_addN hx hb dX2_readDigit_17 ?_
    refine r_put hx hb hts hown hw 0 2 (ty := .int) tyX2 tyX2_ok nmX2 hin2 rfl rfl (by decide) k19 rfl (by decide +kernel) rfl rfl (Nat.le_of_ble_eq_true rfl) dX2_readDigit_18 (fun H locs hw => ?_)
    have hw : Wd D A [(cC, .char)] (wT cC t9 tx ln (po + 1) ki rp tg nu) s s.heap H locs := hw
    refine lv_iload_n hx hb dX2_readDigit_21 rfl (lv_at hl 0 rfl) ?_
    have ew : (wT cC t9 tx ln (po + 1) ki rp tg nu) = (wT cC t9 tx ln (po + (if dgB tx ln po d9 = true then 1 else 0)) ki rp tg nu) := by first | rw [if_pos hd] | (rw [if_neg hd]; rfl)
    rw [ew] at hw
    exact hE () dX2_readDigit_22 (rfl) (Nat.le_of_ble_eq_true rfl) (Nat.le_of_ble_eq_true rfl) (hw.sub [0, 1] [] (by decide) rfl rfl) (show nI (sgN tx ln po - 48) = dgI tx ln po d9 from by first | exact (dgI_t hd).symm | exact (dgI_f hd).symm)
  ·
    refine r_top hx (show dgI tx ln po d9 = (-1) from dgI_f hd) ?_
    refine lv_istore_n (lv' := [(2, .int (-1)), (0, .ref (t9 0)), (1, .int (nI d9))]) hx hb dX2_readDigit_5 rfl hl (by decide) rfl (fun ls hl => ?_)
    refine lv_iload_n hx hb dX2_readDigit_6 rfl (lv_at hl 0 rfl) ?_
    refine lv_iconst (v := (-1)) hx hb dX2_readDigit_7 kc_iconst_m1 ?_
    refine lv_icmp_eq (tgt := 21) hx hb dX2_readDigit_8 (by decide) (fun _ => ?_) (fun h => absurd (rfl) h)
    refine lv_iload_n hx hb dX2_readDigit_21 rfl (lv_at hl 0 rfl) ?_
    have ew : (wT cC t9 tx ln po ki rp tg nu) = (wT cC t9 tx ln (po + (if dgB tx ln po d9 = true then 1 else 0)) ki rp tg nu) := by first | rw [if_pos hd] | (rw [if_neg hd]; rfl)
    rw [ew] at hw
    exact hE () dX2_readDigit_22 (rfl) (Nat.le_of_ble_eq_true rfl) (Nat.le_of_ble_eq_true rfl) (hw.sub [0, 1] [] (by decide) rfl rfl) (show (-1) = dgI tx ln po d9 from by first | exact (dgI_t hd).symm | exact (dgI_f hd).symm)
abbrev rmX2_readKind : Room := { frames := 1, cells := 0, slots := 0, locals := 20 }
set_option maxHeartbeats 4000000 in
set_option maxRecDepth 100000 in
theorem c_X2_readKind (l : Launch) (D : va_G) (sz : Nat) (cC : ClassId) (t9 : Nat → Nat) (tx : Nat → Nat) (ln po : Nat) (ki rp tg nu : Int32)  (htx : ∀ i, tx i < 127) (hln : ln ≤ 80) (hpo : po < 1000)  : MUi l yX2_readKind wsX2_readKind rmX2_readKind [.ref (t9 0)] D [(cC, .char)] (wT cC t9 tx ln po ki rp tg nu) sz (fun rz (u9 : Unit) => rz = b2 (kdB (sgN tx ln po) = true)) (fun u9 => []) (fun u9 => wT cC t9 tx ln (po + (if kdB (sgN tx ln po) = true then 1 else 0)) (ncI tx ln po) rp tg nu) 0 0 := by
  refine met_u (own := RX2) (cc := cX2_readKind) (maxL := 1) (ty := .boolean) (by decide) rfl rfl (Nat.le_of_ble_eq_true rfl) ?_
  intro p e s m args below meth c Q A hsz S hw hA hE ls hl
  obtain ⟨hx, hb, hml, hown, hts⟩ := id S
  have k22 := hts (.fieldLink RX2 22 "CausalTable$Text" "kind" "I") (by decide +kernel)
  have hin2 := (show ∀ w ∈ wsX20, w ∈ wsX2_readKind by decide +kernel)
  have k19 := hts (.fieldLink RX2 19 "CausalTable$Text" "position" "I") (by decide +kernel)
  have hl : lv_has ls 1 [(0, .ref (t9 0))] := hl
  have hsg := sgN_lt htx ln po
  refine lv_aload_n hx hb dX2_readKind_0 rfl (lv_at hl 0 rfl) ?_
  refine lv_aload_n hx hb dX2_readKind_1 rfl (lv_at hl 0 rfl) ?_
  refine cq_V (As := []) (rest := [.ref (t9 0)]) S (c_X2_nextCharacter l D (cC := cC) (t9 := t9) (tx := tx) (ln := ln) (po := po) (ki := ki) (rp := rp) (tg := tg) (nu := nu) (htx := htx) (hln := by omega) (hpo := by omega)) (cwV 0 hts gX2_readKind_X2_nextCharacter rfl rfl rfl (by decide +kernel) ⟨Nat.le_of_ble_eq_true rfl, Nat.le_of_ble_eq_true rfl⟩) (hw.q.sub [0, 1] [0] rfl rfl) 0 rfl rfl rfl hl.1 (Nat.le_of_ble_eq_true rfl) ⟨Nat.le_of_ble_eq_true rfl, Nat.le_of_ble_eq_true rfl⟩ rfl dX2_readKind_2 (fun r_2 e_2 => ?_)
  have e_2 : r_2 = ncI tx ln po := e_2
  subst e_2
  refine r_put hx hb hts hown hw 0 3 (ty := .int) tyX2 tyX2_ok nmX2 hin2 rfl rfl (by decide) k22 rfl (by decide +kernel) rfl rfl (Nat.le_of_ble_eq_true rfl) dX2_readKind_5 (fun H locs hw => ?_)
  have hw : Wd D A [(cC, .char)] (wT cC t9 tx ln po (ncI tx ln po) rp tg nu) s s.heap H locs := hw
  by_cases hpl : po < ln
  ·
    have hw : Wd D A [(cC, .char)] (wT cC t9 tx ln po (nI (sgN tx ln po)) rp tg nu) s s.heap H locs := Eq.mp (congrArg (fun z9 => Wd D A [(cC, .char)] (wT cC t9 tx ln po z9 rp tg nu) s s.heap H locs) (show ncI tx ln po = nI (sgN tx ln po) from by rw [ncI, if_pos hpl, sgN_in hpl])) hw
    have hb9 := sgN_in (tx := tx) hpl
    refine lv_aload_n hx hb dX2_readKind_8 rfl (lv_at hl 0 rfl) ?_
    refine r_get hx hb hts hown hw.q 0 3 hin2 rfl rfl (by decide) k22 rfl dX2_readKind_9 ?_
    by_cases hkd : kdB (sgN tx ln po) = true
    ·
      have hrg := kdB_rng hkd
      have hat := offK2_ok ((sgN tx ln po) - 97) (by omega)
      rw [show 97 + ((sgN tx ln po) - 97) = sgN tx ln po from by omega, if_pos hkd] at hat
      refine lv_tableIn (off := 104) (tgt := 116) hx hb dX2_readKind_12 (by rw [nI_toInt (by omega)]; omega) (by rw [nI_toInt (by omega)]; omega) (sw_at offK2 22 (by omega) (by omega) hat) (by decide) ?_
      refine lv_aload_n hx hb dX2_readKind_116 rfl (lv_at hl 0 rfl) ?_
      refine lv_dup hx hb dX2_readKind_117 rfl ?_
      refine r_get hx hb hts hown hw.q 0 2 hin2 rfl rfl (by decide) k19 rfl dX2_readKind_118 ?_
      refine lv_iconst (v := nI 1) hx hb dX2_readKind_121 kc_iconst_1 ?_
      refine r_addN hx hb dX2_readKind_122 ?_
      refine r_put hx hb hts hown hw 0 2 (ty := .int) tyX2 tyX2_ok nmX2 hin2 rfl rfl (by decide) k19 rfl (by decide +kernel) rfl rfl (Nat.le_of_ble_eq_true rfl) dX2_readKind_123 (fun H locs hw => ?_)
      have hw : Wd D A [(cC, .char)] (wT cC t9 tx ln (po + 1) (nI (sgN tx ln po)) rp tg nu) s s.heap H locs := hw
      refine lv_iconst (v := nI 1) hx hb dX2_readKind_126 kc_iconst_1 ?_
      have ew : (wT cC t9 tx ln (po + 1) (nI (sgN tx ln po)) rp tg nu) = (wT cC t9 tx ln (po + (if kdB (sgN tx ln po) = true then 1 else 0)) (ncI tx ln po) rp tg nu) := by rw [if_pos hkd, ncI, if_pos hpl, sgN_in hpl]
      rw [ew] at hw
      exact hE () dX2_readKind_127 (by first | rfl | exact b2_nz) (Nat.le_of_ble_eq_true rfl) (Nat.le_of_ble_eq_true rfl) (hw.sub [0, 1] [] (by decide) rfl rfl) (show nI 1 = b2 (kdB (sgN tx ln po) = true) from ret1 hkd)
    ·
      have JO : W p l e rmX2_readKind s m args below meth c H locs 0 0 Q (F0 m 128 ls []) := by
        refine lv_iconst (v := nI 0) hx hb dX2_readKind_128 kc_iconst_0 ?_
        have ew : (wT cC t9 tx ln po (nI (sgN tx ln po)) rp tg nu) = (wT cC t9 tx ln (po + (if kdB (sgN tx ln po) = true then 1 else 0)) (ncI tx ln po) rp tg nu) := by first | (rw [if_neg hkd, ncI, if_pos hpl, sgN_in hpl]; rfl) | (rw [hs0, if_neg (by decide), ncI, if_neg hpl]; rfl)
        rw [ew] at hw
        exact hE () dX2_readKind_129 (by first | rfl | exact b2_nz) (Nat.le_of_ble_eq_true rfl) (Nat.le_of_ble_eq_true rfl) (hw.sub [0, 1] [] (by decide) rfl rfl) (show nI 0 = b2 (kdB (sgN tx ln po) = true) from by first | exact ret0 hkd | (rw [hs0]; exact ret0 (by decide)))
      by_cases h97 : 97 ≤ (sgN tx ln po) ∧ (sgN tx ln po) ≤ 118
      ·
        have hat := offK2_ok ((sgN tx ln po) - 97) (by omega)
        rw [show 97 + ((sgN tx ln po) - 97) = sgN tx ln po from by omega, if_neg hkd] at hat
        exact lv_tableIn (off := 116) (tgt := 128) hx hb dX2_readKind_12 (by rw [nI_toInt (by omega)]; omega) (by rw [nI_toInt (by omega)]; omega) (sw_at offK2 22 (by omega) (by omega) hat) (by decide) JO
      ·
        exact lv_tableOut (tgt := 128) hx hb dX2_readKind_12 (by rw [nI_toInt (by omega)]; omega) (by decide) JO
  ·
    have hw : Wd D A [(cC, .char)] (wT cC t9 tx ln po (-1) rp tg nu) s s.heap H locs := Eq.mp (congrArg (fun z9 => Wd D A [(cC, .char)] (wT cC t9 tx ln po z9 rp tg nu) s s.heap H locs) (show ncI tx ln po = (-1) from if_neg hpl)) hw
    have hs0 := sgN_out (tx := tx) (Nat.le_of_not_lt hpl)
    refine lv_aload_n hx hb dX2_readKind_8 rfl (lv_at hl 0 rfl) ?_
    refine r_get hx hb hts hown hw.q 0 3 hin2 rfl rfl (by decide) k22 rfl dX2_readKind_9 ?_
    refine lv_tableOut (tgt := 128) hx hb dX2_readKind_12 (by decide) (by decide) ?_
    refine lv_iconst (v := nI 0) hx hb dX2_readKind_128 kc_iconst_0 ?_
    have ew : (wT cC t9 tx ln po (-1) rp tg nu) = (wT cC t9 tx ln (po + (if kdB (sgN tx ln po) = true then 1 else 0)) (ncI tx ln po) rp tg nu) := by first | (rw [if_neg hkd, ncI, if_pos hpl, sgN_in hpl]; rfl) | (rw [hs0, if_neg (by decide), ncI, if_neg hpl]; rfl)
    rw [ew] at hw
    exact hE () dX2_readKind_129 (by first | rfl | exact b2_nz) (Nat.le_of_ble_eq_true rfl) (Nat.le_of_ble_eq_true rfl) (hw.sub [0, 1] [] (by decide) rfl rfl) (show nI 0 = b2 (kdB (sgN tx ln po) = true) from by first | exact ret0 hkd | (rw [hs0]; exact ret0 (by decide)))
abbrev rmX2_mostForKind : Room := { frames := 0, cells := 0, slots := 0, locals := 0 }
set_option maxHeartbeats 4000000 in
set_option maxRecDepth 100000 in
theorem c_X2_mostForKind (l : Launch) (D : va_G) (cC : ClassId) (t9 : Nat → Nat) (tx : Nat → Nat) (ln po : Nat) (rp tg nu : Int32) (kc : Nat) (htx : ∀ i, tx i < 127) (hln : ln ≤ 80) (hpo : po < 1000) (hkc : kc < 2 ^ 31) : MQi l yX2_mostForKind wsX2_mostForKind rmX2_mostForKind [.ref (t9 0)] D [(cC, .char)] (wT cC t9 tx ln po (nI kc) rp tg nu) (fun rz => rz = nI (mfN kc)) := by
  refine met_q (own := RX2) (cc := cX2_mostForKind) (maxL := 1) (ty := .int) (by decide) rfl rfl (Nat.le_of_ble_eq_true rfl) ?_
  intro p e s m args below meth c Q S hq hE ls hl
  obtain ⟨hx, hb, hml, hown, hts⟩ := id S
  have k22 := hts (.fieldLink RX2 22 "CausalTable$Text" "kind" "I") (by decide +kernel)
  have hin2 := (show ∀ w ∈ wsX20, w ∈ wsX2_mostForKind by decide +kernel)
  have hl : lv_has ls 1 [(0, .ref (t9 0))] := hl
  refine lv_aload_n hx hb dX2_mostForKind_0 rfl (lv_at hl 0 rfl) ?_
  refine r_get hx hb hts hown hq 0 3 hin2 rfl rfl (by decide) k22 rfl dX2_mostForKind_1 ?_
  refine lv_bipush (v := nI 105) hx hb dX2_mostForKind_4 kc_bipush_105 ?_
  refine r_icmp_eqN (tgt := 18) hx hb (by omega) (by omega) dX2_mostForKind_6 (by decide) (fun c_6 => ?_) (fun c_6 => ?_)
  ·
    refine lv_bipush (v := nI 15) hx hb dX2_mostForKind_18 kc_bipush_15 ?_
    refine lv_goto (tgt := 26) hx hb dX2_mostForKind_20 (by decide) ?_
    exact hE dX2_mostForKind_26 (rfl) (show nI 15 = nI (mfN kc) from by rw [mfN]; first | rw [if_pos (Or.inl c_6)] | rw [if_pos (Or.inr c_15)] | rw [if_neg (fun z => z.elim c_6 c_15)])
  ·
    refine lv_aload_n hx hb dX2_mostForKind_9 rfl (lv_at hl 0 rfl) ?_
    refine r_get hx hb hts hown hq 0 3 hin2 rfl rfl (by decide) k22 rfl dX2_mostForKind_10 ?_
    refine lv_bipush (v := nI 101) hx hb dX2_mostForKind_13 kc_bipush_101 ?_
    refine r_icmp_neN (tgt := 23) hx hb (by omega) (by omega) dX2_mostForKind_15 (by decide) (fun c_15 => ?_) (fun c_15 => ?_)
    ·
      refine lv_sipush (v := nI 999) hx hb dX2_mostForKind_23 kc_sipush_999 ?_
      exact hE dX2_mostForKind_26 (rfl) (show nI 999 = nI (mfN kc) from by rw [mfN]; first | rw [if_pos (Or.inl c_6)] | rw [if_pos (Or.inr c_15)] | rw [if_neg (fun z => z.elim c_6 c_15)])
    ·
      refine lv_bipush (v := nI 15) hx hb dX2_mostForKind_18 kc_bipush_15 ?_
      refine lv_goto (tgt := 26) hx hb dX2_mostForKind_20 (by decide) ?_
      exact hE dX2_mostForKind_26 (rfl) (show nI 15 = nI (mfN kc) from by rw [mfN]; first | rw [if_pos (Or.inl c_6)] | rw [if_pos (Or.inr c_15)] | rw [if_neg (fun z => z.elim c_6 c_15)])
abbrev rmX2_readNumber : Room := { frames := 1, cells := 0, slots := 0, locals := 22 }
set_option maxHeartbeats 4000000 in
set_option maxRecDepth 100000 in
theorem c_X2_readNumber (l : Launch) (D : va_G) (sz : Nat) (cC : ClassId) (t9 : Nat → Nat) (tx : Nat → Nat) (ln po : Nat) (ki rp tg nu : Int32) (a9 b9 : Nat) (htx : ∀ i, tx i < 127) (hln : ln ≤ 80) (hpo : po < 990) (ha9 : a9 ≤ 9) (hb9 : b9 ≤ 999) : MUi l yX2_readNumber wsX2_readNumber rmX2_readNumber [.ref (t9 0), .int (nI a9), .int (nI b9)] D [(cC, .char)] (wT cC t9 tx ln po ki rp tg nu) sz (fun rz (u9 : Unit) => rz = b2 (nmB tx ln po a9 = true)) (fun u9 => []) (fun u9 => wT cC t9 tx ln (if nmB tx ln po a9 = true then (nmR tx ln po b9).1 else po) ki rp tg (if nmB tx ln po a9 = true then nI (nmR tx ln po b9).2 else nu)) 0 0 := by
  refine met_u (own := RX2) (cc := cX2_readNumber) (maxL := 6) (ty := .boolean) (by decide) rfl rfl (Nat.le_of_ble_eq_true rfl) ?_
  intro p e s m args below meth c Q A hsz S hw hA hE ls hl
  obtain ⟨hx, hb, hml, hown, hts⟩ := id S
  have k19 := hts (.fieldLink RX2 19 "CausalTable$Text" "position" "I") (by decide +kernel)
  have hin2 := (show ∀ w ∈ wsX20, w ∈ wsX2_readNumber by decide +kernel)
  have k31 := hts (.fieldLink RX2 31 "CausalTable$Text" "number" "I") (by decide +kernel)
  have hl : lv_has ls 6 [(0, .ref (t9 0)), (1, .int (nI a9)), (2, .int (nI b9))] := hl
  have hsg := sgN_lt htx ln po
  have hs1 := sgN_lt htx ln (po + 1)
  have hs2 := sgN_lt htx ln ((po + 1) + 1)
  refine lv_aload_n hx hb dX2_readNumber_0 rfl (lv_at hl 0 rfl) ?_
  refine lv_bipush (v := nI 9) hx hb dX2_readNumber_1 kc_bipush_9 ?_
  refine cq_V (As := [.int (nI 9)]) (rest := []) S (c_X2_nextDigit l D (cC := cC) (t9 := t9) (tx := tx) (ln := ln) (po := po) (ki := ki) (rp := rp) (tg := tg) (nu := nu) (d9 := 9) (htx := htx) (hln := by omega) (hpo := by omega) (hd9 := by omega)) (cwV 1 hts gX2_readNumber_X2_nextDigit rfl rfl rfl (by decide +kernel) ⟨Nat.le_of_ble_eq_true rfl, Nat.le_of_ble_eq_true rfl⟩) (hw.q.sub [0, 1] [0] rfl rfl) 0 rfl rfl rfl hl.1 (Nat.le_of_ble_eq_true rfl) ⟨Nat.le_of_ble_eq_true rfl, Nat.le_of_ble_eq_true rfl⟩ rfl dX2_readNumber_3 (fun r_3 e_3 => ?_)
  have e_3 : r_3 = dgI tx ln po 9 := e_3
  subst e_3
  by_cases hd : dgB tx ln po 9 = true
  ·
    refine r_top hx (show dgI tx ln po 9 = nI (sgN tx ln po - 48) from dgI_t hd) ?_
    have hd0 := dgB_iff.mp hd
    refine lv_istore_n (lv' := [(3, .int (nI (sgN tx ln po - 48))), (0, .ref (t9 0)), (1, .int (nI a9)), (2, .int (nI b9))]) hx hb dX2_readNumber_6 rfl hl (by decide) rfl (fun ls hl => ?_)
    refine lv_iload_n hx hb dX2_readNumber_7 rfl (lv_at hl 0 rfl) ?_
    refine lv_iconst (v := (-1)) hx hb dX2_readNumber_8 kc_iconst_m1 ?_
    refine lv_icmp_eq (tgt := 17) hx hb dX2_readNumber_9 (by decide) (fun h => absurd h (nI_m1 (by omega))) (fun _ => ?_)
    refine lv_iload_n hx hb dX2_readNumber_12 rfl (lv_at hl 0 rfl) ?_
    refine lv_iload_n hx hb dX2_readNumber_13 rfl (lv_at hl 2 rfl) ?_
    refine r_icmp_geN (tgt := 19) hx hb (by omega) (by omega) dX2_readNumber_14 (by decide) (fun c_14 => ?_) (fun c_14 => ?_)
    ·
      have hn : nmB tx ln po a9 = true := nmB_iff.mpr (by omega)
      refine lv_aload_n hx hb dX2_readNumber_19 rfl (lv_at hl 1 rfl) ?_
      refine lv_dup hx hb dX2_readNumber_20 rfl ?_
      refine r_get hx hb hts hown hw.q 0 2 hin2 rfl rfl (by decide) k19 rfl dX2_readNumber_21 ?_
      refine lv_iconst (v := nI 1) hx hb dX2_readNumber_24 kc_iconst_1 ?_
      refine r_addN hx hb dX2_readNumber_25 ?_
      refine r_put hx hb hts hown hw 0 2 (ty := .int) tyX2 tyX2_ok nmX2 hin2 rfl rfl (by decide) k19 rfl (by decide +kernel) rfl rfl (Nat.le_of_ble_eq_true rfl) dX2_readNumber_26 (fun H locs hw => ?_)
      have hw : Wd D A [(cC, .char)] (wT cC t9 tx ln (po + 1) ki rp tg nu) s s.heap H locs := hw
      refine lv_aload_n hx hb dX2_readNumber_29 rfl (lv_at hl 1 rfl) ?_
      refine lv_iload_n hx hb dX2_readNumber_30 rfl (lv_at hl 0 rfl) ?_
      refine r_put hx hb hts hown hw 0 6 (ty := .int) tyX2 tyX2_ok nmX2 hin2 rfl rfl (by decide) k31 rfl (by decide +kernel) rfl rfl (Nat.le_of_ble_eq_true rfl) dX2_readNumber_31 (fun H locs hw => ?_)
      have hw : Wd D A [(cC, .char)] (wT cC t9 tx ln (po + 1) ki rp tg (nI (sgN tx ln po - 48))) s s.heap H locs := hw
      refine lv_iconst (v := nI 1) hx hb dX2_readNumber_34 kc_iconst_1 ?_
      refine lv_istore (lv' := [(4, .int (nI 1)), (3, .int (nI (sgN tx ln po - 48))), (0, .ref (t9 0)), (1, .int (nI a9)), (2, .int (nI b9))]) hx hb dX2_readNumber_35 hl (by decide) rfl (fun ls hl => ?_)
      refine lv_iload hx hb dX2_readNumber_37 (lv_at hl 0 rfl) ?_
      refine lv_iconst (v := nI 3) hx hb dX2_readNumber_39 kc_iconst_3 ?_
      refine r_icmp_geN (tgt := 110) hx hb (by decide) (by decide) dX2_readNumber_40 (by decide) (fun h => absurd h (by decide)) (fun _ => ?_)
      refine lv_aload_n hx hb dX2_readNumber_43 rfl (lv_at hl 2 rfl) ?_
      refine r_get hx hb hts hown hw.q 0 6 hin2 rfl rfl (by decide) k31 rfl dX2_readNumber_44 ?_
      refine r_if_leN (tgt := 110) hx hb (by omega) dX2_readNumber_47 (by decide) (fun c_47 => ?_) (fun c_47 => ?_)
      ·
        have hE9 : nmR tx ln po b9 = (po + 1, (sgN tx ln po - 48)) := nmF_z c_47
        refine lv_iconst (v := nI 1) hx hb dX2_readNumber_110 kc_iconst_1 ?_
        have ew : (wT cC t9 tx ln (po + 1) ki rp tg (nI (sgN tx ln po - 48))) = (wT cC t9 tx ln (if nmB tx ln po a9 = true then (nmR tx ln po b9).1 else po) ki rp tg (if nmB tx ln po a9 = true then nI (nmR tx ln po b9).2 else nu)) := by rw [if_pos hn, if_pos hn, hE9]
        rw [ew] at hw
        exact hE () dX2_readNumber_111 (by first | rfl | exact b2_nz) (Nat.le_of_ble_eq_true rfl) (Nat.le_of_ble_eq_true rfl) (hw.sub [0, 1] [] (by decide) rfl rfl) (show nI 1 = b2 (nmB tx ln po a9 = true) from ret1 hn)
      ·
        have h471 := c_47
        refine lv_aload_n hx hb dX2_readNumber_50 rfl (lv_at hl 2 rfl) ?_
        refine lv_bipush (v := nI 9) hx hb dX2_readNumber_51 kc_bipush_9 ?_
        refine cq_V (As := [.int (nI 9)]) (rest := []) S (c_X2_nextDigit l D (cC := cC) (t9 := t9) (tx := tx) (ln := ln) (po := po + 1) (ki := ki) (rp := rp) (tg := tg) (nu := nI (sgN tx ln po - 48)) (d9 := 9) (htx := htx) (hln := by omega) (hpo := by omega) (hd9 := by omega)) (cwV 1 hts gX2_readNumber_X2_nextDigit rfl rfl rfl (by decide +kernel) ⟨Nat.le_of_ble_eq_true rfl, Nat.le_of_ble_eq_true rfl⟩) (hw.q.sub [0, 1] [0] rfl rfl) 0 rfl rfl rfl hl.1 (Nat.le_of_ble_eq_true rfl) ⟨Nat.le_of_ble_eq_true rfl, Nat.le_of_ble_eq_true rfl⟩ rfl dX2_readNumber_53 (fun r_53 e_53 => ?_)
        have e_53 : r_53 = dgI tx ln (po + 1) 9 := e_53
        subst e_53
        by_cases hd1 : dgB tx ln (po + 1) 9 = true
        ·
          refine r_top hx (show dgI tx ln (po + 1) 9 = nI (sgN tx ln (po + 1) - 48) from dgI_t hd1) ?_
          have hdd1 := dgB_iff.mp hd1
          refine lv_istore (lv' := [(5, .int (nI (sgN tx ln (po + 1) - 48))), (4, .int (nI 1)), (3, .int (nI (sgN tx ln po - 48))), (0, .ref (t9 0)), (1, .int (nI a9)), (2, .int (nI b9))]) hx hb dX2_readNumber_56 hl (by decide) rfl (fun ls hl => ?_)
          refine lv_iload hx hb dX2_readNumber_58 (lv_at hl 0 rfl) ?_
          refine lv_iconst (v := (-1)) hx hb dX2_readNumber_60 kc_iconst_m1 ?_
          refine lv_icmp_eq (tgt := 78) hx hb dX2_readNumber_61 (by decide) (fun h => absurd h (nI_m1 (by omega))) (fun _ => ?_)
          refine lv_aload_n hx hb dX2_readNumber_64 rfl (lv_at hl 3 rfl) ?_
          refine r_get hx hb hts hown hw.q 0 6 hin2 rfl rfl (by decide) k31 rfl dX2_readNumber_65 ?_
          refine lv_bipush (v := nI 10) hx hb dX2_readNumber_68 kc_bipush_10 ?_
          refine r_mulN hx hb dX2_readNumber_70 ?_
          refine lv_iload hx hb dX2_readNumber_71 (lv_at hl 0 rfl) ?_
          refine r_addN hx hb dX2_readNumber_73 ?_
          refine lv_iload_n hx hb dX2_readNumber_74 rfl (lv_at hl 5 rfl) ?_
          refine r_icmp_leN (tgt := 80) hx hb (by omega) (by omega) dX2_readNumber_75 (by decide) (fun c_75 => ?_) (fun c_75 => ?_)
          ·
            have h751 := c_75
            refine lv_aload_n hx hb dX2_readNumber_80 rfl (lv_at hl 3 rfl) ?_
            refine lv_dup hx hb dX2_readNumber_81 rfl ?_
            refine r_get hx hb hts hown hw.q 0 2 hin2 rfl rfl (by decide) k19 rfl dX2_readNumber_82 ?_
            refine lv_iconst (v := nI 1) hx hb dX2_readNumber_85 kc_iconst_1 ?_
            refine r_addN hx hb dX2_readNumber_86 ?_
            refine r_put hx hb hts hown hw 0 2 (ty := .int) tyX2 tyX2_ok nmX2 hin2 rfl rfl (by decide) k19 rfl (by decide +kernel) rfl rfl (Nat.le_of_ble_eq_true rfl) dX2_readNumber_87 (fun H locs hw => ?_)
            have hw : Wd D A [(cC, .char)] (wT cC t9 tx ln ((po + 1) + 1) ki rp tg (nI (sgN tx ln po - 48))) s s.heap H locs := hw
            refine lv_aload_n hx hb dX2_readNumber_90 rfl (lv_at hl 3 rfl) ?_
            refine lv_aload_n hx hb dX2_readNumber_91 rfl (lv_at hl 3 rfl) ?_
            refine r_get hx hb hts hown hw.q 0 6 hin2 rfl rfl (by decide) k31 rfl dX2_readNumber_92 ?_
            refine lv_bipush (v := nI 10) hx hb dX2_readNumber_95 kc_bipush_10 ?_
            refine r_mulN hx hb dX2_readNumber_97 ?_
            refine lv_iload hx hb dX2_readNumber_98 (lv_at hl 0 rfl) ?_
            refine r_addN hx hb dX2_readNumber_100 ?_
            refine r_put hx hb hts hown hw 0 6 (ty := .int) tyX2 tyX2_ok nmX2 hin2 rfl rfl (by decide) k31 rfl (by decide +kernel) rfl rfl (Nat.le_of_ble_eq_true rfl) dX2_readNumber_101 (fun H locs hw => ?_)
            have hw : Wd D A [(cC, .char)] (wT cC t9 tx ln ((po + 1) + 1) ki rp tg (nI (((sgN tx ln po - 48) * 10) + (sgN tx ln (po + 1) - 48)))) s s.heap H locs := hw
            refine lv_iinc (v := nI 2) (lv' := [(4, .int (nI 2)), (5, .int (nI (sgN tx ln (po + 1) - 48))), (3, .int (nI (sgN tx ln po - 48))), (0, .ref (t9 0)), (1, .int (nI a9)), (2, .int (nI b9))]) hx hb dX2_readNumber_104 hl (k := 1) rfl (nI_add 1 1) (by decide) rfl (fun ls hl => ?_)
            refine lv_goto (tgt := 37) hx hb dX2_readNumber_107 (by decide) ?_
            refine lv_iload hx hb dX2_readNumber_37 (lv_at hl 0 rfl) ?_
            refine lv_iconst (v := nI 3) hx hb dX2_readNumber_39 kc_iconst_3 ?_
            refine r_icmp_geN (tgt := 110) hx hb (by decide) (by decide) dX2_readNumber_40 (by decide) (fun h => absurd h (by decide)) (fun _ => ?_)
            refine lv_aload_n hx hb dX2_readNumber_43 rfl (lv_at hl 3 rfl) ?_
            refine r_get hx hb hts hown hw.q 0 6 hin2 rfl rfl (by decide) k31 rfl dX2_readNumber_44 ?_
            refine r_if_leN (tgt := 110) hx hb (by omega) dX2_readNumber_47 (by decide) (fun c_47 => ?_) (fun c_47 => ?_)
            ·
              have hE9 : nmR tx ln po b9 = ((po + 1) + 1, (((sgN tx ln po - 48) * 10) + (sgN tx ln (po + 1) - 48))) := (nmF_s (f' := 2) rfl h471 hd1 h751).trans (nmF_z c_47)
              refine lv_iconst (v := nI 1) hx hb dX2_readNumber_110 kc_iconst_1 ?_
              have ew : (wT cC t9 tx ln ((po + 1) + 1) ki rp tg (nI (((sgN tx ln po - 48) * 10) + (sgN tx ln (po + 1) - 48)))) = (wT cC t9 tx ln (if nmB tx ln po a9 = true then (nmR tx ln po b9).1 else po) ki rp tg (if nmB tx ln po a9 = true then nI (nmR tx ln po b9).2 else nu)) := by rw [if_pos hn, if_pos hn, hE9]
              rw [ew] at hw
              exact hE () dX2_readNumber_111 (by first | rfl | exact b2_nz) (Nat.le_of_ble_eq_true rfl) (Nat.le_of_ble_eq_true rfl) (hw.sub [0, 1] [] (by decide) rfl rfl) (show nI 1 = b2 (nmB tx ln po a9 = true) from ret1 hn)
            ·
              have h472 := c_47
              refine lv_aload_n hx hb dX2_readNumber_50 rfl (lv_at hl 3 rfl) ?_
              refine lv_bipush (v := nI 9) hx hb dX2_readNumber_51 kc_bipush_9 ?_
              refine cq_V (As := [.int (nI 9)]) (rest := []) S (c_X2_nextDigit l D (cC := cC) (t9 := t9) (tx := tx) (ln := ln) (po := (po + 1) + 1) (ki := ki) (rp := rp) (tg := tg) (nu := nI (((sgN tx ln po - 48) * 10) + (sgN tx ln (po + 1) - 48))) (d9 := 9) (htx := htx) (hln := by omega) (hpo := by omega) (hd9 := by omega)) (cwV 1 hts gX2_readNumber_X2_nextDigit rfl rfl rfl (by decide +kernel) ⟨Nat.le_of_ble_eq_true rfl, Nat.le_of_ble_eq_true rfl⟩) (hw.q.sub [0, 1] [0] rfl rfl) 0 rfl rfl rfl hl.1 (Nat.le_of_ble_eq_true rfl) ⟨Nat.le_of_ble_eq_true rfl, Nat.le_of_ble_eq_true rfl⟩ rfl dX2_readNumber_53 (fun r_53 e_53 => ?_)
              have e_53 : r_53 = dgI tx ln ((po + 1) + 1) 9 := e_53
              subst e_53
              by_cases hd2 : dgB tx ln ((po + 1) + 1) 9 = true
              ·
                refine r_top hx (show dgI tx ln ((po + 1) + 1) 9 = nI (sgN tx ln ((po + 1) + 1) - 48) from dgI_t hd2) ?_
                have hdd2 := dgB_iff.mp hd2
                refine lv_istore (lv' := [(5, .int (nI (sgN tx ln ((po + 1) + 1) - 48))), (4, .int (nI 2)), (3, .int (nI (sgN tx ln po - 48))), (0, .ref (t9 0)), (1, .int (nI a9)), (2, .int (nI b9))]) hx hb dX2_readNumber_56 hl (by decide) rfl (fun ls hl => ?_)
                refine lv_iload hx hb dX2_readNumber_58 (lv_at hl 0 rfl) ?_
                refine lv_iconst (v := (-1)) hx hb dX2_readNumber_60 kc_iconst_m1 ?_
                refine lv_icmp_eq (tgt := 78) hx hb dX2_readNumber_61 (by decide) (fun h => absurd h (nI_m1 (by omega))) (fun _ => ?_)
                refine lv_aload_n hx hb dX2_readNumber_64 rfl (lv_at hl 3 rfl) ?_
                refine r_get hx hb hts hown hw.q 0 6 hin2 rfl rfl (by decide) k31 rfl dX2_readNumber_65 ?_
                refine lv_bipush (v := nI 10) hx hb dX2_readNumber_68 kc_bipush_10 ?_
                refine r_mulN hx hb dX2_readNumber_70 ?_
                refine lv_iload hx hb dX2_readNumber_71 (lv_at hl 0 rfl) ?_
                refine r_addN hx hb dX2_readNumber_73 ?_
                refine lv_iload_n hx hb dX2_readNumber_74 rfl (lv_at hl 5 rfl) ?_
                refine r_icmp_leN (tgt := 80) hx hb (by omega) (by omega) dX2_readNumber_75 (by decide) (fun c_75 => ?_) (fun c_75 => ?_)
                ·
                  have h752 := c_75
                  refine lv_aload_n hx hb dX2_readNumber_80 rfl (lv_at hl 3 rfl) ?_
                  refine lv_dup hx hb dX2_readNumber_81 rfl ?_
                  refine r_get hx hb hts hown hw.q 0 2 hin2 rfl rfl (by decide) k19 rfl dX2_readNumber_82 ?_
                  refine lv_iconst (v := nI 1) hx hb dX2_readNumber_85 kc_iconst_1 ?_
                  refine r_addN hx hb dX2_readNumber_86 ?_
                  refine r_put hx hb hts hown hw 0 2 (ty := .int) tyX2 tyX2_ok nmX2 hin2 rfl rfl (by decide) k19 rfl (by decide +kernel) rfl rfl (Nat.le_of_ble_eq_true rfl) dX2_readNumber_87 (fun H locs hw => ?_)
                  have hw : Wd D A [(cC, .char)] (wT cC t9 tx ln (((po + 1) + 1) + 1) ki rp tg (nI (((sgN tx ln po - 48) * 10) + (sgN tx ln (po + 1) - 48)))) s s.heap H locs := hw
                  refine lv_aload_n hx hb dX2_readNumber_90 rfl (lv_at hl 3 rfl) ?_
                  refine lv_aload_n hx hb dX2_readNumber_91 rfl (lv_at hl 3 rfl) ?_
                  refine r_get hx hb hts hown hw.q 0 6 hin2 rfl rfl (by decide) k31 rfl dX2_readNumber_92 ?_
                  refine lv_bipush (v := nI 10) hx hb dX2_readNumber_95 kc_bipush_10 ?_
                  refine r_mulN hx hb dX2_readNumber_97 ?_
                  refine lv_iload hx hb dX2_readNumber_98 (lv_at hl 0 rfl) ?_
                  refine r_addN hx hb dX2_readNumber_100 ?_
                  refine r_put hx hb hts hown hw 0 6 (ty := .int) tyX2 tyX2_ok nmX2 hin2 rfl rfl (by decide) k31 rfl (by decide +kernel) rfl rfl (Nat.le_of_ble_eq_true rfl) dX2_readNumber_101 (fun H locs hw => ?_)
                  have hw : Wd D A [(cC, .char)] (wT cC t9 tx ln (((po + 1) + 1) + 1) ki rp tg (nI (((((sgN tx ln po - 48) * 10) + (sgN tx ln (po + 1) - 48)) * 10) + (sgN tx ln ((po + 1) + 1) - 48)))) s s.heap H locs := hw
                  refine lv_iinc (v := nI 3) (lv' := [(4, .int (nI 3)), (5, .int (nI (sgN tx ln ((po + 1) + 1) - 48))), (3, .int (nI (sgN tx ln po - 48))), (0, .ref (t9 0)), (1, .int (nI a9)), (2, .int (nI b9))]) hx hb dX2_readNumber_104 hl (k := 1) rfl (nI_add 2 1) (by decide) rfl (fun ls hl => ?_)
                  refine lv_goto (tgt := 37) hx hb dX2_readNumber_107 (by decide) ?_
                  refine lv_iload hx hb dX2_readNumber_37 (lv_at hl 0 rfl) ?_
                  refine lv_iconst (v := nI 3) hx hb dX2_readNumber_39 kc_iconst_3 ?_
                  refine r_icmp_geN (tgt := 110) hx hb (by decide) (by decide) dX2_readNumber_40 (by decide) (fun _ => ?_) (fun h => absurd h (by decide))
                  have hE9 : nmR tx ln po b9 = (((po + 1) + 1) + 1, (((((sgN tx ln po - 48) * 10) + (sgN tx ln (po + 1) - 48)) * 10) + (sgN tx ln ((po + 1) + 1) - 48))) := (nmF_s (f' := 2) rfl h471 hd1 h751).trans ((nmF_s (f' := 1) rfl h472 hd2 h752).trans (nmF_m (by omega)))
                  refine lv_iconst (v := nI 1) hx hb dX2_readNumber_110 kc_iconst_1 ?_
                  have ew : (wT cC t9 tx ln (((po + 1) + 1) + 1) ki rp tg (nI (((((sgN tx ln po - 48) * 10) + (sgN tx ln (po + 1) - 48)) * 10) + (sgN tx ln ((po + 1) + 1) - 48)))) = (wT cC t9 tx ln (if nmB tx ln po a9 = true then (nmR tx ln po b9).1 else po) ki rp tg (if nmB tx ln po a9 = true then nI (nmR tx ln po b9).2 else nu)) := by rw [if_pos hn, if_pos hn, hE9]
                  rw [ew] at hw
                  exact hE () dX2_readNumber_111 (by first | rfl | exact b2_nz) (Nat.le_of_ble_eq_true rfl) (Nat.le_of_ble_eq_true rfl) (hw.sub [0, 1] [] (by decide) rfl rfl) (show nI 1 = b2 (nmB tx ln po a9 = true) from ret1 hn)
                ·
                  have hE9 : nmR tx ln po b9 = ((po + 1) + 1, (((sgN tx ln po - 48) * 10) + (sgN tx ln (po + 1) - 48))) := (nmF_s (f' := 2) rfl h471 hd1 h751).trans (nmF_m c_75)
                  refine lv_iconst (v := nI 1) hx hb dX2_readNumber_78 kc_iconst_1 ?_
                  have ew : (wT cC t9 tx ln ((po + 1) + 1) ki rp tg (nI (((sgN tx ln po - 48) * 10) + (sgN tx ln (po + 1) - 48)))) = (wT cC t9 tx ln (if nmB tx ln po a9 = true then (nmR tx ln po b9).1 else po) ki rp tg (if nmB tx ln po a9 = true then nI (nmR tx ln po b9).2 else nu)) := by rw [if_pos hn, if_pos hn, hE9]
                  rw [ew] at hw
                  exact hE () dX2_readNumber_79 (by first | rfl | exact b2_nz) (Nat.le_of_ble_eq_true rfl) (Nat.le_of_ble_eq_true rfl) (hw.sub [0, 1] [] (by decide) rfl rfl) (show nI 1 = b2 (nmB tx ln po a9 = true) from ret1 hn)
              ·
                refine r_top hx (show dgI tx ln ((po + 1) + 1) 9 = (-1) from dgI_f hd2) ?_
                refine lv_istore (lv' := [(5, .int (-1)), (4, .int (nI 2)), (3, .int (nI (sgN tx ln po - 48))), (0, .ref (t9 0)), (1, .int (nI a9)), (2, .int (nI b9))]) hx hb dX2_readNumber_56 hl (by decide) rfl (fun ls hl => ?_)
                refine lv_iload hx hb dX2_readNumber_58 (lv_at hl 0 rfl) ?_
                refine lv_iconst (v := (-1)) hx hb dX2_readNumber_60 kc_iconst_m1 ?_
                refine lv_icmp_eq (tgt := 78) hx hb dX2_readNumber_61 (by decide) (fun _ => ?_) (fun h => absurd (rfl) h)
                have hE9 : nmR tx ln po b9 = ((po + 1) + 1, (((sgN tx ln po - 48) * 10) + (sgN tx ln (po + 1) - 48))) := (nmF_s (f' := 2) rfl h471 hd1 h751).trans (nmF_d hd2)
                refine lv_iconst (v := nI 1) hx hb dX2_readNumber_78 kc_iconst_1 ?_
                have ew : (wT cC t9 tx ln ((po + 1) + 1) ki rp tg (nI (((sgN tx ln po - 48) * 10) + (sgN tx ln (po + 1) - 48)))) = (wT cC t9 tx ln (if nmB tx ln po a9 = true then (nmR tx ln po b9).1 else po) ki rp tg (if nmB tx ln po a9 = true then nI (nmR tx ln po b9).2 else nu)) := by rw [if_pos hn, if_pos hn, hE9]
                rw [ew] at hw
                exact hE () dX2_readNumber_79 (by first | rfl | exact b2_nz) (Nat.le_of_ble_eq_true rfl) (Nat.le_of_ble_eq_true rfl) (hw.sub [0, 1] [] (by decide) rfl rfl) (show nI 1 = b2 (nmB tx ln po a9 = true) from ret1 hn)
          ·
            have hE9 : nmR tx ln po b9 = (po + 1, (sgN tx ln po - 48)) := nmF_m c_75
            refine lv_iconst (v := nI 1) hx hb dX2_readNumber_78 kc_iconst_1 ?_
            have ew : (wT cC t9 tx ln (po + 1) ki rp tg (nI (sgN tx ln po - 48))) = (wT cC t9 tx ln (if nmB tx ln po a9 = true then (nmR tx ln po b9).1 else po) ki rp tg (if nmB tx ln po a9 = true then nI (nmR tx ln po b9).2 else nu)) := by rw [if_pos hn, if_pos hn, hE9]
            rw [ew] at hw
            exact hE () dX2_readNumber_79 (by first | rfl | exact b2_nz) (Nat.le_of_ble_eq_true rfl) (Nat.le_of_ble_eq_true rfl) (hw.sub [0, 1] [] (by decide) rfl rfl) (show nI 1 = b2 (nmB tx ln po a9 = true) from ret1 hn)
        ·
          refine r_top hx (show dgI tx ln (po + 1) 9 = (-1) from dgI_f hd1) ?_
          refine lv_istore (lv' := [(5, .int (-1)), (4, .int (nI 1)), (3, .int (nI (sgN tx ln po - 48))), (0, .ref (t9 0)), (1, .int (nI a9)), (2, .int (nI b9))]) hx hb dX2_readNumber_56 hl (by decide) rfl (fun ls hl => ?_)
          refine lv_iload hx hb dX2_readNumber_58 (lv_at hl 0 rfl) ?_
          refine lv_iconst (v := (-1)) hx hb dX2_readNumber_60 kc_iconst_m1 ?_
          refine lv_icmp_eq (tgt := 78) hx hb dX2_readNumber_61 (by decide) (fun _ => ?_) (fun h => absurd (rfl) h)
          have hE9 : nmR tx ln po b9 = (po + 1, (sgN tx ln po - 48)) := nmF_d hd1
          refine lv_iconst (v := nI 1) hx hb dX2_readNumber_78 kc_iconst_1 ?_
          have ew : (wT cC t9 tx ln (po + 1) ki rp tg (nI (sgN tx ln po - 48))) = (wT cC t9 tx ln (if nmB tx ln po a9 = true then (nmR tx ln po b9).1 else po) ki rp tg (if nmB tx ln po a9 = true then nI (nmR tx ln po b9).2 else nu)) := by rw [if_pos hn, if_pos hn, hE9]
          rw [ew] at hw
          exact hE () dX2_readNumber_79 (by first | rfl | exact b2_nz) (Nat.le_of_ble_eq_true rfl) (Nat.le_of_ble_eq_true rfl) (hw.sub [0, 1] [] (by decide) rfl rfl) (show nI 1 = b2 (nmB tx ln po a9 = true) from ret1 hn)
    ·
      have hn : ¬ nmB tx ln po a9 = true := fun z => by have z9 := nmB_iff.mp z; omega
      refine lv_iconst (v := nI 0) hx hb dX2_readNumber_17 kc_iconst_0 ?_
      have ew : (wT cC t9 tx ln po ki rp tg nu) = (wT cC t9 tx ln (if nmB tx ln po a9 = true then (nmR tx ln po b9).1 else po) ki rp tg (if nmB tx ln po a9 = true then nI (nmR tx ln po b9).2 else nu)) := by rw [if_neg hn, if_neg hn]
      rw [ew] at hw
      exact hE () dX2_readNumber_18 (by first | rfl | exact b2_nz) (Nat.le_of_ble_eq_true rfl) (Nat.le_of_ble_eq_true rfl) (hw.sub [0, 1] [] (by decide) rfl rfl) (show nI 0 = b2 (nmB tx ln po a9 = true) from ret0 hn)
  ·
    refine r_top hx (show dgI tx ln po 9 = (-1) from dgI_f hd) ?_
    have hd0 : ¬ (48 ≤ sgN tx ln po ∧ sgN tx ln po ≤ 48 + 9) := fun z => hd (dgB_iff.mpr z)
    refine lv_istore_n (lv' := [(3, .int (-1)), (0, .ref (t9 0)), (1, .int (nI a9)), (2, .int (nI b9))]) hx hb dX2_readNumber_6 rfl hl (by decide) rfl (fun ls hl => ?_)
    refine lv_iload_n hx hb dX2_readNumber_7 rfl (lv_at hl 0 rfl) ?_
    refine lv_iconst (v := (-1)) hx hb dX2_readNumber_8 kc_iconst_m1 ?_
    refine lv_icmp_eq (tgt := 17) hx hb dX2_readNumber_9 (by decide) (fun _ => ?_) (fun h => absurd (rfl) h)
    have hn : ¬ nmB tx ln po a9 = true := fun z => by have z9 := nmB_iff.mp z; omega
    refine lv_iconst (v := nI 0) hx hb dX2_readNumber_17 kc_iconst_0 ?_
    have ew : (wT cC t9 tx ln po ki rp tg nu) = (wT cC t9 tx ln (if nmB tx ln po a9 = true then (nmR tx ln po b9).1 else po) ki rp tg (if nmB tx ln po a9 = true then nI (nmR tx ln po b9).2 else nu)) := by rw [if_neg hn, if_neg hn]
    rw [ew] at hw
    exact hE () dX2_readNumber_18 (by first | rfl | exact b2_nz) (Nat.le_of_ble_eq_true rfl) (Nat.le_of_ble_eq_true rfl) (hw.sub [0, 1] [] (by decide) rfl rfl) (show nI 0 = b2 (nmB tx ln po a9 = true) from ret0 hn)
abbrev rmX2_readArgument : Room := { frames := 2, cells := 0, slots := 0, locals := 47 }
set_option maxHeartbeats 4000000 in
set_option maxRecDepth 100000 in
theorem c_X2_readArgument (l : Launch) (D : va_G) (sz : Nat) (cC : ClassId) (t9 : Nat → Nat) (tx : Nat → Nat) (ln po : Nat) (rp tg nu : Int32) (kc : Nat) (htx : ∀ i, tx i < 127) (hln : ln ≤ 80) (hpo : po < 980) (hkc : kc < 2 ^ 31) : MUi l yX2_readArgument wsX2_readArgument rmX2_readArgument [.ref (t9 0)] D [(cC, .char)] (wT cC t9 tx ln po (nI kc) rp tg nu) sz (fun rz (u9 : Int32) => rz = b2 ((agR tx ln po kc).1 = true) ∧ ((agR tx ln po kc).1 = true → u9 = (agR tx ln po kc).2.2)) (fun u9 => []) (fun u9 => wT cC t9 tx ln ((agR tx ln po kc).2.1) (nI kc) rp tg u9) 0 0 := by
  refine met_u (own := RX2) (cc := cX2_readArgument) (maxL := 4) (ty := .boolean) (by decide) rfl rfl (Nat.le_of_ble_eq_true rfl) ?_
  intro p e s m args below meth c Q A hsz S hw hA hE ls hl
  obtain ⟨hx, hb, hml, hown, hts⟩ := id S
  have k22 := hts (.fieldLink RX2 22 "CausalTable$Text" "kind" "I") (by decide +kernel)
  have hin2 := (show ∀ w ∈ wsX20, w ∈ wsX2_readArgument by decide +kernel)
  have k31 := hts (.fieldLink RX2 31 "CausalTable$Text" "number" "I") (by decide +kernel)
  have hl : lv_has ls 4 [(0, .ref (t9 0))] := hl
  have hsg := sgN_lt htx ln po
  have hmf := mfN_b kc
  refine lv_aload_n hx hb dX2_readArgument_0 rfl (lv_at hl 0 rfl) ?_
  refine r_get hx hb hts hown hw.q 0 3 hin2 rfl rfl (by decide) k22 rfl dX2_readArgument_1 ?_
  refine lv_bipush (v := nI 97) hx hb dX2_readArgument_4 kc_bipush_97 ?_
  refine r_icmp_neN (tgt := 13) hx hb (by omega) (by omega) dX2_readArgument_6 (by decide) (fun c_6 => ?_) (fun c_6 => ?_)
  ·
    refine lv_iconst (v := nI 0) hx hb dX2_readArgument_13 kc_iconst_0 ?_
    refine lv_istore_n (lv' := [(1, .int (nI 0)), (0, .ref (t9 0))]) hx hb dX2_readArgument_14 rfl hl (by decide) rfl (fun ls hl => ?_)
    refine lv_iload_n hx hb dX2_readArgument_15 rfl (lv_at hl 0 rfl) ?_
    refine lv_if_eq (tgt := 32) hx hb dX2_readArgument_16 (by decide) (fun _ => ?_) (fun h => absurd h (by decide))
    refine lv_iconst (v := nI 0) hx hb dX2_readArgument_32 kc_iconst_0 ?_
    refine lv_istore_n (lv' := [(2, .int (nI 0)), (1, .int (nI 0)), (0, .ref (t9 0))]) hx hb dX2_readArgument_33 rfl hl (by decide) rfl (fun ls hl => ?_)
    refine lv_iload_n hx hb dX2_readArgument_34 rfl (lv_at hl 1 rfl) ?_
    refine lv_if_eq (tgt := 48) hx hb dX2_readArgument_35 (by decide) (fun _ => ?_) (fun h => absurd h (by decide))
    refine lv_aload_n hx hb dX2_readArgument_48 rfl (lv_at hl 2 rfl) ?_
    refine lv_iconst (v := nI 0) hx hb dX2_readArgument_49 kc_iconst_0 ?_
    refine lv_aload_n hx hb dX2_readArgument_50 rfl (lv_at hl 2 rfl) ?_
    refine cq_V (As := []) (rest := [.int (nI 0), .ref (t9 0)]) S (c_X2_mostForKind l D (cC := cC) (t9 := t9) (tx := tx) (ln := ln) (po := po) (rp := rp) (tg := tg) (nu := nu) (kc := kc) (htx := htx) (hln := by omega) (hpo := by omega) (hkc := by omega)) (cwV 0 hts gX2_readArgument_X2_mostForKind rfl rfl rfl (by decide +kernel) ⟨Nat.le_of_ble_eq_true rfl, Nat.le_of_ble_eq_true rfl⟩) (hw.q.sub [0, 1] [0] rfl rfl) 0 rfl rfl rfl hl.1 (Nat.le_of_ble_eq_true rfl) ⟨Nat.le_of_ble_eq_true rfl, Nat.le_of_ble_eq_true rfl⟩ rfl dX2_readArgument_51 (fun r_51 e_51 => ?_)
    have e_51 : r_51 = nI (mfN kc) := e_51
    subst e_51
    refine cu_Vi (As := [.int (nI 0), .int (nI (mfN kc))]) (rest := []) (wc := wT cC t9 tx ln po (nI kc) rp tg nu) (wr := []) S (c_X2_readNumber l D (sz := s.heap.size) (cC := cC) (t9 := t9) (tx := tx) (ln := ln) (po := po) (ki := nI kc) (rp := rp) (tg := tg) (nu := nu) (a9 := 0) (b9 := mfN kc) (htx := htx) (hln := by omega) (hpo := by omega) (ha9 := by omega) (hb9 := by omega)) (cwV 2 hts gX2_readArgument_X2_readNumber rfl rfl rfl (by decide +kernel) ⟨Nat.le_of_ble_eq_true rfl, Nat.le_of_ble_eq_true rfl⟩) hw hA [0, 1] [] [0] rfl rfl rfl (by decide) (by decide) (by decide) 0 rfl rfl rfl hl.1 (Nat.le_of_ble_eq_true rfl) ⟨Nat.le_of_ble_eq_true rfl, Nat.le_of_ble_eq_true rfl⟩ rfl dX2_readArgument_54 (fun r_54 u_54 H locs e_54 hw => ?_)
    have hw : Wd D A [(cC, .char)] (wT cC t9 tx ln (if nmB tx ln po 0 = true then (nmR tx ln po (mfN kc)).1 else po) (nI kc) rp tg (if nmB tx ln po 0 = true then nI (nmR tx ln po (mfN kc)).2 else nu)) s s.heap H locs := hw
    have e_54 : r_54 = b2 (nmB tx ln po 0 = true) := e_54
    subst e_54
    refine lv_istore_n (lv' := [(3, .int (b2 (nmB tx ln po 0 = true))), (2, .int (nI 0)), (1, .int (nI 0)), (0, .ref (t9 0))]) hx hb dX2_readArgument_57 rfl hl (by decide) rfl (fun ls hl => ?_)
    refine lv_iload_n hx hb dX2_readArgument_58 rfl (lv_at hl 1 rfl) ?_
    refine lv_if_eq (tgt := 71) hx hb dX2_readArgument_59 (by decide) (fun _ => ?_) (fun h => absurd h (by decide))
    refine lv_iload_n hx hb dX2_readArgument_71 rfl (lv_at hl 0 rfl) ?_
    have hr9 : (agR tx ln po kc) = (nmB tx ln po 0, if nmB tx ln po 0 = true then (nmR tx ln po (mfN kc)).1 else po, nI (nmR tx ln po (mfN kc)).2) := by rw [agR, if_neg c_6, arN]
    have hw : Wd D A [(cC, .char)] (wT cC t9 tx ln ((agR tx ln po kc).2.1) (nI kc) rp tg (if nmB tx ln po 0 = true then nI (nmR tx ln po (mfN kc)).2 else nu)) s s.heap H locs := by rw [hr9]; exact hw
    exact hE (if nmB tx ln po 0 = true then nI (nmR tx ln po (mfN kc)).2 else nu) dX2_readArgument_72 (by first | rfl | exact b2_nz) (Nat.le_of_ble_eq_true rfl) (Nat.le_of_ble_eq_true rfl) (hw.sub [0, 1] [] (by decide) rfl rfl) ⟨by rw [hr9], fun h9 => by
        rw [hr9] at h9 ⊢
        have h8 : nmB tx ln po 0 = true := h9
        rw [if_pos h8]⟩
  ·
    refine lv_iconst (v := nI 1) hx hb dX2_readArgument_9 kc_iconst_1 ?_
    refine lv_goto (tgt := 14) hx hb dX2_readArgument_10 (by decide) ?_
    refine lv_istore_n (lv' := [(1, .int (nI 1)), (0, .ref (t9 0))]) hx hb dX2_readArgument_14 rfl hl (by decide) rfl (fun ls hl => ?_)
    refine lv_iload_n hx hb dX2_readArgument_15 rfl (lv_at hl 0 rfl) ?_
    refine lv_if_eq (tgt := 32) hx hb dX2_readArgument_16 (by decide) (fun h => absurd h (by decide)) (fun _ => ?_)
    refine lv_aload_n hx hb dX2_readArgument_19 rfl (lv_at hl 1 rfl) ?_
    refine lv_bipush (v := nI 45) hx hb dX2_readArgument_20 kc_bipush_45 ?_
    refine cu_Vi (As := [.int (nI 45)]) (rest := []) (wc := wT cC t9 tx ln po (nI kc) rp tg nu) (wr := []) S (c_X2_readCharacter l D (sz := s.heap.size) (cC := cC) (t9 := t9) (tx := tx) (ln := ln) (po := po) (ki := nI kc) (rp := rp) (tg := tg) (nu := nu) (c9 := 45) (htx := htx) (hln := by omega) (hpo := by omega) (h0c := by omega) (h1c := by omega)) (cwV 1 hts gX2_readArgument_X2_readCharacter rfl rfl rfl (by decide +kernel) ⟨Nat.le_of_ble_eq_true rfl, Nat.le_of_ble_eq_true rfl⟩) hw hA [0, 1] [] [0] rfl rfl rfl (by decide) (by decide) (by decide) 0 rfl rfl rfl hl.1 (Nat.le_of_ble_eq_true rfl) ⟨Nat.le_of_ble_eq_true rfl, Nat.le_of_ble_eq_true rfl⟩ rfl dX2_readArgument_22 (fun r_22 u_22 H locs e_22 hw => ?_)
    have hw : Wd D A [(cC, .char)] (wT cC t9 tx ln (po + (if sgN tx ln po = 45 then 1 else 0)) (nI kc) rp tg nu) s s.heap H locs := hw
    have e_22 : r_22 = b2 (sgN tx ln po = 45) := e_22
    subst e_22
    by_cases hm : sgN tx ln po = 45
    ·
      have hw : Wd D A [(cC, .char)] (wT cC t9 tx ln (po + 1) (nI kc) rp tg nu) s s.heap H locs := Eq.mp (congrArg (fun z9 => Wd D A [(cC, .char)] (wT cC t9 tx ln z9 (nI kc) rp tg nu) s s.heap H locs) (show po + (if sgN tx ln po = 45 then 1 else 0) = po + 1 from by rw [if_pos hm])) hw
      refine r_if_eqB (tgt := 32) hx hb dX2_readArgument_25 (by decide) (fun h => absurd (hm) h) (fun _ => ?_)
      refine lv_iconst (v := nI 1) hx hb dX2_readArgument_28 kc_iconst_1 ?_
      refine lv_goto (tgt := 33) hx hb dX2_readArgument_29 (by decide) ?_
      refine lv_istore_n (lv' := [(2, .int (nI 1)), (1, .int (nI 1)), (0, .ref (t9 0))]) hx hb dX2_readArgument_33 rfl hl (by decide) rfl (fun ls hl => ?_)
      refine lv_iload_n hx hb dX2_readArgument_34 rfl (lv_at hl 1 rfl) ?_
      refine lv_if_eq (tgt := 48) hx hb dX2_readArgument_35 (by decide) (fun h => absurd h (by decide)) (fun _ => ?_)
      refine lv_aload_n hx hb dX2_readArgument_38 rfl (lv_at hl 2 rfl) ?_
      refine lv_iconst (v := nI 1) hx hb dX2_readArgument_39 kc_iconst_1 ?_
      refine lv_bipush (v := nI 99) hx hb dX2_readArgument_40 kc_bipush_99 ?_
      refine cu_Vi (As := [.int (nI 1), .int (nI 99)]) (rest := []) (wc := wT cC t9 tx ln (po + 1) (nI kc) rp tg nu) (wr := []) S (c_X2_readNumber l D (sz := H.size) (cC := cC) (t9 := t9) (tx := tx) (ln := ln) (po := po + 1) (ki := (nI kc)) (rp := rp) (tg := tg) (nu := nu) (a9 := 1) (b9 := 99) (htx := htx) (hln := by omega) (hpo := by omega) (ha9 := by omega) (hb9 := by omega)) (cwV 2 hts gX2_readArgument_X2_readNumber rfl rfl rfl (by decide +kernel) ⟨Nat.le_of_ble_eq_true rfl, Nat.le_of_ble_eq_true rfl⟩) hw hA [0, 1] [] [0] rfl rfl rfl (by decide) (by decide) (by decide) 0 rfl rfl rfl hl.1 (Nat.le_of_ble_eq_true rfl) ⟨Nat.le_of_ble_eq_true rfl, Nat.le_of_ble_eq_true rfl⟩ rfl dX2_readArgument_42 (fun r_42 u_42 H locs e_42 hw => ?_)
      have hw : Wd D A [(cC, .char)] (wT cC t9 tx ln (if nmB tx ln (po + 1) 1 = true then (nmR tx ln (po + 1) 99).1 else (po + 1)) (nI kc) rp tg (if nmB tx ln (po + 1) 1 = true then nI (nmR tx ln (po + 1) 99).2 else nu)) s s.heap H locs := hw
      have e_42 : r_42 = b2 (nmB tx ln (po + 1) 1 = true) := e_42
      subst e_42
      refine lv_goto (tgt := 57) hx hb dX2_readArgument_45 (by decide) ?_
      refine lv_istore_n (lv' := [(3, .int (b2 (nmB tx ln (po + 1) 1 = true))), (2, .int (nI 1)), (1, .int (nI 1)), (0, .ref (t9 0))]) hx hb dX2_readArgument_57 rfl hl (by decide) rfl (fun ls hl => ?_)
      refine lv_iload_n hx hb dX2_readArgument_58 rfl (lv_at hl 1 rfl) ?_
      refine lv_if_eq (tgt := 71) hx hb dX2_readArgument_59 (by decide) (fun h => absurd h (by decide)) (fun _ => ?_)
      refine lv_aload_n hx hb dX2_readArgument_62 rfl (lv_at hl 3 rfl) ?_
      refine lv_aload_n hx hb dX2_readArgument_63 rfl (lv_at hl 3 rfl) ?_
      refine r_get hx hb hts hown hw.q 0 6 hin2 rfl rfl (by decide) k31 rfl dX2_readArgument_64 ?_
      refine lv_ineg hx hb dX2_readArgument_67 ?_
      refine r_put hx hb hts hown hw 0 6 (ty := .int) tyX2 tyX2_ok nmX2 hin2 rfl rfl (by decide) k31 rfl (by decide +kernel) rfl rfl (Nat.le_of_ble_eq_true rfl) dX2_readArgument_68 (fun H locs hw => ?_)
      have hw : Wd D A [(cC, .char)] (wT cC t9 tx ln (if nmB tx ln (po + 1) 1 = true then (nmR tx ln (po + 1) 99).1 else (po + 1)) (nI kc) rp tg (-(if nmB tx ln (po + 1) 1 = true then nI (nmR tx ln (po + 1) 99).2 else nu))) s s.heap H locs := hw
      refine lv_iload_n hx hb dX2_readArgument_71 rfl (lv_at hl 0 rfl) ?_
      have hr9 : (agR tx ln po kc) = (nmB tx ln (po + 1) 1, if nmB tx ln (po + 1) 1 = true then (nmR tx ln (po + 1) 99).1 else po + 1, -nI (nmR tx ln (po + 1) 99).2) := by rw [agR, if_pos c_6, arA, p1N_t hm, if_pos hm]
      have hw : Wd D A [(cC, .char)] (wT cC t9 tx ln ((agR tx ln po kc).2.1) (nI kc) rp tg (-(if nmB tx ln (po + 1) 1 = true then nI (nmR tx ln (po + 1) 99).2 else nu))) s s.heap H locs := by rw [hr9]; exact hw
      exact hE (-(if nmB tx ln (po + 1) 1 = true then nI (nmR tx ln (po + 1) 99).2 else nu)) dX2_readArgument_72 (by first | rfl | exact b2_nz) (Nat.le_of_ble_eq_true rfl) (Nat.le_of_ble_eq_true rfl) (hw.sub [0, 1] [] (by decide) rfl rfl) ⟨by rw [hr9], fun h9 => by
          rw [hr9] at h9 ⊢
          have h8 : nmB tx ln (po + 1) 1 = true := h9
          rw [if_pos h8]⟩
    ·
      have hw : Wd D A [(cC, .char)] (wT cC t9 tx ln po (nI kc) rp tg nu) s s.heap H locs := Eq.mp (congrArg (fun z9 => Wd D A [(cC, .char)] (wT cC t9 tx ln z9 (nI kc) rp tg nu) s s.heap H locs) (show po + (if sgN tx ln po = 45 then 1 else 0) = po from by rw [if_neg hm]; rfl)) hw
      refine r_if_eqB (tgt := 32) hx hb dX2_readArgument_25 (by decide) (fun _ => ?_) (fun h => absurd h (hm))
      refine lv_iconst (v := nI 0) hx hb dX2_readArgument_32 kc_iconst_0 ?_
      refine lv_istore_n (lv' := [(2, .int (nI 0)), (1, .int (nI 1)), (0, .ref (t9 0))]) hx hb dX2_readArgument_33 rfl hl (by decide) rfl (fun ls hl => ?_)
      refine lv_iload_n hx hb dX2_readArgument_34 rfl (lv_at hl 1 rfl) ?_
      refine lv_if_eq (tgt := 48) hx hb dX2_readArgument_35 (by decide) (fun h => absurd h (by decide)) (fun _ => ?_)
      refine lv_aload_n hx hb dX2_readArgument_38 rfl (lv_at hl 2 rfl) ?_
      refine lv_iconst (v := nI 1) hx hb dX2_readArgument_39 kc_iconst_1 ?_
      refine lv_bipush (v := nI 99) hx hb dX2_readArgument_40 kc_bipush_99 ?_
      refine cu_Vi (As := [.int (nI 1), .int (nI 99)]) (rest := []) (wc := wT cC t9 tx ln po (nI kc) rp tg nu) (wr := []) S (c_X2_readNumber l D (sz := H.size) (cC := cC) (t9 := t9) (tx := tx) (ln := ln) (po := po) (ki := (nI kc)) (rp := rp) (tg := tg) (nu := nu) (a9 := 1) (b9 := 99) (htx := htx) (hln := by omega) (hpo := by omega) (ha9 := by omega) (hb9 := by omega)) (cwV 2 hts gX2_readArgument_X2_readNumber rfl rfl rfl (by decide +kernel) ⟨Nat.le_of_ble_eq_true rfl, Nat.le_of_ble_eq_true rfl⟩) hw hA [0, 1] [] [0] rfl rfl rfl (by decide) (by decide) (by decide) 0 rfl rfl rfl hl.1 (Nat.le_of_ble_eq_true rfl) ⟨Nat.le_of_ble_eq_true rfl, Nat.le_of_ble_eq_true rfl⟩ rfl dX2_readArgument_42 (fun r_42 u_42 H locs e_42 hw => ?_)
      have hw : Wd D A [(cC, .char)] (wT cC t9 tx ln (if nmB tx ln po 1 = true then (nmR tx ln po 99).1 else po) (nI kc) rp tg (if nmB tx ln po 1 = true then nI (nmR tx ln po 99).2 else nu)) s s.heap H locs := hw
      have e_42 : r_42 = b2 (nmB tx ln po 1 = true) := e_42
      subst e_42
      refine lv_goto (tgt := 57) hx hb dX2_readArgument_45 (by decide) ?_
      refine lv_istore_n (lv' := [(3, .int (b2 (nmB tx ln po 1 = true))), (2, .int (nI 0)), (1, .int (nI 1)), (0, .ref (t9 0))]) hx hb dX2_readArgument_57 rfl hl (by decide) rfl (fun ls hl => ?_)
      refine lv_iload_n hx hb dX2_readArgument_58 rfl (lv_at hl 1 rfl) ?_
      refine lv_if_eq (tgt := 71) hx hb dX2_readArgument_59 (by decide) (fun _ => ?_) (fun h => absurd h (by decide))
      refine lv_iload_n hx hb dX2_readArgument_71 rfl (lv_at hl 0 rfl) ?_
      have hr9 : (agR tx ln po kc) = (nmB tx ln (po) 1, if nmB tx ln (po) 1 = true then (nmR tx ln (po) 99).1 else po, nI (nmR tx ln (po) 99).2) := by rw [agR, if_pos c_6, arA, p1N_f hm, if_neg hm]
      have hw : Wd D A [(cC, .char)] (wT cC t9 tx ln ((agR tx ln po kc).2.1) (nI kc) rp tg (if nmB tx ln po 1 = true then nI (nmR tx ln po 99).2 else nu)) s s.heap H locs := by rw [hr9]; exact hw
      exact hE (if nmB tx ln po 1 = true then nI (nmR tx ln po 99).2 else nu) dX2_readArgument_72 (by first | rfl | exact b2_nz) (Nat.le_of_ble_eq_true rfl) (Nat.le_of_ble_eq_true rfl) (hw.sub [0, 1] [] (by decide) rfl rfl) ⟨by rw [hr9], fun h9 => by
          rw [hr9] at h9 ⊢
          have h8 : nmB tx ln po 1 = true := h9
          rw [if_pos h8]⟩
abbrev rmX2_readOtherReplica : Room := { frames := 2, cells := 0, slots := 0, locals := 44 }
set_option maxHeartbeats 4000000 in
set_option maxRecDepth 100000 in
theorem c_X2_readOtherReplica (l : Launch) (D : va_G) (sz : Nat) (cC : ClassId) (t9 : Nat → Nat) (tx : Nat → Nat) (ln po : Nat) (ki tg nu : Int32) (fd : Nat) (htx : ∀ i, tx i < 127) (hln : ln ≤ 80) (hpo : po < 990) (hfd : fd < 1000) : MUi l yX2_readOtherReplica wsX2_readOtherReplica rmX2_readOtherReplica [.ref (t9 0)] D [(cC, .char)] (wT cC t9 tx ln po ki (nI fd) tg nu) sz (fun rz (u9 : Int32) => rz = b2 ((roR tx ln po fd).1 = true) ∧ ((roR tx ln po fd).1 = true → u9 = (roR tx ln po fd).2.2)) (fun u9 => []) (fun u9 => wT cC t9 tx ln ((roR tx ln po fd).2.1) ki (nI fd) u9 nu) 0 0 := by
  refine met_u (own := RX2) (cc := cX2_readOtherReplica) (maxL := 1) (ty := .boolean) (by decide) rfl rfl (Nat.le_of_ble_eq_true rfl) ?_
  intro p e s m args below meth c Q A hsz S hw hA hE ls hl
  obtain ⟨hx, hb, hml, hown, hts⟩ := id S
  have k25 := hts (.fieldLink RX2 25 "CausalTable$Text" "replica" "I") (by decide +kernel)
  have hin2 := (show ∀ w ∈ wsX20, w ∈ wsX2_readOtherReplica by decide +kernel)
  have k28 := hts (.fieldLink RX2 28 "CausalTable$Text" "target" "I") (by decide +kernel)
  have hl : lv_has ls 1 [(0, .ref (t9 0))] := hl
  have hsg := sgN_lt htx ln po
  refine lv_aload_n hx hb dX2_readOtherReplica_0 rfl (lv_at hl 0 rfl) ?_
  refine lv_iconst (v := nI 3) hx hb dX2_readOtherReplica_1 kc_iconst_3 ?_
  refine cq_V (As := [.int (nI 3)]) (rest := []) S (c_X2_nextDigit l D (cC := cC) (t9 := t9) (tx := tx) (ln := ln) (po := po) (ki := ki) (rp := nI fd) (tg := tg) (nu := nu) (d9 := 3) (htx := htx) (hln := by omega) (hpo := by omega) (hd9 := by omega)) (cwV 1 hts gX2_readOtherReplica_X2_nextDigit rfl rfl rfl (by decide +kernel) ⟨Nat.le_of_ble_eq_true rfl, Nat.le_of_ble_eq_true rfl⟩) (hw.q.sub [0, 1] [0] rfl rfl) 0 rfl rfl rfl hl.1 (Nat.le_of_ble_eq_true rfl) ⟨Nat.le_of_ble_eq_true rfl, Nat.le_of_ble_eq_true rfl⟩ rfl dX2_readOtherReplica_2 (fun r_2 e_2 => ?_)
  have e_2 : r_2 = dgI tx ln po 3 := e_2
  subst e_2
  by_cases h1 : dgB tx ln po 3 = true
  ·
    refine r_top hx (show dgI tx ln po 3 = nI (sgN tx ln po - 48) from dgI_t h1) ?_
    refine lv_aload_n hx hb dX2_readOtherReplica_5 rfl (lv_at hl 0 rfl) ?_
    refine r_get hx hb hts hown hw.q 0 4 hin2 rfl rfl (by decide) k25 rfl dX2_readOtherReplica_6 ?_
    refine r_icmp_neN (tgt := 14) hx hb (by omega) (by omega) dX2_readOtherReplica_9 (by decide) (fun c_9 => ?_) (fun c_9 => ?_)
    ·
      refine lv_aload_n hx hb dX2_readOtherReplica_14 rfl (lv_at hl 0 rfl) ?_
      refine lv_aload_n hx hb dX2_readOtherReplica_15 rfl (lv_at hl 0 rfl) ?_
      refine lv_iconst (v := nI 3) hx hb dX2_readOtherReplica_16 kc_iconst_3 ?_
      refine cu_Vi (As := [.int (nI 3)]) (rest := [.ref (t9 0)]) (wc := wT cC t9 tx ln po ki (nI fd) tg nu) (wr := []) S (c_X2_readDigit l D (sz := s.heap.size) (cC := cC) (t9 := t9) (tx := tx) (ln := ln) (po := po) (ki := ki) (rp := nI fd) (tg := tg) (nu := nu) (d9 := 3) (htx := htx) (hln := by omega) (hpo := by omega) (hd9 := by omega)) (cwV 1 hts gX2_readOtherReplica_X2_readDigit rfl rfl rfl (by decide +kernel) ⟨Nat.le_of_ble_eq_true rfl, Nat.le_of_ble_eq_true rfl⟩) hw hA [0, 1] [] [0] rfl rfl rfl (by decide) (by decide) (by decide) 0 rfl rfl rfl hl.1 (Nat.le_of_ble_eq_true rfl) ⟨Nat.le_of_ble_eq_true rfl, Nat.le_of_ble_eq_true rfl⟩ rfl dX2_readOtherReplica_17 (fun r_17 u_17 H locs e_17 hw => ?_)
      have hw : Wd D A [(cC, .char)] (wT cC t9 tx ln (po + (if dgB tx ln po 3 = true then 1 else 0)) ki (nI fd) tg nu) s s.heap H locs := hw
      have e_17 : r_17 = dgI tx ln po 3 := e_17
      subst e_17
      refine r_top hx (show dgI tx ln po 3 = nI (sgN tx ln po - 48) from dgI_t h1) ?_
      have hw : Wd D A [(cC, .char)] (wT cC t9 tx ln (po + 1) ki (nI fd) tg nu) s s.heap H locs := Eq.mp (congrArg (fun z9 => Wd D A [(cC, .char)] (wT cC t9 tx ln z9 ki (nI fd) tg nu) s s.heap H locs) (show po + (if dgB tx ln po 3 = true then 1 else 0) = po + 1 from by rw [if_pos h1])) hw
      refine r_put hx hb hts hown hw 0 5 (ty := .int) tyX2 tyX2_ok nmX2 hin2 rfl rfl (by decide) k28 rfl (by decide +kernel) rfl rfl (Nat.le_of_ble_eq_true rfl) dX2_readOtherReplica_20 (fun H locs hw => ?_)
      have hw : Wd D A [(cC, .char)] (wT cC t9 tx ln (po + 1) ki (nI fd) (nI (sgN tx ln po - 48)) nu) s s.heap H locs := hw
      refine lv_aload_n hx hb dX2_readOtherReplica_23 rfl (lv_at hl 0 rfl) ?_
      refine r_get hx hb hts hown hw.q 0 5 hin2 rfl rfl (by decide) k28 rfl dX2_readOtherReplica_24 ?_
      refine lv_iconst (v := (-1)) hx hb dX2_readOtherReplica_27 kc_iconst_m1 ?_
      refine lv_icmp_eq (tgt := 35) hx hb dX2_readOtherReplica_28 (by decide) (fun h => absurd h (nI_m1 (by omega))) (fun _ => ?_)
      refine lv_iconst (v := nI 1) hx hb dX2_readOtherReplica_31 kc_iconst_1 ?_
      refine lv_goto (tgt := 36) hx hb dX2_readOtherReplica_32 (by decide) ?_
      have hr9 : (roR tx ln po fd) = (true, po + 1, nI (sgN tx ln po - 48)) := by rw [roR, if_pos ⟨h1, c_9⟩]
      have hw : Wd D A [(cC, .char)] (wT cC t9 tx ln ((roR tx ln po fd).2.1) ki (nI fd) (nI (sgN tx ln po - 48)) nu) s s.heap H locs := by rw [hr9]; exact hw
      exact hE (nI (sgN tx ln po - 48)) dX2_readOtherReplica_36 (by first | rfl | exact b2_nz) (Nat.le_of_ble_eq_true rfl) (Nat.le_of_ble_eq_true rfl) (hw.sub [0, 1] [] (by decide) rfl rfl) ⟨by rw [hr9]; exact ret1 rfl, fun h9 => by
          rw [hr9]⟩
    ·
      refine lv_iconst (v := nI 0) hx hb dX2_readOtherReplica_12 kc_iconst_0 ?_
      have hr9 : (roR tx ln po fd) = (false, po, 0) := by rw [roR, if_neg (fun z => z.2 c_9)]
      have hw : Wd D A [(cC, .char)] (wT cC t9 tx ln ((roR tx ln po fd).2.1) ki (nI fd) tg nu) s s.heap s.heap [] := by rw [hr9]; exact hw
      exact hE (tg) dX2_readOtherReplica_13 (by first | rfl | exact b2_nz) (Nat.le_of_ble_eq_true rfl) (Nat.le_of_ble_eq_true rfl) (hw.sub [0, 1] [] (by decide) rfl rfl) ⟨by rw [hr9]; exact ret0 Bool.false_ne_true, fun h9 => by
          rw [hr9] at h9
          exact absurd h9 Bool.false_ne_true⟩
  ·
    refine r_top hx (show dgI tx ln po 3 = (-1) from dgI_f h1) ?_
    refine lv_aload_n hx hb dX2_readOtherReplica_5 rfl (lv_at hl 0 rfl) ?_
    refine r_get hx hb hts hown hw.q 0 4 hin2 rfl rfl (by decide) k25 rfl dX2_readOtherReplica_6 ?_
    refine lv_icmp_ne (tgt := 14) hx hb dX2_readOtherReplica_9 (by decide) (fun _ => ?_) (fun h => absurd h (fun z => nI_m1 (by omega) z.symm))
    refine lv_aload_n hx hb dX2_readOtherReplica_14 rfl (lv_at hl 0 rfl) ?_
    refine lv_aload_n hx hb dX2_readOtherReplica_15 rfl (lv_at hl 0 rfl) ?_
    refine lv_iconst (v := nI 3) hx hb dX2_readOtherReplica_16 kc_iconst_3 ?_
    refine cu_Vi (As := [.int (nI 3)]) (rest := [.ref (t9 0)]) (wc := wT cC t9 tx ln po ki (nI fd) tg nu) (wr := []) S (c_X2_readDigit l D (sz := s.heap.size) (cC := cC) (t9 := t9) (tx := tx) (ln := ln) (po := po) (ki := ki) (rp := nI fd) (tg := tg) (nu := nu) (d9 := 3) (htx := htx) (hln := by omega) (hpo := by omega) (hd9 := by omega)) (cwV 1 hts gX2_readOtherReplica_X2_readDigit rfl rfl rfl (by decide +kernel) ⟨Nat.le_of_ble_eq_true rfl, Nat.le_of_ble_eq_true rfl⟩) hw hA [0, 1] [] [0] rfl rfl rfl (by decide) (by decide) (by decide) 0 rfl rfl rfl hl.1 (Nat.le_of_ble_eq_true rfl) ⟨Nat.le_of_ble_eq_true rfl, Nat.le_of_ble_eq_true rfl⟩ rfl dX2_readOtherReplica_17 (fun r_17 u_17 H locs e_17 hw => ?_)
    have hw : Wd D A [(cC, .char)] (wT cC t9 tx ln (po + (if dgB tx ln po 3 = true then 1 else 0)) ki (nI fd) tg nu) s s.heap H locs := hw
    have e_17 : r_17 = dgI tx ln po 3 := e_17
    subst e_17
    refine r_top hx (show dgI tx ln po 3 = (-1) from dgI_f h1) ?_
    have hw : Wd D A [(cC, .char)] (wT cC t9 tx ln po ki (nI fd) tg nu) s s.heap H locs := Eq.mp (congrArg (fun z9 => Wd D A [(cC, .char)] (wT cC t9 tx ln z9 ki (nI fd) tg nu) s s.heap H locs) (show po + (if dgB tx ln po 3 = true then 1 else 0) = po from by rw [if_neg h1] <;> rfl)) hw
    refine r_put hx hb hts hown hw 0 5 (ty := .int) tyX2 tyX2_ok nmX2 hin2 rfl rfl (by decide) k28 rfl (by decide +kernel) rfl rfl (Nat.le_of_ble_eq_true rfl) dX2_readOtherReplica_20 (fun H locs hw => ?_)
    have hw : Wd D A [(cC, .char)] (wT cC t9 tx ln po ki (nI fd) (-1) nu) s s.heap H locs := hw
    refine lv_aload_n hx hb dX2_readOtherReplica_23 rfl (lv_at hl 0 rfl) ?_
    refine r_get hx hb hts hown hw.q 0 5 hin2 rfl rfl (by decide) k28 rfl dX2_readOtherReplica_24 ?_
    refine lv_iconst (v := (-1)) hx hb dX2_readOtherReplica_27 kc_iconst_m1 ?_
    refine lv_icmp_eq (tgt := 35) hx hb dX2_readOtherReplica_28 (by decide) (fun _ => ?_) (fun h => absurd (rfl) h)
    refine lv_iconst (v := nI 0) hx hb dX2_readOtherReplica_35 kc_iconst_0 ?_
    have hr9 : (roR tx ln po fd) = (false, po, 0) := by rw [roR, if_neg (fun z => h1 z.1)]
    have hw : Wd D A [(cC, .char)] (wT cC t9 tx ln ((roR tx ln po fd).2.1) ki (nI fd) (-1) nu) s s.heap H locs := by rw [hr9]; exact hw
    exact hE ((-1)) dX2_readOtherReplica_36 (by first | rfl | exact b2_nz) (Nat.le_of_ble_eq_true rfl) (Nat.le_of_ble_eq_true rfl) (hw.sub [0, 1] [] (by decide) rfl rfl) ⟨by rw [hr9]; exact ret0 Bool.false_ne_true, fun h9 => by
        rw [hr9] at h9
        exact absurd h9 Bool.false_ne_true⟩
abbrev rmX2_readCommand : Room := { frames := 3, cells := 0, slots := 0, locals := 70 }
set_option maxHeartbeats 4000000 in
set_option maxRecDepth 100000 in
theorem c_X2_readCommand (l : Launch) (D : va_G) (sz : Nat) (cC : ClassId) (t9 : Nat → Nat) (tx : Nat → Nat) (ln po : Nat) (ki rp tg nu : Int32)  (htx : ∀ i, tx i < 127) (hln : ln ≤ 80) (hpo : po < 970)  : MUi l yX2_readCommand wsX2_readCommand rmX2_readCommand [.ref (t9 0)] D [(cC, .char)] (wT cC t9 tx ln po ki rp tg nu) sz (fun rz (u9 : Int32 × Int32 × Int32 × Int32) => rz = b2 ((rcC tx ln po).1 = true) ∧ cmP tx ln po u9.1 u9.2.1 u9.2.2.1 u9.2.2.2 (rcC tx ln po)) (fun u9 => []) (fun u9 => wT cC t9 tx ln ((rcC tx ln po).2.1) u9.1 u9.2.1 u9.2.2.1 u9.2.2.2) 0 0 := by
  refine met_u (own := RX2) (cc := cX2_readCommand) (maxL := 1) (ty := .boolean) (by decide) rfl rfl (Nat.le_of_ble_eq_true rfl) ?_
  intro p e s m args below meth c Q A hsz S hw hA hE ls hl
  obtain ⟨hx, hb, hml, hown, hts⟩ := id S
  have k31 := hts (.fieldLink RX2 31 "CausalTable$Text" "number" "I") (by decide +kernel)
  have hin2 := (show ∀ w ∈ wsX20, w ∈ wsX2_readCommand by decide +kernel)
  have k25 := hts (.fieldLink RX2 25 "CausalTable$Text" "replica" "I") (by decide +kernel)
  have k22 := hts (.fieldLink RX2 22 "CausalTable$Text" "kind" "I") (by decide +kernel)
  have k28 := hts (.fieldLink RX2 28 "CausalTable$Text" "target" "I") (by decide +kernel)
  have hl : lv_has ls 1 [(0, .ref (t9 0))] := hl
  have hsg := sgN_lt htx ln po
  have hsg1 := sgN_lt htx ln (po + 1)
  have hsg2 := sgN_lt htx ln (po + 1 + 1)
  refine lv_aload_n hx hb dX2_readCommand_0 rfl (lv_at hl 0 rfl) ?_
  refine lv_iconst (v := nI 0) hx hb dX2_readCommand_1 kc_iconst_0 ?_
  refine r_put hx hb hts hown hw 0 6 (ty := .int) tyX2 tyX2_ok nmX2 hin2 rfl rfl (by decide) k31 rfl (by decide +kernel) rfl rfl (Nat.le_of_ble_eq_true rfl) dX2_readCommand_2 (fun H locs hw => ?_)
  have hw : Wd D A [(cC, .char)] (wT cC t9 tx ln po ki rp tg (nI 0)) s s.heap H locs := hw
  refine lv_aload_n hx hb dX2_readCommand_5 rfl (lv_at hl 0 rfl) ?_
  refine cu_Vi (As := []) (rest := []) (wc := wT cC t9 tx ln po ki rp tg (nI 0)) (wr := []) S (c_X2_readKind l D (sz := H.size) (cC := cC) (t9 := t9) (tx := tx) (ln := ln) (po := po) (ki := ki) (rp := rp) (tg := tg) (nu := nI 0) (htx := htx) (hln := by omega) (hpo := by omega)) (cwV 0 hts gX2_readCommand_X2_readKind rfl rfl rfl (by decide +kernel) ⟨Nat.le_of_ble_eq_true rfl, Nat.le_of_ble_eq_true rfl⟩) hw hA [0, 1] [] [0] rfl rfl rfl (by decide) (by decide) (by decide) 0 rfl rfl rfl hl.1 (Nat.le_of_ble_eq_true rfl) ⟨Nat.le_of_ble_eq_true rfl, Nat.le_of_ble_eq_true rfl⟩ rfl dX2_readCommand_6 (fun r_6 u_6 H locs e_6 hw => ?_)
  have hw : Wd D A [(cC, .char)] (wT cC t9 tx ln (po + (if kdB (sgN tx ln po) = true then 1 else 0)) (ncI tx ln po) rp tg (nI 0)) s s.heap H locs := hw
  have e_6 : r_6 = b2 (kdB (sgN tx ln po) = true) := e_6
  subst e_6
  by_cases hk : kdB (sgN tx ln po) = true
  ·
    have hw : Wd D A [(cC, .char)] (wT cC t9 tx ln (po + 1) (ncI tx ln po) rp tg (nI 0)) s s.heap H locs := Eq.mp (congrArg (fun z9 => Wd D A [(cC, .char)] (wT cC t9 tx ln z9 (ncI tx ln po) rp tg (nI 0)) s s.heap H locs) (show po + (if kdB (sgN tx ln po) = true then 1 else 0) = po + 1 from by rw [if_pos hk])) hw
    have hw : Wd D A [(cC, .char)] (wT cC t9 tx ln (po + 1) (nI (sgN tx ln po)) rp tg (nI 0)) s s.heap H locs := Eq.mp (congrArg (fun z9 => Wd D A [(cC, .char)] (wT cC t9 tx ln (po + 1) z9 rp tg (nI 0)) s s.heap H locs) (show ncI tx ln po = nI (sgN tx ln po) from nc_k hk)) hw
    refine r_if_neB (tgt := 14) hx hb dX2_readCommand_9 (by decide) (fun _ => ?_) (fun h => absurd (hk) h)
    refine lv_aload_n hx hb dX2_readCommand_14 rfl (lv_at hl 0 rfl) ?_
    refine lv_aload_n hx hb dX2_readCommand_15 rfl (lv_at hl 0 rfl) ?_
    refine lv_iconst (v := nI 3) hx hb dX2_readCommand_16 kc_iconst_3 ?_
    refine cu_Vi (As := [.int (nI 3)]) (rest := [.ref (t9 0)]) (wc := wT cC t9 tx ln (po + 1) (nI (sgN tx ln po)) rp tg (nI 0)) (wr := []) S (c_X2_readDigit l D (sz := H.size) (cC := cC) (t9 := t9) (tx := tx) (ln := ln) (po := po + 1) (ki := nI (sgN tx ln po)) (rp := rp) (tg := tg) (nu := (nI 0)) (d9 := 3) (htx := htx) (hln := by omega) (hpo := by omega) (hd9 := by omega)) (cwV 1 hts gX2_readCommand_X2_readDigit rfl rfl rfl (by decide +kernel) ⟨Nat.le_of_ble_eq_true rfl, Nat.le_of_ble_eq_true rfl⟩) hw hA [0, 1] [] [0] rfl rfl rfl (by decide) (by decide) (by decide) 0 rfl rfl rfl hl.1 (Nat.le_of_ble_eq_true rfl) ⟨Nat.le_of_ble_eq_true rfl, Nat.le_of_ble_eq_true rfl⟩ rfl dX2_readCommand_17 (fun r_17 u_17 H locs e_17 hw => ?_)
    have hw : Wd D A [(cC, .char)] (wT cC t9 tx ln ((po + 1) + (if dgB tx ln (po + 1) 3 = true then 1 else 0)) (nI (sgN tx ln po)) rp tg (nI 0)) s s.heap H locs := hw
    have e_17 : r_17 = dgI tx ln (po + 1) 3 := e_17
    subst e_17
    by_cases h0 : dgB tx ln (po + 1) 3 = true
    ·
      refine r_top hx (show dgI tx ln (po + 1) 3 = nI (sgN tx ln (po + 1) - 48) from dgI_t h0) ?_
      have hw : Wd D A [(cC, .char)] (wT cC t9 tx ln (po + 1 + 1) (nI (sgN tx ln po)) rp tg (nI 0)) s s.heap H locs := Eq.mp (congrArg (fun z9 => Wd D A [(cC, .char)] (wT cC t9 tx ln z9 (nI (sgN tx ln po)) rp tg (nI 0)) s s.heap H locs) (show (po + 1) + (if dgB tx ln (po + 1) 3 = true then 1 else 0) = po + 1 + 1 from by rw [if_pos h0])) hw
      refine r_put hx hb hts hown hw 0 4 (ty := .int) tyX2 tyX2_ok nmX2 hin2 rfl rfl (by decide) k25 rfl (by decide +kernel) rfl rfl (Nat.le_of_ble_eq_true rfl) dX2_readCommand_20 (fun H locs hw => ?_)
      have hw : Wd D A [(cC, .char)] (wT cC t9 tx ln (po + 1 + 1) (nI (sgN tx ln po)) (nI (sgN tx ln (po + 1) - 48)) tg (nI 0)) s s.heap H locs := hw
      refine lv_aload_n hx hb dX2_readCommand_23 rfl (lv_at hl 0 rfl) ?_
      refine r_get hx hb hts hown hw.q 0 4 hin2 rfl rfl (by decide) k25 rfl dX2_readCommand_24 ?_
      refine lv_iconst (v := (-1)) hx hb dX2_readCommand_27 kc_iconst_m1 ?_
      refine lv_icmp_ne (tgt := 33) hx hb dX2_readCommand_28 (by decide) (fun _ => ?_) (fun h => absurd h (nI_m1 (by omega)))
      refine lv_aload_n hx hb dX2_readCommand_33 rfl (lv_at hl 0 rfl) ?_
      refine r_get hx hb hts hown hw.q 0 3 hin2 rfl rfl (by decide) k22 rfl dX2_readCommand_34 ?_
      refine lv_bipush (v := nI 109) hx hb dX2_readCommand_37 kc_bipush_109 ?_
      refine r_icmp_neN (tgt := 47) hx hb (by omega) (by omega) dX2_readCommand_39 (by decide) (fun c_39 => ?_) (fun c_39 => ?_)
      ·
        refine lv_aload_n hx hb dX2_readCommand_47 rfl (lv_at hl 0 rfl) ?_
        refine lv_aload_n hx hb dX2_readCommand_48 rfl (lv_at hl 0 rfl) ?_
        refine lv_iconst (v := nI 5) hx hb dX2_readCommand_49 kc_iconst_5 ?_
        refine cu_Vi (As := [.int (nI 5)]) (rest := [.ref (t9 0)]) (wc := wT cC t9 tx ln (po + 1 + 1) (nI (sgN tx ln po)) (nI (sgN tx ln (po + 1) - 48)) tg (nI 0)) (wr := []) S (c_X2_readDigit l D (sz := H.size) (cC := cC) (t9 := t9) (tx := tx) (ln := ln) (po := po + 1 + 1) (ki := (nI (sgN tx ln po))) (rp := nI (sgN tx ln (po + 1) - 48)) (tg := tg) (nu := (nI 0)) (d9 := 5) (htx := htx) (hln := by omega) (hpo := by omega) (hd9 := by omega)) (cwV 1 hts gX2_readCommand_X2_readDigit rfl rfl rfl (by decide +kernel) ⟨Nat.le_of_ble_eq_true rfl, Nat.le_of_ble_eq_true rfl⟩) hw hA [0, 1] [] [0] rfl rfl rfl (by decide) (by decide) (by decide) 0 rfl rfl rfl hl.1 (Nat.le_of_ble_eq_true rfl) ⟨Nat.le_of_ble_eq_true rfl, Nat.le_of_ble_eq_true rfl⟩ rfl dX2_readCommand_50 (fun r_50 u_50 H locs e_50 hw => ?_)
        have hw : Wd D A [(cC, .char)] (wT cC t9 tx ln ((po + 1 + 1) + (if dgB tx ln (po + 1 + 1) 5 = true then 1 else 0)) (nI (sgN tx ln po)) (nI (sgN tx ln (po + 1) - 48)) tg (nI 0)) s s.heap H locs := hw
        have e_50 : r_50 = dgI tx ln (po + 1 + 1) 5 := e_50
        subst e_50
        by_cases h2 : dgB tx ln (po + 1 + 1) 5 = true
        ·
          refine r_top hx (show dgI tx ln (po + 1 + 1) 5 = nI (sgN tx ln (po + 1 + 1) - 48) from dgI_t h2) ?_
          have hw : Wd D A [(cC, .char)] (wT cC t9 tx ln (po + 1 + 1 + 1) (nI (sgN tx ln po)) (nI (sgN tx ln (po + 1) - 48)) tg (nI 0)) s s.heap H locs := Eq.mp (congrArg (fun z9 => Wd D A [(cC, .char)] (wT cC t9 tx ln z9 (nI (sgN tx ln po)) (nI (sgN tx ln (po + 1) - 48)) tg (nI 0)) s s.heap H locs) (show (po + 1 + 1) + (if dgB tx ln (po + 1 + 1) 5 = true then 1 else 0) = po + 1 + 1 + 1 from by rw [if_pos h2])) hw
          refine r_put hx hb hts hown hw 0 5 (ty := .int) tyX2 tyX2_ok nmX2 hin2 rfl rfl (by decide) k28 rfl (by decide +kernel) rfl rfl (Nat.le_of_ble_eq_true rfl) dX2_readCommand_53 (fun H locs hw => ?_)
          have hw : Wd D A [(cC, .char)] (wT cC t9 tx ln (po + 1 + 1 + 1) (nI (sgN tx ln po)) (nI (sgN tx ln (po + 1) - 48)) (nI (sgN tx ln (po + 1 + 1) - 48)) (nI 0)) s s.heap H locs := hw
          refine lv_aload_n hx hb dX2_readCommand_56 rfl (lv_at hl 0 rfl) ?_
          refine r_get hx hb hts hown hw.q 0 5 hin2 rfl rfl (by decide) k28 rfl dX2_readCommand_57 ?_
          refine lv_iconst (v := (-1)) hx hb dX2_readCommand_60 kc_iconst_m1 ?_
          refine lv_icmp_ne (tgt := 66) hx hb dX2_readCommand_61 (by decide) (fun _ => ?_) (fun h => absurd h (nI_m1 (by omega)))
          refine lv_aload_n hx hb dX2_readCommand_66 rfl (lv_at hl 0 rfl) ?_
          refine r_get hx hb hts hown hw.q 0 3 hin2 rfl rfl (by decide) k22 rfl dX2_readCommand_67 ?_
          refine lv_bipush (v := nI 100) hx hb dX2_readCommand_70 kc_bipush_100 ?_
          refine r_icmp_eqN (tgt := 91) hx hb (by omega) (by omega) dX2_readCommand_72 (by decide) (fun c_72 => ?_) (fun c_72 => ?_)
          ·
            refine lv_iconst (v := nI 1) hx hb dX2_readCommand_91 kc_iconst_1 ?_
            refine lv_goto (tgt := 96) hx hb dX2_readCommand_92 (by decide) ?_
            have hr9 : (rcC tx ln po) = (true, po + 1 + 1 + 1, 0) := by rw [rcC, if_pos hk, rnC, if_pos h0, if_neg c_39, if_pos h2, if_pos c_72]
            have hw : Wd D A [(cC, .char)] (wT cC t9 tx ln ((rcC tx ln po).2.1) (nI (sgN tx ln po)) (nI (sgN tx ln (po + 1) - 48)) (nI (sgN tx ln (po + 1 + 1) - 48)) (nI 0)) s s.heap H locs := by rw [hr9]; exact hw
            exact hE ((nI (sgN tx ln po)), (nI (sgN tx ln (po + 1) - 48)), nI (sgN tx ln (po + 1 + 1) - 48), (nI 0)) dX2_readCommand_96 (by first | rfl | exact b2_nz) (Nat.le_of_ble_eq_true rfl) (Nat.le_of_ble_eq_true rfl) (hw.sub [0, 1] [] (by decide) rfl rfl) ⟨by rw [hr9]; exact ret1 rfl, fun h9 => by
                exact ⟨rfl, rfl, rfl, fun _ z => absurd c_72 z⟩⟩
          ·
            refine lv_aload_n hx hb dX2_readCommand_75 rfl (lv_at hl 0 rfl) ?_
            refine lv_bipush (v := nI 44) hx hb dX2_readCommand_76 kc_bipush_44 ?_
            refine cu_Vi (As := [.int (nI 44)]) (rest := []) (wc := wT cC t9 tx ln (po + 1 + 1 + 1) (nI (sgN tx ln po)) (nI (sgN tx ln (po + 1) - 48)) (nI (sgN tx ln (po + 1 + 1) - 48)) (nI 0)) (wr := []) S (c_X2_readCharacter l D (sz := H.size) (cC := cC) (t9 := t9) (tx := tx) (ln := ln) (po := po + 1 + 1 + 1) (ki := (nI (sgN tx ln po))) (rp := (nI (sgN tx ln (po + 1) - 48))) (tg := nI (sgN tx ln (po + 1 + 1) - 48)) (nu := (nI 0)) (c9 := 44) (htx := htx) (hln := by omega) (hpo := by omega) (h0c := by omega) (h1c := by omega)) (cwV 1 hts gX2_readCommand_X2_readCharacter rfl rfl rfl (by decide +kernel) ⟨Nat.le_of_ble_eq_true rfl, Nat.le_of_ble_eq_true rfl⟩) hw hA [0, 1] [] [0] rfl rfl rfl (by decide) (by decide) (by decide) 0 rfl rfl rfl hl.1 (Nat.le_of_ble_eq_true rfl) ⟨Nat.le_of_ble_eq_true rfl, Nat.le_of_ble_eq_true rfl⟩ rfl dX2_readCommand_78 (fun r_78 u_78 H locs e_78 hw => ?_)
            have hw : Wd D A [(cC, .char)] (wT cC t9 tx ln ((po + 1 + 1 + 1) + (if sgN tx ln (po + 1 + 1 + 1) = 44 then 1 else 0)) (nI (sgN tx ln po)) (nI (sgN tx ln (po + 1) - 48)) (nI (sgN tx ln (po + 1 + 1) - 48)) (nI 0)) s s.heap H locs := hw
            have e_78 : r_78 = b2 (sgN tx ln (po + 1 + 1 + 1) = 44) := e_78
            subst e_78
            by_cases hc : sgN tx ln (po + 1 + 1 + 1) = 44
            ·
              have hw : Wd D A [(cC, .char)] (wT cC t9 tx ln (po + 1 + 1 + 1 + 1) (nI (sgN tx ln po)) (nI (sgN tx ln (po + 1) - 48)) (nI (sgN tx ln (po + 1 + 1) - 48)) (nI 0)) s s.heap H locs := Eq.mp (congrArg (fun z9 => Wd D A [(cC, .char)] (wT cC t9 tx ln z9 (nI (sgN tx ln po)) (nI (sgN tx ln (po + 1) - 48)) (nI (sgN tx ln (po + 1 + 1) - 48)) (nI 0)) s s.heap H locs) (show (po + 1 + 1 + 1) + (if sgN tx ln (po + 1 + 1 + 1) = 44 then 1 else 0) = po + 1 + 1 + 1 + 1 from by rw [if_pos hc])) hw
              refine r_if_eqB (tgt := 95) hx hb dX2_readCommand_81 (by decide) (fun h => absurd (hc) h) (fun _ => ?_)
              refine lv_aload_n hx hb dX2_readCommand_84 rfl (lv_at hl 0 rfl) ?_
              refine cu_Vi (As := []) (rest := []) (wc := wT cC t9 tx ln (po + 1 + 1 + 1 + 1) (nI (sgN tx ln po)) (nI (sgN tx ln (po + 1) - 48)) (nI (sgN tx ln (po + 1 + 1) - 48)) (nI 0)) (wr := []) S (c_X2_readArgument l D (sz := H.size) (cC := cC) (t9 := t9) (tx := tx) (ln := ln) (po := po + 1 + 1 + 1 + 1) (rp := (nI (sgN tx ln (po + 1) - 48))) (tg := (nI (sgN tx ln (po + 1 + 1) - 48))) (nu := (nI 0)) (kc := sgN tx ln po) (htx := htx) (hln := by omega) (hpo := by omega) (hkc := by omega)) (cwV 0 hts gX2_readCommand_X2_readArgument rfl rfl rfl (by decide +kernel) ⟨Nat.le_of_ble_eq_true rfl, Nat.le_of_ble_eq_true rfl⟩) hw hA [0, 1] [] [0] rfl rfl rfl (by decide) (by decide) (by decide) 0 rfl rfl rfl hl.1 (Nat.le_of_ble_eq_true rfl) ⟨Nat.le_of_ble_eq_true rfl, Nat.le_of_ble_eq_true rfl⟩ rfl dX2_readCommand_85 (fun r_85 u_85 H locs e_85 hw => ?_)
              have hw : Wd D A [(cC, .char)] (wT cC t9 tx ln ((agR tx ln (po + 1 + 1 + 1 + 1) (sgN tx ln po)).2.1) (nI (sgN tx ln po)) (nI (sgN tx ln (po + 1) - 48)) (nI (sgN tx ln (po + 1 + 1) - 48)) u_85) s s.heap H locs := hw
              obtain ⟨e_85, x_85⟩ := e_85
              have e_85 : r_85 = b2 ((agR tx ln (po + 1 + 1 + 1 + 1) (sgN tx ln po)).1 = true) := e_85
              subst e_85
              refine r_if_eqB (tgt := 95) hx hb dX2_readCommand_88 (by decide) (fun c_88 => ?_) (fun c_88 => ?_)
              ·
                refine lv_iconst (v := nI 0) hx hb dX2_readCommand_95 kc_iconst_0 ?_
                have hr9 : (rcC tx ln po) = agR tx ln (po + 1 + 1 + 1 + 1) (sgN tx ln po) := by rw [rcC, if_pos hk, rnC, if_pos h0, if_neg c_39, if_pos h2, if_neg c_72, if_pos hc]
                have hw : Wd D A [(cC, .char)] (wT cC t9 tx ln ((rcC tx ln po).2.1) (nI (sgN tx ln po)) (nI (sgN tx ln (po + 1) - 48)) (nI (sgN tx ln (po + 1 + 1) - 48)) u_85) s s.heap H locs := by rw [hr9]; exact hw
                exact hE (nI (sgN tx ln po), (nI (sgN tx ln (po + 1) - 48)), (nI (sgN tx ln (po + 1 + 1) - 48)), u_85) dX2_readCommand_96 (by first | rfl | exact b2_nz) (Nat.le_of_ble_eq_true rfl) (Nat.le_of_ble_eq_true rfl) (hw.sub [0, 1] [] (by decide) rfl rfl) ⟨by rw [hr9]; exact ret0 c_88, fun h9 => by
                    rw [hr9] at h9
                    exact absurd h9 c_88⟩
              ·
                refine lv_iconst (v := nI 1) hx hb dX2_readCommand_91 kc_iconst_1 ?_
                refine lv_goto (tgt := 96) hx hb dX2_readCommand_92 (by decide) ?_
                have hr9 : (rcC tx ln po) = agR tx ln (po + 1 + 1 + 1 + 1) (sgN tx ln po) := by rw [rcC, if_pos hk, rnC, if_pos h0, if_neg c_39, if_pos h2, if_neg c_72, if_pos hc]
                have hw : Wd D A [(cC, .char)] (wT cC t9 tx ln ((rcC tx ln po).2.1) (nI (sgN tx ln po)) (nI (sgN tx ln (po + 1) - 48)) (nI (sgN tx ln (po + 1 + 1) - 48)) u_85) s s.heap H locs := by rw [hr9]; exact hw
                exact hE (nI (sgN tx ln po), (nI (sgN tx ln (po + 1) - 48)), (nI (sgN tx ln (po + 1 + 1) - 48)), u_85) dX2_readCommand_96 (by first | rfl | exact b2_nz) (Nat.le_of_ble_eq_true rfl) (Nat.le_of_ble_eq_true rfl) (hw.sub [0, 1] [] (by decide) rfl rfl) ⟨by rw [hr9]; exact ret1 c_88, fun h9 => by
                    rw [hr9] at h9 ⊢
                    exact ⟨rfl, rfl, rfl, fun _ _ => x_85 h9⟩⟩
            ·
              have hw : Wd D A [(cC, .char)] (wT cC t9 tx ln (po + 1 + 1 + 1) (nI (sgN tx ln po)) (nI (sgN tx ln (po + 1) - 48)) (nI (sgN tx ln (po + 1 + 1) - 48)) (nI 0)) s s.heap H locs := Eq.mp (congrArg (fun z9 => Wd D A [(cC, .char)] (wT cC t9 tx ln z9 (nI (sgN tx ln po)) (nI (sgN tx ln (po + 1) - 48)) (nI (sgN tx ln (po + 1 + 1) - 48)) (nI 0)) s s.heap H locs) (show (po + 1 + 1 + 1) + (if sgN tx ln (po + 1 + 1 + 1) = 44 then 1 else 0) = po + 1 + 1 + 1 from by rw [if_neg hc] <;> rfl)) hw
              refine r_if_eqB (tgt := 95) hx hb dX2_readCommand_81 (by decide) (fun _ => ?_) (fun h => absurd h (hc))
              refine lv_iconst (v := nI 0) hx hb dX2_readCommand_95 kc_iconst_0 ?_
              have hr9 : (rcC tx ln po) = (false, po + 1 + 1 + 1, 0) := by rw [rcC, if_pos hk, rnC, if_pos h0, if_neg c_39, if_pos h2, if_neg c_72, if_neg hc]
              have hw : Wd D A [(cC, .char)] (wT cC t9 tx ln ((rcC tx ln po).2.1) (nI (sgN tx ln po)) (nI (sgN tx ln (po + 1) - 48)) (nI (sgN tx ln (po + 1 + 1) - 48)) (nI 0)) s s.heap H locs := by rw [hr9]; exact hw
              exact hE ((nI (sgN tx ln po)), (nI (sgN tx ln (po + 1) - 48)), (nI (sgN tx ln (po + 1 + 1) - 48)), (nI 0)) dX2_readCommand_96 (by first | rfl | exact b2_nz) (Nat.le_of_ble_eq_true rfl) (Nat.le_of_ble_eq_true rfl) (hw.sub [0, 1] [] (by decide) rfl rfl) ⟨by rw [hr9]; exact ret0 Bool.false_ne_true, fun h9 => by
                  rw [hr9] at h9
                  exact absurd h9 Bool.false_ne_true⟩
        ·
          refine r_top hx (show dgI tx ln (po + 1 + 1) 5 = (-1) from dgI_f h2) ?_
          have hw : Wd D A [(cC, .char)] (wT cC t9 tx ln (po + 1 + 1) (nI (sgN tx ln po)) (nI (sgN tx ln (po + 1) - 48)) tg (nI 0)) s s.heap H locs := Eq.mp (congrArg (fun z9 => Wd D A [(cC, .char)] (wT cC t9 tx ln z9 (nI (sgN tx ln po)) (nI (sgN tx ln (po + 1) - 48)) tg (nI 0)) s s.heap H locs) (show (po + 1 + 1) + (if dgB tx ln (po + 1 + 1) 5 = true then 1 else 0) = po + 1 + 1 from by rw [if_neg h2] <;> rfl)) hw
          refine r_put hx hb hts hown hw 0 5 (ty := .int) tyX2 tyX2_ok nmX2 hin2 rfl rfl (by decide) k28 rfl (by decide +kernel) rfl rfl (Nat.le_of_ble_eq_true rfl) dX2_readCommand_53 (fun H locs hw => ?_)
          have hw : Wd D A [(cC, .char)] (wT cC t9 tx ln (po + 1 + 1) (nI (sgN tx ln po)) (nI (sgN tx ln (po + 1) - 48)) (-1) (nI 0)) s s.heap H locs := hw
          refine lv_aload_n hx hb dX2_readCommand_56 rfl (lv_at hl 0 rfl) ?_
          refine r_get hx hb hts hown hw.q 0 5 hin2 rfl rfl (by decide) k28 rfl dX2_readCommand_57 ?_
          refine lv_iconst (v := (-1)) hx hb dX2_readCommand_60 kc_iconst_m1 ?_
          refine lv_icmp_ne (tgt := 66) hx hb dX2_readCommand_61 (by decide) (fun h => absurd (rfl) h) (fun _ => ?_)
          refine lv_iconst (v := nI 0) hx hb dX2_readCommand_64 kc_iconst_0 ?_
          have hr9 : (rcC tx ln po) = (false, po + 1 + 1, 0) := by rw [rcC, if_pos hk, rnC, if_pos h0, if_neg c_39, if_neg h2]
          have hw : Wd D A [(cC, .char)] (wT cC t9 tx ln ((rcC tx ln po).2.1) (nI (sgN tx ln po)) (nI (sgN tx ln (po + 1) - 48)) (-1) (nI 0)) s s.heap H locs := by rw [hr9]; exact hw
          exact hE ((nI (sgN tx ln po)), (nI (sgN tx ln (po + 1) - 48)), (-1), (nI 0)) dX2_readCommand_65 (by first | rfl | exact b2_nz) (Nat.le_of_ble_eq_true rfl) (Nat.le_of_ble_eq_true rfl) (hw.sub [0, 1] [] (by decide) rfl rfl) ⟨by rw [hr9]; exact ret0 Bool.false_ne_true, fun h9 => by
              rw [hr9] at h9
              exact absurd h9 Bool.false_ne_true⟩
      ·
        refine lv_aload_n hx hb dX2_readCommand_42 rfl (lv_at hl 0 rfl) ?_
        refine cu_Vi (As := []) (rest := []) (wc := wT cC t9 tx ln (po + 1 + 1) (nI (sgN tx ln po)) (nI (sgN tx ln (po + 1) - 48)) tg (nI 0)) (wr := []) S (c_X2_readOtherReplica l D (sz := H.size) (cC := cC) (t9 := t9) (tx := tx) (ln := ln) (po := po + 1 + 1) (ki := (nI (sgN tx ln po))) (tg := tg) (nu := (nI 0)) (fd := sgN tx ln (po + 1) - 48) (htx := htx) (hln := by omega) (hpo := by omega) (hfd := by omega)) (cwV 0 hts gX2_readCommand_X2_readOtherReplica rfl rfl rfl (by decide +kernel) ⟨Nat.le_of_ble_eq_true rfl, Nat.le_of_ble_eq_true rfl⟩) hw hA [0, 1] [] [0] rfl rfl rfl (by decide) (by decide) (by decide) 0 rfl rfl rfl hl.1 (Nat.le_of_ble_eq_true rfl) ⟨Nat.le_of_ble_eq_true rfl, Nat.le_of_ble_eq_true rfl⟩ rfl dX2_readCommand_43 (fun r_43 u_43 H locs e_43 hw => ?_)
        have hw : Wd D A [(cC, .char)] (wT cC t9 tx ln ((roR tx ln (po + 1 + 1) (sgN tx ln (po + 1) - 48)).2.1) (nI (sgN tx ln po)) (nI (sgN tx ln (po + 1) - 48)) u_43 (nI 0)) s s.heap H locs := hw
        obtain ⟨e_43, x_43⟩ := e_43
        have e_43 : r_43 = b2 ((roR tx ln (po + 1 + 1) (sgN tx ln (po + 1) - 48)).1 = true) := e_43
        subst e_43
        have hr9 : (rcC tx ln po) = roR tx ln (po + 1 + 1) (sgN tx ln (po + 1) - 48) := by rw [rcC, if_pos hk, rnC, if_pos h0, if_pos c_39]
        have hw : Wd D A [(cC, .char)] (wT cC t9 tx ln ((rcC tx ln po).2.1) (nI (sgN tx ln po)) (nI (sgN tx ln (po + 1) - 48)) u_43 (nI 0)) s s.heap H locs := by rw [hr9]; exact hw
        exact hE ((nI (sgN tx ln po)), nI (sgN tx ln (po + 1) - 48), u_43, (nI 0)) dX2_readCommand_46 (by first | rfl | exact b2_nz) (Nat.le_of_ble_eq_true rfl) (Nat.le_of_ble_eq_true rfl) (hw.sub [0, 1] [] (by decide) rfl rfl) ⟨by rw [hr9], fun h9 => by
            rw [hr9] at h9
            exact ⟨rfl, rfl, (x_43 h9).trans (roR_v h9), fun z => absurd c_39 z⟩⟩
    ·
      refine r_top hx (show dgI tx ln (po + 1) 3 = (-1) from dgI_f h0) ?_
      have hw : Wd D A [(cC, .char)] (wT cC t9 tx ln (po + 1) (nI (sgN tx ln po)) rp tg (nI 0)) s s.heap H locs := Eq.mp (congrArg (fun z9 => Wd D A [(cC, .char)] (wT cC t9 tx ln z9 (nI (sgN tx ln po)) rp tg (nI 0)) s s.heap H locs) (show (po + 1) + (if dgB tx ln (po + 1) 3 = true then 1 else 0) = po + 1 from by rw [if_neg h0] <;> rfl)) hw
      refine r_put hx hb hts hown hw 0 4 (ty := .int) tyX2 tyX2_ok nmX2 hin2 rfl rfl (by decide) k25 rfl (by decide +kernel) rfl rfl (Nat.le_of_ble_eq_true rfl) dX2_readCommand_20 (fun H locs hw => ?_)
      have hw : Wd D A [(cC, .char)] (wT cC t9 tx ln (po + 1) (nI (sgN tx ln po)) (-1) tg (nI 0)) s s.heap H locs := hw
      refine lv_aload_n hx hb dX2_readCommand_23 rfl (lv_at hl 0 rfl) ?_
      refine r_get hx hb hts hown hw.q 0 4 hin2 rfl rfl (by decide) k25 rfl dX2_readCommand_24 ?_
      refine lv_iconst (v := (-1)) hx hb dX2_readCommand_27 kc_iconst_m1 ?_
      refine lv_icmp_ne (tgt := 33) hx hb dX2_readCommand_28 (by decide) (fun h => absurd (rfl) h) (fun _ => ?_)
      refine lv_iconst (v := nI 0) hx hb dX2_readCommand_31 kc_iconst_0 ?_
      have hr9 : (rcC tx ln po) = (false, po + 1, 0) := by rw [rcC, if_pos hk, rnC, if_neg h0]
      have hw : Wd D A [(cC, .char)] (wT cC t9 tx ln ((rcC tx ln po).2.1) (nI (sgN tx ln po)) (-1) tg (nI 0)) s s.heap H locs := by rw [hr9]; exact hw
      exact hE ((nI (sgN tx ln po)), (-1), tg, (nI 0)) dX2_readCommand_32 (by first | rfl | exact b2_nz) (Nat.le_of_ble_eq_true rfl) (Nat.le_of_ble_eq_true rfl) (hw.sub [0, 1] [] (by decide) rfl rfl) ⟨by rw [hr9]; exact ret0 Bool.false_ne_true, fun h9 => by
          rw [hr9] at h9
          exact absurd h9 Bool.false_ne_true⟩
  ·
    have hw : Wd D A [(cC, .char)] (wT cC t9 tx ln po (ncI tx ln po) rp tg (nI 0)) s s.heap H locs := Eq.mp (congrArg (fun z9 => Wd D A [(cC, .char)] (wT cC t9 tx ln z9 (ncI tx ln po) rp tg (nI 0)) s s.heap H locs) (show po + (if kdB (sgN tx ln po) = true then 1 else 0) = po from by rw [if_neg hk] <;> rfl)) hw
    refine r_if_neB (tgt := 14) hx hb dX2_readCommand_9 (by decide) (fun h => absurd h (hk)) (fun _ => ?_)
    refine lv_iconst (v := nI 0) hx hb dX2_readCommand_12 kc_iconst_0 ?_
    have hr9 : (rcC tx ln po) = (false, po, 0) := by rw [rcC, if_neg hk]
    have hw : Wd D A [(cC, .char)] (wT cC t9 tx ln ((rcC tx ln po).2.1) (ncI tx ln po) rp tg (nI 0)) s s.heap H locs := by rw [hr9]; exact hw
    exact hE (ncI tx ln po, rp, tg, (nI 0)) dX2_readCommand_13 (by first | rfl | exact b2_nz) (Nat.le_of_ble_eq_true rfl) (Nat.le_of_ble_eq_true rfl) (hw.sub [0, 1] [] (by decide) rfl rfl) ⟨by rw [hr9]; exact ret0 Bool.false_ne_true, fun h9 => by
        rw [hr9] at h9
        exact absurd h9 Bool.false_ne_true⟩
abbrev rmX2_readNext : Room := { frames := 4, cells := 0, slots := 0, locals := 90 }
set_option maxHeartbeats 4000000 in
set_option maxRecDepth 100000 in
theorem c_X2_readNext (l : Launch) (D : va_G) (sz : Nat) (cC : ClassId) (t9 : Nat → Nat) (tx : Nat → Nat) (ln po : Nat) (ki rp tg nu : Int32)  (htx : ∀ i, tx i < 127) (hln : ln ≤ 80) (hpo : po < 960)  : MUi l yX2_readNext wsX2_readNext rmX2_readNext [.ref (t9 0)] D [(cC, .char)] (wT cC t9 tx ln po ki rp tg nu) sz (fun rz (u9 : Int32 × Int32 × Int32 × Int32) => rz = b2 ((rxC tx ln po).1 = true) ∧ cmP tx ln (rxQ po) u9.1 u9.2.1 u9.2.2.1 u9.2.2.2 (rxC tx ln po)) (fun u9 => []) (fun u9 => wT cC t9 tx ln ((rxC tx ln po).2.1) u9.1 u9.2.1 u9.2.2.1 u9.2.2.2) 0 0 := by
  refine met_u (own := RX2) (cc := cX2_readNext) (maxL := 1) (ty := .boolean) (by decide) rfl rfl (Nat.le_of_ble_eq_true rfl) ?_
  intro p e s m args below meth c Q A hsz S hw hA hE ls hl
  obtain ⟨hx, hb, hml, hown, hts⟩ := id S
  have k19 := hts (.fieldLink RX2 19 "CausalTable$Text" "position" "I") (by decide +kernel)
  have hin2 := (show ∀ w ∈ wsX20, w ∈ wsX2_readNext by decide +kernel)
  have hl : lv_has ls 1 [(0, .ref (t9 0))] := hl
  refine lv_aload_n hx hb dX2_readNext_0 rfl (lv_at hl 0 rfl) ?_
  refine r_get hx hb hts hown hw.q 0 2 hin2 rfl rfl (by decide) k19 rfl dX2_readNext_1 ?_
  refine r_if_eqN (tgt := 16) hx hb (by omega) dX2_readNext_4 (by decide) (fun c_4 => ?_) (fun c_4 => ?_)
  ·
    refine lv_aload_n hx hb dX2_readNext_16 rfl (lv_at hl 0 rfl) ?_
    refine cu_Vi (As := []) (rest := []) (wc := wT cC t9 tx ln po ki rp tg nu) (wr := []) S (c_X2_readCommand l D (sz := s.heap.size) (cC := cC) (t9 := t9) (tx := tx) (ln := ln) (po := po) (ki := ki) (rp := rp) (tg := tg) (nu := nu) (htx := htx) (hln := by omega) (hpo := by omega)) (cwV 0 hts gX2_readNext_X2_readCommand rfl rfl rfl (by decide +kernel) ⟨Nat.le_of_ble_eq_true rfl, Nat.le_of_ble_eq_true rfl⟩) hw hA [0, 1] [] [0] rfl rfl rfl (by decide) (by decide) (by decide) 0 rfl rfl rfl hl.1 (Nat.le_of_ble_eq_true rfl) ⟨Nat.le_of_ble_eq_true rfl, Nat.le_of_ble_eq_true rfl⟩ rfl dX2_readNext_17 (fun r_17 u_17 H locs e_17 hw => ?_)
    obtain ⟨u0_17, u1_17, u2_17, u3_17⟩ := u_17
    have hw : Wd D A [(cC, .char)] (wT cC t9 tx ln ((rcC tx ln po).2.1) u0_17 u1_17 u2_17 u3_17) s s.heap H locs := hw
    obtain ⟨e_17, x_17⟩ := e_17
    have e_17 : r_17 = b2 ((rcC tx ln po).1 = true) := e_17
    subst e_17
    refine r_if_eqB (tgt := 27) hx hb dX2_readNext_20 (by decide) (fun c_20 => ?_) (fun c_20 => ?_)
    ·
      refine lv_iconst (v := nI 0) hx hb dX2_readNext_27 kc_iconst_0 ?_
      have hr9 : (rxC tx ln po) = rcC tx ln po := by rw [rxC, if_pos c_4]
      have hw : Wd D A [(cC, .char)] (wT cC t9 tx ln ((rxC tx ln po).2.1) u0_17 u1_17 u2_17 u3_17) s s.heap H locs := by rw [hr9]; exact hw
      exact hE (u0_17, u1_17, u2_17, u3_17) dX2_readNext_28 (by first | rfl | exact b2_nz) (Nat.le_of_ble_eq_true rfl) (Nat.le_of_ble_eq_true rfl) (hw.sub [0, 1] [] (by decide) rfl rfl) ⟨by rw [hr9]; exact ret0 c_20, fun h9 => by
          rw [hr9] at h9
          exact absurd h9 c_20⟩
    ·
      refine lv_iconst (v := nI 1) hx hb dX2_readNext_23 kc_iconst_1 ?_
      refine lv_goto (tgt := 28) hx hb dX2_readNext_24 (by decide) ?_
      have hr9 : (rxC tx ln po) = rcC tx ln po := by rw [rxC, if_pos c_4]
      have hw : Wd D A [(cC, .char)] (wT cC t9 tx ln ((rxC tx ln po).2.1) u0_17 u1_17 u2_17 u3_17) s s.heap H locs := by rw [hr9]; exact hw
      exact hE (u0_17, u1_17, u2_17, u3_17) dX2_readNext_28 (by first | rfl | exact b2_nz) (Nat.le_of_ble_eq_true rfl) (Nat.le_of_ble_eq_true rfl) (hw.sub [0, 1] [] (by decide) rfl rfl) ⟨by rw [hr9]; exact ret1 c_20, fun h9 => by
          rw [hr9] at h9 ⊢
          rw [show rxQ po = po from if_pos c_4]
          exact x_17 h9⟩
  ·
    refine lv_aload_n hx hb dX2_readNext_7 rfl (lv_at hl 0 rfl) ?_
    refine lv_bipush (v := nI 59) hx hb dX2_readNext_8 kc_bipush_59 ?_
    refine cu_Vi (As := [.int (nI 59)]) (rest := []) (wc := wT cC t9 tx ln po ki rp tg nu) (wr := []) S (c_X2_readCharacter l D (sz := s.heap.size) (cC := cC) (t9 := t9) (tx := tx) (ln := ln) (po := po) (ki := ki) (rp := rp) (tg := tg) (nu := nu) (c9 := 59) (htx := htx) (hln := by omega) (hpo := by omega) (h0c := by omega) (h1c := by omega)) (cwV 1 hts gX2_readNext_X2_readCharacter rfl rfl rfl (by decide +kernel) ⟨Nat.le_of_ble_eq_true rfl, Nat.le_of_ble_eq_true rfl⟩) hw hA [0, 1] [] [0] rfl rfl rfl (by decide) (by decide) (by decide) 0 rfl rfl rfl hl.1 (Nat.le_of_ble_eq_true rfl) ⟨Nat.le_of_ble_eq_true rfl, Nat.le_of_ble_eq_true rfl⟩ rfl dX2_readNext_10 (fun r_10 u_10 H locs e_10 hw => ?_)
    have hw : Wd D A [(cC, .char)] (wT cC t9 tx ln (po + (if sgN tx ln po = 59 then 1 else 0)) ki rp tg nu) s s.heap H locs := hw
    have e_10 : r_10 = b2 (sgN tx ln po = 59) := e_10
    subst e_10
    by_cases hc : sgN tx ln po = 59
    ·
      have hw : Wd D A [(cC, .char)] (wT cC t9 tx ln (po + 1) ki rp tg nu) s s.heap H locs := Eq.mp (congrArg (fun z9 => Wd D A [(cC, .char)] (wT cC t9 tx ln z9 ki rp tg nu) s s.heap H locs) (show po + (if sgN tx ln po = 59 then 1 else 0) = po + 1 from by rw [if_pos hc])) hw
      refine r_if_eqB (tgt := 27) hx hb dX2_readNext_13 (by decide) (fun h => absurd (hc) h) (fun _ => ?_)
      refine lv_aload_n hx hb dX2_readNext_16 rfl (lv_at hl 0 rfl) ?_
      refine cu_Vi (As := []) (rest := []) (wc := wT cC t9 tx ln (po + 1) ki rp tg nu) (wr := []) S (c_X2_readCommand l D (sz := H.size) (cC := cC) (t9 := t9) (tx := tx) (ln := ln) (po := po + 1) (ki := ki) (rp := rp) (tg := tg) (nu := nu) (htx := htx) (hln := by omega) (hpo := by omega)) (cwV 0 hts gX2_readNext_X2_readCommand rfl rfl rfl (by decide +kernel) ⟨Nat.le_of_ble_eq_true rfl, Nat.le_of_ble_eq_true rfl⟩) hw hA [0, 1] [] [0] rfl rfl rfl (by decide) (by decide) (by decide) 0 rfl rfl rfl hl.1 (Nat.le_of_ble_eq_true rfl) ⟨Nat.le_of_ble_eq_true rfl, Nat.le_of_ble_eq_true rfl⟩ rfl dX2_readNext_17 (fun r_17 u_17 H locs e_17 hw => ?_)
      obtain ⟨u0_17, u1_17, u2_17, u3_17⟩ := u_17
      have hw : Wd D A [(cC, .char)] (wT cC t9 tx ln ((rcC tx ln (po + 1)).2.1) u0_17 u1_17 u2_17 u3_17) s s.heap H locs := hw
      obtain ⟨e_17, x_17⟩ := e_17
      have e_17 : r_17 = b2 ((rcC tx ln (po + 1)).1 = true) := e_17
      subst e_17
      refine r_if_eqB (tgt := 27) hx hb dX2_readNext_20 (by decide) (fun c_20 => ?_) (fun c_20 => ?_)
      ·
        refine lv_iconst (v := nI 0) hx hb dX2_readNext_27 kc_iconst_0 ?_
        have hr9 : (rxC tx ln po) = rcC tx ln (po + 1) := by rw [rxC, if_neg (Nat.ne_of_gt c_4), if_pos hc]
        have hw : Wd D A [(cC, .char)] (wT cC t9 tx ln ((rxC tx ln po).2.1) u0_17 u1_17 u2_17 u3_17) s s.heap H locs := by rw [hr9]; exact hw
        exact hE (u0_17, u1_17, u2_17, u3_17) dX2_readNext_28 (by first | rfl | exact b2_nz) (Nat.le_of_ble_eq_true rfl) (Nat.le_of_ble_eq_true rfl) (hw.sub [0, 1] [] (by decide) rfl rfl) ⟨by rw [hr9]; exact ret0 c_20, fun h9 => by
            rw [hr9] at h9
            exact absurd h9 c_20⟩
      ·
        refine lv_iconst (v := nI 1) hx hb dX2_readNext_23 kc_iconst_1 ?_
        refine lv_goto (tgt := 28) hx hb dX2_readNext_24 (by decide) ?_
        have hr9 : (rxC tx ln po) = rcC tx ln (po + 1) := by rw [rxC, if_neg (Nat.ne_of_gt c_4), if_pos hc]
        have hw : Wd D A [(cC, .char)] (wT cC t9 tx ln ((rxC tx ln po).2.1) u0_17 u1_17 u2_17 u3_17) s s.heap H locs := by rw [hr9]; exact hw
        exact hE (u0_17, u1_17, u2_17, u3_17) dX2_readNext_28 (by first | rfl | exact b2_nz) (Nat.le_of_ble_eq_true rfl) (Nat.le_of_ble_eq_true rfl) (hw.sub [0, 1] [] (by decide) rfl rfl) ⟨by rw [hr9]; exact ret1 c_20, fun h9 => by
            rw [hr9] at h9 ⊢
            rw [show rxQ po = po + 1 from if_neg (Nat.ne_of_gt c_4)]
            exact x_17 h9⟩
    ·
      have hw : Wd D A [(cC, .char)] (wT cC t9 tx ln po ki rp tg nu) s s.heap H locs := Eq.mp (congrArg (fun z9 => Wd D A [(cC, .char)] (wT cC t9 tx ln z9 ki rp tg nu) s s.heap H locs) (show po + (if sgN tx ln po = 59 then 1 else 0) = po from by rw [if_neg hc] <;> rfl)) hw
      refine r_if_eqB (tgt := 27) hx hb dX2_readNext_13 (by decide) (fun _ => ?_) (fun h => absurd h (hc))
      refine lv_iconst (v := nI 0) hx hb dX2_readNext_27 kc_iconst_0 ?_
      have hr9 : (rxC tx ln po) = (false, po, 0) := by rw [rxC, if_neg (Nat.ne_of_gt c_4), if_neg hc]
      have hw : Wd D A [(cC, .char)] (wT cC t9 tx ln ((rxC tx ln po).2.1) ki rp tg nu) s s.heap H locs := by rw [hr9]; exact hw
      exact hE (ki, rp, tg, nu) dX2_readNext_28 (by first | rfl | exact b2_nz) (Nat.le_of_ble_eq_true rfl) (Nat.le_of_ble_eq_true rfl) (hw.sub [0, 1] [] (by decide) rfl rfl) ⟨by rw [hr9]; exact ret0 Bool.false_ne_true, fun h9 => by
          rw [hr9] at h9
          exact absurd h9 Bool.false_ne_true⟩
abbrev rmX2_rewind : Room := { frames := 0, cells := 0, slots := 0, locals := 0 }
set_option maxHeartbeats 4000000 in
set_option maxRecDepth 100000 in
theorem c_X2_rewind (l : Launch) (D : va_G) (sz : Nat) (cC : ClassId) (t9 : Nat → Nat) (tx : Nat → Nat) (ln po : Nat) (ki rp tg nu : Int32)  (htx : ∀ i, tx i < 127) (hln : ln ≤ 80) (hpo : po < 1000)  : MUv l yX2_rewind wsX2_rewind rmX2_rewind [.ref (t9 0)] D [(cC, .char)] (wT cC t9 tx ln po ki rp tg nu) sz (fun (_ : Unit) => True) (fun _ => []) (fun _ => wT cC t9 tx ln 0 ki rp tg nu) 0 0 := by
  refine met_v (own := RX2) (cc := cX2_rewind) (maxL := 1) (by decide) rfl rfl (Nat.le_of_ble_eq_true rfl) ?_
  intro p e s m args below meth c Q A hsz S hmn hw hA hE ls hl
  obtain ⟨hx, hb, hml, hown, hts⟩ := id S
  have k19 := hts (.fieldLink RX2 19 "CausalTable$Text" "position" "I") (by decide +kernel)
  have hin2 := (show ∀ w ∈ wsX20, w ∈ wsX2_rewind by decide +kernel)
  have hl : lv_has ls 1 [(0, .ref (t9 0))] := hl
  refine lv_aload_n hx hb dX2_rewind_0 rfl (lv_at hl 0 rfl) ?_
  refine lv_iconst (v := nI 0) hx hb dX2_rewind_1 kc_iconst_0 ?_
  refine r_put hx hb hts hown hw 0 2 (ty := .int) tyX2 tyX2_ok nmX2 hin2 rfl rfl (by decide) k19 rfl (by decide +kernel) rfl rfl (Nat.le_of_ble_eq_true rfl) dX2_rewind_2 (fun H locs hw => ?_)
  have hw : Wd D A [(cC, .char)] (wT cC t9 tx ln 0 ki rp tg nu) s s.heap H locs := hw
  exact hE () dX2_rewind_5 (Nat.le_of_ble_eq_true rfl) (Nat.le_of_ble_eq_true rfl) (hw.sub [0, 1] [] (by decide) rfl rfl) trivial
abbrev rmX2_findError : Room := { frames := 5, cells := 0, slots := 0, locals := 110 }
set_option maxHeartbeats 4000000 in
set_option maxRecDepth 100000 in
theorem c_X2_findError (l : Launch) (D : va_G) (sz : Nat) (cC : ClassId) (t9 : Nat → Nat) (tx : Nat → Nat) (ln po : Nat) (ki rp tg nu : Int32)  (htx : ∀ i, tx i < 127) (hln : ln ≤ 80) (hpo : po < 1000)  : MUi l yX2_findError wsX2_findError rmX2_findError [.ref (t9 0)] D [(cC, .char)] (wT cC t9 tx ln po ki rp tg nu) sz (fun rz (u9 : Int32 × Int32 × Int32 × Int32) => rz = if (vdC tx ln 80 0).1 = true then -1 else nI (vdC tx ln 80 0).2) (fun u9 => []) (fun u9 => wT cC t9 tx ln ((vdC tx ln 80 0).2) u9.1 u9.2.1 u9.2.2.1 u9.2.2.2) 0 0 := by
  refine met_u (own := RX2) (cc := cX2_findError) (maxL := 2) (ty := .int) (by decide) rfl rfl (Nat.le_of_ble_eq_true rfl) ?_
  intro p e s m args below meth c Q A hsz S hw hA hE ls hl
  obtain ⟨hx, hb, hml, hown, hts⟩ := id S
  have k19 := hts (.fieldLink RX2 19 "CausalTable$Text" "position" "I") (by decide +kernel)
  have hin2 := (show ∀ w ∈ wsX20, w ∈ wsX2_findError by decide +kernel)
  have k15 := hts (.fieldLink RX2 15 "CausalTable$Text" "length" "I") (by decide +kernel)
  have hl : lv_has ls 2 [(0, .ref (t9 0))] := hl
  refine lv_aload_n hx hb dX2_findError_0 rfl (lv_at hl 0 rfl) ?_
  refine cu_Vv (As := []) (rest := []) (wc := wT cC t9 tx ln po ki rp tg nu) (wr := []) S (c_X2_rewind l D (sz := s.heap.size) (cC := cC) (t9 := t9) (tx := tx) (ln := ln) (po := po) (ki := ki) (rp := rp) (tg := tg) (nu := nu) (htx := htx) (hln := by omega) (hpo := by omega)) (cwV 0 hts gX2_findError_X2_rewind rfl rfl rfl (by decide +kernel) ⟨Nat.le_of_ble_eq_true rfl, Nat.le_of_ble_eq_true rfl⟩) hw hA [0, 1] [] [0] rfl rfl rfl (by decide) (by decide) (by decide) 0 rfl rfl rfl hl.1 (Nat.le_of_ble_eq_true rfl) ⟨Nat.le_of_ble_eq_true rfl, Nat.le_of_ble_eq_true rfl⟩ rfl dX2_findError_1 (fun u_1 H locs e_1 hw => ?_)
  have hw : Wd D A [(cC, .char)] (wT cC t9 tx ln 0 ki rp tg nu) s s.heap H locs := hw
  refine lv_iconst (v := nI 0) hx hb dX2_findError_4 kc_iconst_0 ?_
  refine lv_istore_n (lv' := [(1, .int (nI 0)), (0, .ref (t9 0))]) hx hb dX2_findError_5 rfl hl (by decide) rfl (fun ls hl => ?_)
  have L6_1 : ∀ (fu_2 k : Nat) (p9 : Nat) (j1 : Int32) (j2 : Int32) (j3 : Int32) (j4 : Int32), k ≤ 80 → 80 - k < fu_2 → ((vdC tx ln 80 0) = vdC tx ln (80 - k) p9) → (p9 ≤ ln) → ∀ (H : Heap) (locs : List Loc), Wd D A [(cC, .char)] (wT cC t9 tx ln p9 j1 j2 j3 j4) s s.heap H locs → ∀ ls : Array Slot, lv_has ls 2 [(1, .int (nI k)), (0, .ref (t9 0))] → W p l e rmX2_findError s m args below meth c H locs 0 0 Q (F0 m 6 ls []) := by
    intro fu_2
    induction fu_2 with
    | zero => intro k p9 j1 j2 j3 j4 _ h9; exact absurd h9 (Nat.not_lt_zero _)
    | succ fu_2 ih_6 =>
      intro k p9 j1 j2 j3 j4 hk_6 hf_6 hs hp9 H locs hw ls hl
      have hrx := rxC_le (tx := tx) hln hp9
      refine lv_iload_n hx hb dX2_findError_6 rfl (lv_at hl 0 rfl) ?_
      refine lv_bipush (v := nI 80) hx hb dX2_findError_7 kc_bipush_80 ?_
      refine r_icmp_geN (tgt := 43) hx hb (by omega) (by omega) dX2_findError_9 (by decide) (fun c_9 => ?_) (fun c_9 => ?_)
      ·
        have hv9 : (vdC tx ln 80 0) = (false, p9) := by rw [hs, show 80 - k = 0 by omega]; rfl
        refine lv_aload_n hx hb dX2_findError_43 rfl (lv_at hl 1 rfl) ?_
        refine r_get hx hb hts hown hw.q 0 2 hin2 rfl rfl (by decide) k19 rfl dX2_findError_44 ?_
        have hw : Wd D A [(cC, .char)] (wT cC t9 tx ln ((vdC tx ln 80 0).2) j1 j2 j3 j4) s s.heap H locs := by rw [hv9]; exact hw
        exact hE (j1, j2, j3, j4) dX2_findError_47 (rfl) (Nat.le_of_ble_eq_true rfl) (Nat.le_of_ble_eq_true rfl) (hw.sub [0, 1] [] (by decide) rfl rfl) (by rw [hv9]; rfl)
      ·
        refine lv_aload_n hx hb dX2_findError_12 rfl (lv_at hl 1 rfl) ?_
        refine cu_Vi (As := []) (rest := []) (wc := wT cC t9 tx ln p9 j1 j2 j3 j4) (wr := []) S (c_X2_readNext l D (sz := H.size) (cC := cC) (t9 := t9) (tx := tx) (ln := ln) (po := p9) (ki := j1) (rp := j2) (tg := j3) (nu := j4) (htx := htx) (hln := by omega) (hpo := by omega)) (cwV 0 hts gX2_findError_X2_readNext rfl rfl rfl (by decide +kernel) ⟨Nat.le_of_ble_eq_true rfl, Nat.le_of_ble_eq_true rfl⟩) hw hA [0, 1] [] [0] rfl rfl rfl (by decide) (by decide) (by decide) 0 rfl rfl rfl hl.1 (Nat.le_of_ble_eq_true rfl) ⟨Nat.le_of_ble_eq_true rfl, Nat.le_of_ble_eq_true rfl⟩ rfl dX2_findError_13 (fun r_13 u_13 H locs e_13 hw => ?_)
        obtain ⟨u0_13, u1_13, u2_13, u3_13⟩ := u_13
        have hw : Wd D A [(cC, .char)] (wT cC t9 tx ln ((rxC tx ln p9).2.1) u0_13 u1_13 u2_13 u3_13) s s.heap H locs := hw
        obtain ⟨e_13, x_13⟩ := e_13
        have e_13 : r_13 = b2 ((rxC tx ln p9).1 = true) := e_13
        subst e_13
        refine r_if_neB (tgt := 24) hx hb dX2_findError_16 (by decide) (fun c_16 => ?_) (fun c_16 => ?_)
        ·
          refine lv_aload_n hx hb dX2_findError_24 rfl (lv_at hl 1 rfl) ?_
          refine r_get hx hb hts hown hw.q 0 2 hin2 rfl rfl (by decide) k19 rfl dX2_findError_25 ?_
          refine lv_aload_n hx hb dX2_findError_28 rfl (lv_at hl 1 rfl) ?_
          refine r_get hx hb hts hown hw.q 0 1 hin2 rfl rfl (by decide) k15 rfl dX2_findError_29 ?_
          refine r_icmp_neN (tgt := 37) hx hb (by omega) (by omega) dX2_findError_32 (by decide) (fun c_32 => ?_) (fun c_32 => ?_)
          ·
            refine lv_iinc (v := nI (k + 1)) (lv' := [(1, .int (nI (k + 1))), (0, .ref (t9 0))]) hx hb dX2_findError_37 hl (k := 0) rfl (nI_add k 1) (by decide) rfl (fun ls hl => ?_)
            refine lv_goto (tgt := 6) hx hb dX2_findError_40 (by decide) ?_
            have hl : lv_has ls 2 [(1, .int (nI (k + 1))), (0, .ref (t9 0))] := lv_sub hl [0, 1] rfl
            have hw : Wd D A [(cC, .char)] (wT cC t9 tx ln ((rxC tx ln p9).2.1) u0_13 u1_13 u2_13 u3_13) s s.heap H locs := Eq.mp (congrArg (fun z9 => Wd D A [(cC, .char)] (wT cC t9 tx ln z9 u0_13 u1_13 u2_13 u3_13) s s.heap H locs) (show (rxC tx ln p9).2.1 = ((rxC tx ln p9).2.1) from by first | rfl | simp_all)) hw
            exact ih_6 (k + 1) ((rxC tx ln p9).2.1) (u0_13) (u1_13) (u2_13) (u3_13) (by omega) (by omega) (by rw [hs, show 80 - k = (80 - (k + 1)) + 1 by omega, vdC, if_pos c_16, if_neg c_32]) ((rxC_le hln hp9).2.1) _ _ hw ls hl
          ·
            have hv9 : (vdC tx ln 80 0) = (true, (rxC tx ln p9).2.1) := by rw [hs, show 80 - k = (80 - (k + 1)) + 1 by omega, vdC, if_pos c_16, if_pos c_32]
            refine lv_iconst (v := (-1)) hx hb dX2_findError_35 kc_iconst_m1 ?_
            have hw : Wd D A [(cC, .char)] (wT cC t9 tx ln ((vdC tx ln 80 0).2) u0_13 u1_13 u2_13 u3_13) s s.heap H locs := by rw [hv9]; exact hw
            exact hE (u0_13, u1_13, u2_13, u3_13) dX2_findError_36 (rfl) (Nat.le_of_ble_eq_true rfl) (Nat.le_of_ble_eq_true rfl) (hw.sub [0, 1] [] (by decide) rfl rfl) (by rw [hv9]; rfl)
        ·
          have hv9 : (vdC tx ln 80 0) = (false, (rxC tx ln p9).2.1) := by rw [hs, show 80 - k = (80 - (k + 1)) + 1 by omega, vdC, if_neg c_16]
          refine lv_aload_n hx hb dX2_findError_19 rfl (lv_at hl 1 rfl) ?_
          refine r_get hx hb hts hown hw.q 0 2 hin2 rfl rfl (by decide) k19 rfl dX2_findError_20 ?_
          have hw : Wd D A [(cC, .char)] (wT cC t9 tx ln ((vdC tx ln 80 0).2) u0_13 u1_13 u2_13 u3_13) s s.heap H locs := by rw [hv9]; exact hw
          exact hE (u0_13, u1_13, u2_13, u3_13) dX2_findError_23 (rfl) (Nat.le_of_ble_eq_true rfl) (Nat.le_of_ble_eq_true rfl) (hw.sub [0, 1] [] (by decide) rfl rfl) (by rw [hv9]; rfl)
  have hl : lv_has ls 2 [(1, .int (nI 0)), (0, .ref (t9 0))] := lv_sub hl [0, 1] rfl
  have hw : Wd D A [(cC, .char)] (wT cC t9 tx ln 0 ki rp tg nu) s s.heap H locs := hw
  exact L6_1 (80 + 1) (0) (0) (ki) (rp) (tg) (nu) (by omega) (by omega) (rfl) (Nat.zero_le _) _ _ hw ls hl
abbrev rmX2_append : Room := { frames := 0, cells := 0, slots := 0, locals := 0 }
set_option maxHeartbeats 4000000 in
set_option maxRecDepth 100000 in
theorem c_X2_append (l : Launch) (D : va_G) (sz : Nat) (cC : ClassId) (t9 : Nat → Nat) (tx : Nat → Nat) (ln po : Nat) (ki rp tg nu : Int32) (c9 : Nat) (htx : ∀ i, tx i < 127) (hln : ln ≤ 80) (hpo : po < 1000) (hc9 : c9 < 127) (hl8 : ln < 80) : MUv l yX2_append wsX2_append rmX2_append [.ref (t9 0), .int (nI c9)] D [(cC, .char)] (wT cC t9 tx ln po ki rp tg nu) sz (fun (_ : Unit) => True) (fun _ => []) (fun _ => wT cC t9 (updN tx ln c9) (ln + 1) po ki rp tg nu) 0 0 := by
  refine met_v (own := RX2) (cc := cX2_append) (maxL := 2) (by decide) rfl rfl (Nat.le_of_ble_eq_true rfl) ?_
  intro p e s m args below meth c Q A hsz S hmn hw hA hE ls hl
  obtain ⟨hx, hb, hml, hown, hts⟩ := id S
  have k15 := hts (.fieldLink RX2 15 "CausalTable$Text" "length" "I") (by decide +kernel)
  have hin2 := (show ∀ w ∈ wsX20, w ∈ wsX2_append by decide +kernel)
  have k9 := hts (.fieldLink RX2 9 "CausalTable$Text" "characters" "[C") (by decide +kernel)
  have hl : lv_has ls 2 [(0, .ref (t9 0)), (1, .int (nI c9))] := hl
  refine lv_aload_n hx hb dX2_append_0 rfl (lv_at hl 0 rfl) ?_
  refine r_get hx hb hts hown hw.q 0 1 hin2 rfl rfl (by decide) k15 rfl dX2_append_1 ?_
  refine lv_bipush (v := nI 80) hx hb dX2_append_4 kc_bipush_80 ?_
  refine r_icmp_geN (tgt := 29) hx hb (by omega) (by omega) dX2_append_6 (by decide) (fun c_6 => ?_) (fun c_6 => ?_)
  ·
    exact absurd c_6 (by omega)
  ·
    refine lv_aload_n hx hb dX2_append_9 rfl (lv_at hl 0 rfl) ?_
    refine r_get hx hb hts hown hw.q 0 0 hin2 rfl rfl (by decide) k9 rfl dX2_append_10 ?_
    refine lv_aload_n hx hb dX2_append_13 rfl (lv_at hl 0 rfl) ?_
    refine r_get hx hb hts hown hw.q 0 1 hin2 rfl rfl (by decide) k15 rfl dX2_append_14 ?_
    refine lv_iload_n hx hb dX2_append_17 rfl (lv_at hl 1 rfl) ?_
    refine r_cast hx hb hw 1 0 rfl rfl (i := ln) (y := nI c9) (pk_chr hc9) (by omega) (by decide) dX2_append_18 (fun H locs hw => ?_)
    have hw : Wd D A [(cC, .char)] (wT cC t9 (updN tx ln c9) ln po ki rp tg nu) s s.heap H locs := Eq.mp (congrArg (fun z => Wd D A [(cC, .char)] z s s.heap H locs) (wT_tx)) hw
    refine lv_aload_n hx hb dX2_append_19 rfl (lv_at hl 0 rfl) ?_
    refine lv_dup hx hb dX2_append_20 rfl ?_
    refine r_get hx hb hts hown hw.q 0 1 hin2 rfl rfl (by decide) k15 rfl dX2_append_21 ?_
    refine lv_iconst (v := nI 1) hx hb dX2_append_24 kc_iconst_1 ?_
    refine r_addN hx hb dX2_append_25 ?_
    refine r_put hx hb hts hown hw 0 1 (ty := .int) tyX2 tyX2_ok nmX2 hin2 rfl rfl (by decide) k15 rfl (by decide +kernel) rfl rfl (Nat.le_of_ble_eq_true rfl) dX2_append_26 (fun H locs hw => ?_)
    have hw : Wd D A [(cC, .char)] (wT cC t9 (updN tx ln c9) (ln + 1) po ki rp tg nu) s s.heap H locs := hw
    exact hE () dX2_append_29 (Nat.le_of_ble_eq_true rfl) (Nat.le_of_ble_eq_true rfl) (hw.sub [0, 1] [] (by decide) rfl rfl) trivial
