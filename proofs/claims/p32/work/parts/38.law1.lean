/-! the law: what its helpers tell -/

abbrev rmL_cell : Room := { frames := 0, cells := 0, slots := 0, locals := 0 }
/-- the k-th int of the script, or one made up behind its end -/
def cellF (xs : Nat → Int32) (L k : Nat) : Int32 := if k < L then xs k else 1812433253 * nI (k + 227)
theorem pm_tl (Y P a : va_W) : ((Y ++ P) ++ a).Perm ((Y ++ a) ++ P) := by
  rw [List.append_assoc, List.append_assoc]
  exact List.perm_append_comm.append_left _
theorem b2_cg {P Q : Prop} [Decidable P] [Decidable Q] (h : P ↔ Q) : b2 P = b2 Q := by
  by_cases c : P
  · rw [b2_t c, b2_t (h.mp c)]
  · rw [b2_f c, b2_f (fun z => c (h.mpr z))]
theorem c_L_cell (l : Launch) (b L : Nat) (xs : Nat → Int32) (k : Nat) (hL : L ≤ 260) (hk : k < 100000) : MSi l yL_cell wsL_cell rmL_cell [.ref b, .int (nI k)] b L xs (fun rz => rz = cellF xs L k) := by
  refine met_s (own := RL) (cc := cL_cell) (maxL := 2) (ty := .int) (by decide) rfl rfl (Nat.le_of_ble_eq_true rfl) ?_
  intro p e s m args below meth c Q S hX hbl hE ls hl
  obtain ⟨hx, hb, hml, hown, hts⟩ := id S
  have kc := hts (.constant RL 7 (1812433253)) (by decide +kernel)
  have hl : lv_has ls 2 [(0, .ref b), (1, .int (nI k))] := hl
  refine lv_iload_n hx hb dL_cell_0 rfl (lv_at hl 1 rfl) ?_
  refine lv_aload_n hx hb dL_cell_1 rfl (lv_at hl 0 rfl) ?_
  refine va_slen (A := fun _ => False) hx hb hX hbl id va_S.rf dL_cell_2 ?_
  refine r_icmp_geN (y := L) (tgt := 12) hx hb (by omega) (by omega) dL_cell_3 (by decide) (fun c_3 => ?_) (fun c_3 => ?_)
  · refine lv_ldc (v := 1812433253) hx hb hown kc dL_cell_12 ?_
    refine lv_iload_n hx hb dL_cell_14 rfl (lv_at hl 1 rfl) ?_
    refine lv_sipush (v := nI 227) hx hb dL_cell_15 (by decide +kernel) ?_
    refine r_addN hx hb dL_cell_18 ?_
    refine lv_imul hx hb dL_cell_19 ?_
    exact hE dL_cell_20 rfl (by rw [cellF, if_neg (by omega)])
  · refine lv_aload_n hx hb dL_cell_6 rfl (lv_at hl 0 rfl) ?_
    refine lv_iload_n hx hb dL_cell_7 rfl (lv_at hl 1 rfl) ?_
    refine va_sld (A := fun _ => False) hx hb hX hbl id va_S.rf (vp_in_nI c_3 (by omega)) dL_cell_8 ?_
    refine lv_goto (tgt := 20) hx hb dL_cell_9 (by decide) ?_
    exact hE dL_cell_20 rfl (by rw [cellF, if_pos c_3, nI_clamp (by omega)])
abbrev rmL_up : Room := { frames := 0, cells := 0, slots := 0, locals := 0 }
set_option maxHeartbeats 4000000 in
set_option maxRecDepth 100000 in
theorem c_L_up (l : Launch) (D : va_G) (v : Int32) (n : Nat) (hn0 : 0 < n) (hn1 : n < 2147483648) : MQi l yL_up wsL_up rmL_up [.int v, .int (nI n)] D [] ([]) (fun rz => rz = nI (uvN v n)) := by
  refine met_q (own := RL) (cc := cL_up) (maxL := 2) (ty := .int) (by decide) rfl rfl (Nat.le_of_ble_eq_true rfl) ?_
  intro p e s m args below meth c Q S hq hE ls hl
  obtain ⟨hx, hb, hml, hown, hts⟩ := id S
  have ki8 := hts (.constant RL 8 (2147483647)) (by decide +kernel)
  have hl : lv_has ls 2 [(0, .int v), (1, .int (nI n))] := hl
  refine lv_iload_n hx hb dL_up_0 rfl (lv_at hl 0 rfl) ?_
  refine lv_ldc (v := 2147483647) hx hb hown ki8 dL_up_1 ?_
  refine lv_iand hx hb dL_up_3 ?_
  refine r_top hx (show v &&& (2147483647) = nI (v.toBitVec.toNat % 2 ^ 31) from pk_and v 31 (by decide)) ?_
  refine lv_iload_n hx hb dL_up_4 rfl (lv_at hl 1 rfl) ?_
  refine r_remN hx hb (by omega) (by omega) (by omega) dL_up_5 ?_
  exact hE dL_up_6 (rfl) (show nI ((v.toBitVec.toNat % 2 ^ 31) % n) = nI (uvN v n) from rfl)
abbrev rmL_cells : Room := { frames := 4, cells := 0, slots := 0, locals := 93 }
set_option maxHeartbeats 4000000 in
set_option maxRecDepth 100000 in
theorem c_L_cells (l : Launch) (D : va_G) (sz : Nat) (cI cR cC : ClassId) (x9 : Nat) (q : Nat → Nat) (st : St) (h9 : Nat → Nat) (ad : Nat → Nat → Nat) (sv : Nat → St) (ol n7 n8 : Nat) (t9 : Nat → Nat) (tx : Nat → Nat) (ln po : Nat) (ki rp tg nu : Int32) (r : Nat) (hh : hI ol n7 n8) (hr : r < 4) : MXl l yL_cells wsL_cells rmL_cells [.ref x9, .int (nI r)] D [(cI, .int), (cR, .object RX1), (cC, .char)] ([(x9, .inr (3, [.ref (q 0), .ref (h9 0), .ref (t9 0)]))] ++ wS cI q st ++ wR cR h9 (fr7 ad n8) ol n7 ++ wT cC t9 tx ln po ki rp tg nu ++ wP cI ad sv n8) sz (fun rz (u9 : Unit) => rz = cellsV st r) (fun u9 => []) (fun u9 => [(x9, .inr (3, [.ref (q 0), .ref (h9 0), .ref (t9 0)]))] ++ wS cI q st ++ wR cR h9 (fr7 ad n8) ol n7 ++ wT cC t9 tx ln po ki rp tg nu ++ wP cI ad sv n8) 0 0 := by
  refine met_xl (own := RL) (cc := cL_cells) (maxL := 6) (by decide) rfl rfl (Nat.le_of_ble_eq_true rfl) ?_
  intro p e s m args below meth c Q A hsz S hz hw hA hE ls hl
  obtain ⟨hx, hb, hml, hown, hts⟩ := id S
  have kl9 := hts (.constantLong RL 9 (67)) (by decide +kernel)
  have kl11 := hts (.constantLong RL 11 (31)) (by decide +kernel)
  have hl : lv_has ls 6 [(0, .ref x9), (1, .int (nI r))] := hl
  refine lv_ldc2 (v := 67) hx hb hown kl9 dL_cells_0 ?_
  refine lv_lstore_n (lv' := [(2, .long (67 : Int64)), (0, .ref x9), (1, .int (nI r))]) hx hb dL_cells_3 rfl hl (by decide) rfl (fun ls hl => ?_)
  refine lv_iconst (v := nI 0) hx hb dL_cells_4 kc_iconst_0 ?_
  refine lv_istore (lv' := [(4, .int (nI 0)), (2, .long (67 : Int64)), (0, .ref x9), (1, .int (nI r))]) hx hb dL_cells_5 hl (by decide) rfl (fun ls hl => ?_)
  have L7_1 : ∀ (fu_2 w : Nat), w ≤ 6 → 6 - w < fu_2 → ∀ (H : Heap) (locs : List Loc), Wd D A [(cI, .int), (cR, .object RX1), (cC, .char)] (([(x9, .inr (3, [.ref (q 0), .ref (h9 0), .ref (t9 0)]))] : va_W) ++ wS cI q st ++ wR cR h9 (fr7 ad n8) ol n7 ++ wT cC t9 tx ln po ki rp tg nu ++ wP cI ad sv n8) s s.heap H locs → ∀ ls : Array Slot, lv_has ls 6 [(4, .int (nI w)), (2, .long (ceW st r w)), (0, .ref x9), (1, .int (nI r))] → W p l e rmL_cells s m args below meth c H locs 0 0 Q (F0 m 7 ls []) := by
    intro fu_2
    induction fu_2 with
    | zero => intro w _ h9; exact absurd h9 (Nat.not_lt_zero _)
    | succ fu_2 ih_7 =>
      intro w hk_7 hf_7 H locs hw ls hl
      refine lv_iload hx hb dL_cells_7 (lv_at hl 0 rfl) ?_
      refine lv_bipush (v := nI 6) hx hb dL_cells_9 kc_bipush_6 ?_
      refine r_icmp_geN (tgt := 121) hx hb (by omega) (by omega) dL_cells_11 (by decide) (fun c_11 => ?_) (fun c_11 => ?_)
      ·
        refine lv_lload_n hx hb dL_cells_121 rfl (lv_at hl 1 rfl) ?_
        exact hE () dL_cells_122 (Nat.le_of_ble_eq_true rfl) (Nat.le_of_ble_eq_true rfl) ⟨⟨hw.1.1, fun k q hk => by cases hk⟩, hw.2.1, hw.2.2.1, hw.2.2.2⟩ (show ceW st r w = cellsV st r from by rw [show w = 6 by omega]; rfl)
      ·
        refine lv_ldc2 (v := 31) hx hb hown kl11 dL_cells_14 ?_
        refine lv_ldc2 (v := 31) hx hb hown kl11 dL_cells_17 ?_
        refine lv_ldc2 (v := 31) hx hb hown kl11 dL_cells_20 ?_
        refine lv_ldc2 (v := 31) hx hb hown kl11 dL_cells_23 ?_
        refine lv_lload_n hx hb dL_cells_26 rfl (lv_at hl 1 rfl) ?_
        refine lv_lmul hx hb dL_cells_27 ?_
        refine lv_aload_n hx hb dL_cells_28 rfl (lv_at hl 2 rfl) ?_
        refine lv_iload_n hx hb dL_cells_29 rfl (lv_at hl 3 rfl) ?_
        refine lv_iload hx hb dL_cells_30 (lv_at hl 0 rfl) ?_
        refine cpx_i (w1 := fun (u9 : Unit) => ([(x9, .inr (3, [.ref (q 0), .ref (h9 0), .ref (t9 0)]))] : va_W) ++ wS cI q st ++ wR cR h9 (fr7 ad n8) ol n7 ++ wT cC t9 tx ln po ki rp tg nu) (pl := fun (u9 : Unit) => wP cI ad sv n8) (As := [.int (nI r), .int (nI w)]) (rest := [.long ((31 : Int64) * (ceW st r w)), .long (31 : Int64), .long (31 : Int64), .long (31 : Int64)]) (wc := ([(x9, .inr (3, [.ref (q 0), .ref (h9 0), .ref (t9 0)]))] : va_W) ++ wS cI q st ++ wR cR h9 (fr7 ad n8) ol n7 ++ wT cC t9 tx ln po ki rp tg nu) (wr := []) S hz (c_X3_latest l D (sz := H.size) (cI := cI) (cR := cR) (cC := cC) (x9 := x9) (q := q) (st := st) (h9 := h9) (ad := ad) (sv := sv) (ol := ol) (n7 := n7) (n8 := n8) (t9 := t9) (tx := tx) (ln := ln) (po := po) (ki := ki) (rp := rp) (tg := tg) (nu := nu) (r := r) (w := w) (hh := hh) (hr := by omega) (hw5 := by omega)) (cwV 2 hts gL_cells_X3_latest rfl rfl rfl (by decide +kernel) ⟨Nat.le_of_ble_eq_true rfl, Nat.le_of_ble_eq_true rfl⟩) hw hA [0, 1, 2, 3, 4, 5, 6, 7, 8, 9, 10, 11] [] [0, 1, 2] rfl rfl (k0 := 12) rfl (by decide) rfl 0 rfl rfl rfl hl.1 (Nat.le_of_ble_eq_true rfl) ⟨Nat.le_of_ble_eq_true rfl, Nat.le_of_ble_eq_true rfl⟩ rfl dL_cells_32 (fun r_32 u_32 H locs e_32 hw => ?_)
        obtain ⟨⟩ := u_32
        have hw : Wd D A [(cI, .int), (cR, .object RX1), (cC, .char)] (([(x9, .inr (3, [.ref (q 0), .ref (h9 0), .ref (t9 0)]))] : va_W) ++ wS cI q st ++ wR cR h9 (fr7 ad n8) ol n7 ++ wT cC t9 tx ln po ki rp tg nu ++ wP cI ad sv n8) s s.heap H locs := hw
        have e_32 : r_32 = (ltE st (r * 480 + w * 80 + 0 * 4) 4).2 := e_32
        subst e_32
        refine lv_i2l hx hb dL_cells_35 rfl ?_
        refine lv_ladd hx hb dL_cells_36 ?_
        refine lv_lmul hx hb dL_cells_37 ?_
        refine lv_aload_n hx hb dL_cells_38 rfl (lv_at hl 2 rfl) ?_
        refine lv_iload_n hx hb dL_cells_39 rfl (lv_at hl 3 rfl) ?_
        refine lv_iload hx hb dL_cells_40 (lv_at hl 0 rfl) ?_
        refine cpx_i (w1 := fun (u9 : Unit) => ([(x9, .inr (3, [.ref (q 0), .ref (h9 0), .ref (t9 0)]))] : va_W) ++ wS cI q st ++ wR cR h9 (fr7 ad n8) ol n7 ++ wT cC t9 tx ln po ki rp tg nu) (pl := fun (u9 : Unit) => wP cI ad sv n8) (As := [.int (nI r), .int (nI w)]) (rest := [.long ((31 : Int64) * (((31 : Int64) * (ceW st r w)) + (((ltE st (r * 480 + w * 80 + 0 * 4) 4).2).toInt64))), .long (31 : Int64), .long (31 : Int64)]) (wc := ([(x9, .inr (3, [.ref (q 0), .ref (h9 0), .ref (t9 0)]))] : va_W) ++ wS cI q st ++ wR cR h9 (fr7 ad n8) ol n7 ++ wT cC t9 tx ln po ki rp tg nu) (wr := []) S hz (c_X3_greatest l D (sz := H.size) (cI := cI) (cR := cR) (cC := cC) (x9 := x9) (q := q) (st := st) (h9 := h9) (ad := ad) (sv := sv) (ol := ol) (n7 := n7) (n8 := n8) (t9 := t9) (tx := tx) (ln := ln) (po := po) (ki := ki) (rp := rp) (tg := tg) (nu := nu) (r := r) (w := w) (hh := hh) (hr := by omega) (hw5 := by omega)) (cwV 2 hts gL_cells_X3_greatest rfl rfl rfl (by decide +kernel) ⟨Nat.le_of_ble_eq_true rfl, Nat.le_of_ble_eq_true rfl⟩) hw hA [0, 1, 2, 3, 4, 5, 6, 7, 8, 9, 10, 11] [] [0, 1, 2] rfl rfl (k0 := 12) rfl (by decide) rfl 0 rfl rfl rfl hl.1 (Nat.le_of_ble_eq_true rfl) ⟨Nat.le_of_ble_eq_true rfl, Nat.le_of_ble_eq_true rfl⟩ rfl dL_cells_42 (fun r_42 u_42 H locs e_42 hw => ?_)
        obtain ⟨⟩ := u_42
        have hw : Wd D A [(cI, .int), (cR, .object RX1), (cC, .char)] (([(x9, .inr (3, [.ref (q 0), .ref (h9 0), .ref (t9 0)]))] : va_W) ++ wS cI q st ++ wR cR h9 (fr7 ad n8) ol n7 ++ wT cC t9 tx ln po ki rp tg nu ++ wP cI ad sv n8) s s.heap H locs := hw
        have e_42 : r_42 = grE st (r * 480 + w * 80 + 2 * 4) 4 := e_42
        subst e_42
        refine lv_i2l hx hb dL_cells_45 rfl ?_
        refine lv_ladd hx hb dL_cells_46 ?_
        refine lv_lmul hx hb dL_cells_47 ?_
        refine lv_aload_n hx hb dL_cells_48 rfl (lv_at hl 2 rfl) ?_
        refine lv_iload_n hx hb dL_cells_49 rfl (lv_at hl 3 rfl) ?_
        refine lv_iload hx hb dL_cells_50 (lv_at hl 0 rfl) ?_
        refine cpx_i (w1 := fun (u9 : Unit) => ([(x9, .inr (3, [.ref (q 0), .ref (h9 0), .ref (t9 0)]))] : va_W) ++ wS cI q st ++ wR cR h9 (fr7 ad n8) ol n7 ++ wT cC t9 tx ln po ki rp tg nu) (pl := fun (u9 : Unit) => wP cI ad sv n8) (As := [.int (nI r), .int (nI w)]) (rest := [.long ((31 : Int64) * (((31 : Int64) * (((31 : Int64) * (ceW st r w)) + (((ltE st (r * 480 + w * 80 + 0 * 4) 4).2).toInt64))) + ((grE st (r * 480 + w * 80 + 2 * 4) 4).toInt64))), .long (31 : Int64)]) (wc := ([(x9, .inr (3, [.ref (q 0), .ref (h9 0), .ref (t9 0)]))] : va_W) ++ wS cI q st ++ wR cR h9 (fr7 ad n8) ol n7 ++ wT cC t9 tx ln po ki rp tg nu) (wr := []) S hz (c_X3_counter l D (sz := H.size) (cI := cI) (cR := cR) (cC := cC) (x9 := x9) (q := q) (st := st) (h9 := h9) (ad := ad) (sv := sv) (ol := ol) (n7 := n7) (n8 := n8) (t9 := t9) (tx := tx) (ln := ln) (po := po) (ki := ki) (rp := rp) (tg := tg) (nu := nu) (r := r) (w := w) (hh := hh) (hr := by omega) (hw5 := by omega)) (cwV 2 hts gL_cells_X3_counter rfl rfl rfl (by decide +kernel) ⟨Nat.le_of_ble_eq_true rfl, Nat.le_of_ble_eq_true rfl⟩) hw hA [0, 1, 2, 3, 4, 5, 6, 7, 8, 9, 10, 11] [] [0, 1, 2] rfl rfl (k0 := 12) rfl (by decide) rfl 0 rfl rfl rfl hl.1 (Nat.le_of_ble_eq_true rfl) ⟨Nat.le_of_ble_eq_true rfl, Nat.le_of_ble_eq_true rfl⟩ rfl dL_cells_52 (fun r_52 u_52 H locs e_52 hw => ?_)
        obtain ⟨⟩ := u_52
        have hw : Wd D A [(cI, .int), (cR, .object RX1), (cC, .char)] (([(x9, .inr (3, [.ref (q 0), .ref (h9 0), .ref (t9 0)]))] : va_W) ++ wS cI q st ++ wR cR h9 (fr7 ad n8) ol n7 ++ wT cC t9 tx ln po ki rp tg nu ++ wP cI ad sv n8) s s.heap H locs := hw
        have e_52 : r_52 = smE st (r * 480 + w * 80 + 3 * 4) (cE 3 * 4 - 3 * 4) := e_52
        subst e_52
        refine lv_i2l hx hb dL_cells_55 rfl ?_
        refine lv_ladd hx hb dL_cells_56 ?_
        refine lv_lmul hx hb dL_cells_57 ?_
        refine lv_aload_n hx hb dL_cells_58 rfl (lv_at hl 2 rfl) ?_
        refine lv_iload_n hx hb dL_cells_59 rfl (lv_at hl 3 rfl) ?_
        refine lv_iload hx hb dL_cells_60 (lv_at hl 0 rfl) ?_
        refine cpx_i (w1 := fun (u9 : Unit) => ([(x9, .inr (3, [.ref (q 0), .ref (h9 0), .ref (t9 0)]))] : va_W) ++ wS cI q st ++ wR cR h9 (fr7 ad n8) ol n7 ++ wT cC t9 tx ln po ki rp tg nu) (pl := fun (u9 : Unit) => wP cI ad sv n8) (As := [.int (nI r), .int (nI w)]) (rest := [.long ((31 : Int64) * (((31 : Int64) * (((31 : Int64) * (((31 : Int64) * (ceW st r w)) + (((ltE st (r * 480 + w * 80 + 0 * 4) 4).2).toInt64))) + ((grE st (r * 480 + w * 80 + 2 * 4) 4).toInt64))) + ((smE st (r * 480 + w * 80 + 3 * 4) (cE 3 * 4 - 3 * 4)).toInt64)))]) (wc := ([(x9, .inr (3, [.ref (q 0), .ref (h9 0), .ref (t9 0)]))] : va_W) ++ wS cI q st ++ wR cR h9 (fr7 ad n8) ol n7 ++ wT cC t9 tx ln po ki rp tg nu) (wr := []) S hz (c_X3_elements l D (sz := H.size) (cI := cI) (cR := cR) (cC := cC) (x9 := x9) (q := q) (st := st) (h9 := h9) (ad := ad) (sv := sv) (ol := ol) (n7 := n7) (n8 := n8) (t9 := t9) (tx := tx) (ln := ln) (po := po) (ki := ki) (rp := rp) (tg := tg) (nu := nu) (r := r) (w := w) (hh := hh) (hr := by omega) (hw5 := by omega)) (cwV 2 hts gL_cells_X3_elements rfl rfl rfl (by decide +kernel) ⟨Nat.le_of_ble_eq_true rfl, Nat.le_of_ble_eq_true rfl⟩) hw hA [0, 1, 2, 3, 4, 5, 6, 7, 8, 9, 10, 11] [] [0, 1, 2] rfl rfl (k0 := 12) rfl (by decide) rfl 0 rfl rfl rfl hl.1 (Nat.le_of_ble_eq_true rfl) ⟨Nat.le_of_ble_eq_true rfl, Nat.le_of_ble_eq_true rfl⟩ rfl dL_cells_62 (fun r_62 u_62 H locs e_62 hw => ?_)
        obtain ⟨⟩ := u_62
        have hw : Wd D A [(cI, .int), (cR, .object RX1), (cC, .char)] (([(x9, .inr (3, [.ref (q 0), .ref (h9 0), .ref (t9 0)]))] : va_W) ++ wS cI q st ++ wR cR h9 (fr7 ad n8) ol n7 ++ wT cC t9 tx ln po ki rp tg nu ++ wP cI ad sv n8) s s.heap H locs := hw
        have e_62 : r_62 = ebE st (r * 480 + w * 80 + 4 * 4) 64 := e_62
        subst e_62
        refine lv_i2l hx hb dL_cells_65 rfl ?_
        refine lv_ladd hx hb dL_cells_66 ?_
        refine lv_lstore_n (lv' := [(2, .long (((31 : Int64) * (((31 : Int64) * (((31 : Int64) * (((31 : Int64) * (ceW st r w)) + (((ltE st (r * 480 + w * 80 + 0 * 4) 4).2).toInt64))) + ((grE st (r * 480 + w * 80 + 2 * 4) 4).toInt64))) + ((smE st (r * 480 + w * 80 + 3 * 4) (cE 3 * 4 - 3 * 4)).toInt64))) + ((ebE st (r * 480 + w * 80 + 4 * 4) 64).toInt64))), (4, .int (nI w)), (0, .ref x9), (1, .int (nI r))]) hx hb dL_cells_67 rfl hl (by decide) rfl (fun ls hl => ?_)
        refine lv_iconst (v := nI 0) hx hb dL_cells_68 kc_iconst_0 ?_
        refine lv_istore (lv' := [(5, .int (nI 0)), (2, .long (((31 : Int64) * (((31 : Int64) * (((31 : Int64) * (((31 : Int64) * (ceW st r w)) + (((ltE st (r * 480 + w * 80 + 0 * 4) 4).2).toInt64))) + ((grE st (r * 480 + w * 80 + 2 * 4) 4).toInt64))) + ((smE st (r * 480 + w * 80 + 3 * 4) (cE 3 * 4 - 3 * 4)).toInt64))) + ((ebE st (r * 480 + w * 80 + 4 * 4) 64).toInt64))), (4, .int (nI w)), (0, .ref x9), (1, .int (nI r))]) hx hb dL_cells_69 hl (by decide) rfl (fun ls hl => ?_)
        have L71_3 : ∀ (fu_4 k : Nat), k ≤ 5 → 5 - k < fu_4 → ∀ (H : Heap) (locs : List Loc), Wd D A [(cI, .int), (cR, .object RX1), (cC, .char)] (([(x9, .inr (3, [.ref (q 0), .ref (h9 0), .ref (t9 0)]))] : va_W) ++ wS cI q st ++ wR cR h9 (fr7 ad n8) ol n7 ++ wT cC t9 tx ln po ki rp tg nu ++ wP cI ad sv n8) s s.heap H locs → ∀ ls : Array Slot, lv_has ls 6 [(5, .int (nI k)), (2, .long (ceK st r w (31 * (31 * (31 * (31 * ceW st r w + ((ltE st (r * 480 + w * 80 + 0 * 4) 4).2).toInt64) + (grE st (r * 480 + w * 80 + 2 * 4) 4).toInt64) + (smE st (r * 480 + w * 80 + 3 * 4) (cE 3 * 4 - 3 * 4)).toInt64) + (ebE st (r * 480 + w * 80 + 4 * 4) 64).toInt64) k)), (4, .int (nI w)), (0, .ref x9), (1, .int (nI r))] → W p l e rmL_cells s m args below meth c H locs 0 0 Q (F0 m 71 ls []) := by
          intro fu_4
          induction fu_4 with
          | zero => intro k _ h9; exact absurd h9 (Nat.not_lt_zero _)
          | succ fu_4 ih_71 =>
            intro k hk_71 hf_71 H locs hw ls hl
            refine lv_iload hx hb dL_cells_71 (lv_at hl 0 rfl) ?_
            refine lv_iconst (v := nI 5) hx hb dL_cells_73 kc_iconst_5 ?_
            refine r_icmp_geN (tgt := 115) hx hb (by omega) (by omega) dL_cells_74 (by decide) (fun c_74 => ?_) (fun c_74 => ?_)
            ·
              refine lv_iinc (v := nI (w + 1)) (lv' := [(4, .int (nI (w + 1))), (5, .int (nI k)), (2, .long (ceK st r w (31 * (31 * (31 * (31 * ceW st r w + ((ltE st (r * 480 + w * 80 + 0 * 4) 4).2).toInt64) + (grE st (r * 480 + w * 80 + 2 * 4) 4).toInt64) + (smE st (r * 480 + w * 80 + 3 * 4) (cE 3 * 4 - 3 * 4)).toInt64) + (ebE st (r * 480 + w * 80 + 4 * 4) 64).toInt64) k)), (0, .ref x9), (1, .int (nI r))]) hx hb dL_cells_115 hl (k := 2) rfl (nI_add w 1) (by decide) rfl (fun ls hl => ?_)
              refine lv_goto (tgt := 7) hx hb dL_cells_118 (by decide) ?_
              have hl : lv_has ls 6 [(4, .int (nI (w + 1))), (2, .long (ceK st r w (31 * (31 * (31 * (31 * ceW st r w + ((ltE st (r * 480 + w * 80 + 0 * 4) 4).2).toInt64) + (grE st (r * 480 + w * 80 + 2 * 4) 4).toInt64) + (smE st (r * 480 + w * 80 + 3 * 4) (cE 3 * 4 - 3 * 4)).toInt64) + (ebE st (r * 480 + w * 80 + 4 * 4) 64).toInt64) k)), (0, .ref x9), (1, .int (nI r))] := lv_sub hl [0, 2, 3, 4] rfl
              have hl : lv_has ls 6 [(4, .int (nI (w + 1))), (2, .long (ceW st r (w + 1))), (0, .ref x9), (1, .int (nI r))] := lv_rep hl 1 rfl (congrArg Value.long (show ceK st r w (31 * (31 * (31 * (31 * ceW st r w + ((ltE st (r * 480 + w * 80 + 0 * 4) 4).2).toInt64) + (grE st (r * 480 + w * 80 + 2 * 4) 4).toInt64) + (smE st (r * 480 + w * 80 + 3 * 4) (cE 3 * 4 - 3 * 4)).toInt64) + (ebE st (r * 480 + w * 80 + 4 * 4) 64).toInt64) k = ceW st r (w + 1) from by rw [show k = 5 by omega]; rfl))
              have hw : Wd D A [(cI, .int), (cR, .object RX1), (cC, .char)] (([(x9, .inr (3, [.ref (q 0), .ref (h9 0), .ref (t9 0)]))] : va_W) ++ wS cI q st ++ wR cR h9 (fr7 ad n8) ol n7 ++ wT cC t9 tx ln po ki rp tg nu ++ wP cI ad sv n8) s s.heap H locs := hw
              exact ih_7 (w + 1) (by omega) (by omega) _ _ hw ls hl
            ·
              refine lv_ldc2 (v := 31) hx hb hown kl11 dL_cells_77 ?_
              refine lv_ldc2 (v := 31) hx hb hown kl11 dL_cells_80 ?_
              refine lv_lload_n hx hb dL_cells_83 rfl (lv_at hl 1 rfl) ?_
              refine lv_lmul hx hb dL_cells_84 ?_
              refine lv_aload_n hx hb dL_cells_85 rfl (lv_at hl 3 rfl) ?_
              refine lv_iload_n hx hb dL_cells_86 rfl (lv_at hl 4 rfl) ?_
              refine lv_iload hx hb dL_cells_87 (lv_at hl 2 rfl) ?_
              refine lv_iload hx hb dL_cells_89 (lv_at hl 0 rfl) ?_
              refine cpx_i (w1 := fun (u9 : Unit) => ([(x9, .inr (3, [.ref (q 0), .ref (h9 0), .ref (t9 0)]))] : va_W) ++ wS cI q st ++ wR cR h9 (fr7 ad n8) ol n7 ++ wT cC t9 tx ln po ki rp tg nu) (pl := fun (u9 : Unit) => wP cI ad sv n8) (As := [.int (nI r), .int (nI w), .int (nI k)]) (rest := [.long ((31 : Int64) * (ceK st r w (31 * (31 * (31 * (31 * ceW st r w + ((ltE st (r * 480 + w * 80 + 0 * 4) 4).2).toInt64) + (grE st (r * 480 + w * 80 + 2 * 4) 4).toInt64) + (smE st (r * 480 + w * 80 + 3 * 4) (cE 3 * 4 - 3 * 4)).toInt64) + (ebE st (r * 480 + w * 80 + 4 * 4) 64).toInt64) k)), .long (31 : Int64)]) (wc := ([(x9, .inr (3, [.ref (q 0), .ref (h9 0), .ref (t9 0)]))] : va_W) ++ wS cI q st ++ wR cR h9 (fr7 ad n8) ol n7 ++ wT cC t9 tx ln po ki rp tg nu) (wr := []) S hz (c_X3_entries l D (sz := H.size) (cI := cI) (cR := cR) (cC := cC) (x9 := x9) (q := q) (st := st) (h9 := h9) (ad := ad) (sv := sv) (ol := ol) (n7 := n7) (n8 := n8) (t9 := t9) (tx := tx) (ln := ln) (po := po) (ki := ki) (rp := rp) (tg := tg) (nu := nu) (r := r) (w := w) (g := k) (hh := hh) (hr := by omega) (hw5 := by omega) (hg := by omega)) (cwV 3 hts gL_cells_X3_entries rfl rfl rfl (by decide +kernel) ⟨Nat.le_of_ble_eq_true rfl, Nat.le_of_ble_eq_true rfl⟩) hw hA [0, 1, 2, 3, 4, 5, 6, 7, 8, 9, 10, 11] [] [0, 1, 2] rfl rfl (k0 := 12) rfl (by decide) rfl 0 rfl rfl rfl hl.1 (Nat.le_of_ble_eq_true rfl) ⟨Nat.le_of_ble_eq_true rfl, Nat.le_of_ble_eq_true rfl⟩ rfl dL_cells_91 (fun r_91 u_91 H locs e_91 hw => ?_)
              obtain ⟨⟩ := u_91
              have hw : Wd D A [(cI, .int), (cR, .object RX1), (cC, .char)] (([(x9, .inr (3, [.ref (q 0), .ref (h9 0), .ref (t9 0)]))] : va_W) ++ wS cI q st ++ wR cR h9 (fr7 ad n8) ol n7 ++ wT cC t9 tx ln po ki rp tg nu ++ wP cI ad sv n8) s s.heap H locs := hw
              have e_91 : r_91 = nI (cntE st.1 (r * 480 + w * 80 + k * 4) (cE k * 4 - k * 4)) := e_91
              subst e_91
              refine lv_i2l hx hb dL_cells_94 rfl ?_
              refine lv_ladd hx hb dL_cells_95 ?_
              refine lv_lmul hx hb dL_cells_96 ?_
              refine lv_aload_n hx hb dL_cells_97 rfl (lv_at hl 3 rfl) ?_
              refine lv_iload_n hx hb dL_cells_98 rfl (lv_at hl 4 rfl) ?_
              refine lv_iload hx hb dL_cells_99 (lv_at hl 2 rfl) ?_
              refine lv_iload hx hb dL_cells_101 (lv_at hl 0 rfl) ?_
              refine cpx_i (w1 := fun (u9 : Unit) => ([(x9, .inr (3, [.ref (q 0), .ref (h9 0), .ref (t9 0)]))] : va_W) ++ wS cI q st ++ wR cR h9 (fr7 ad n8) ol n7 ++ wT cC t9 tx ln po ki rp tg nu) (pl := fun (u9 : Unit) => wP cI ad sv n8) (As := [.int (nI r), .int (nI w), .int (nI k)]) (rest := [.long ((31 : Int64) * (((31 : Int64) * (ceK st r w (31 * (31 * (31 * (31 * ceW st r w + ((ltE st (r * 480 + w * 80 + 0 * 4) 4).2).toInt64) + (grE st (r * 480 + w * 80 + 2 * 4) 4).toInt64) + (smE st (r * 480 + w * 80 + 3 * 4) (cE 3 * 4 - 3 * 4)).toInt64) + (ebE st (r * 480 + w * 80 + 4 * 4) 64).toInt64) k)) + ((nI (cntE st.1 (r * 480 + w * 80 + k * 4) (cE k * 4 - k * 4))).toInt64)))]) (wc := ([(x9, .inr (3, [.ref (q 0), .ref (h9 0), .ref (t9 0)]))] : va_W) ++ wS cI q st ++ wR cR h9 (fr7 ad n8) ol n7 ++ wT cC t9 tx ln po ki rp tg nu) (wr := []) S hz (c_X3_sibling l D (sz := H.size) (cI := cI) (cR := cR) (cC := cC) (x9 := x9) (q := q) (st := st) (h9 := h9) (ad := ad) (sv := sv) (ol := ol) (n7 := n7) (n8 := n8) (t9 := t9) (tx := tx) (ln := ln) (po := po) (ki := ki) (rp := rp) (tg := tg) (nu := nu) (r := r) (w := w) (x := nI k) (hh := hh) (hr := hr) (hw5 := by omega) (hx0 := Int32.not_lt.mp (nI_pos (by omega)))) (cwV 3 hts gL_cells_X3_sibling rfl rfl rfl (by decide +kernel) ⟨Nat.le_of_ble_eq_true rfl, Nat.le_of_ble_eq_true rfl⟩) hw hA [0, 1, 2, 3, 4, 5, 6, 7, 8, 9, 10, 11] [] [0, 1, 2] rfl rfl (k0 := 12) rfl (by decide) rfl 0 rfl rfl rfl hl.1 (Nat.le_of_ble_eq_true rfl) ⟨Nat.le_of_ble_eq_true rfl, Nat.le_of_ble_eq_true rfl⟩ rfl dL_cells_103 (fun r_103 u_103 H locs e_103 hw => ?_)
              obtain ⟨⟩ := u_103
              have hw : Wd D A [(cI, .int), (cR, .object RX1), (cC, .char)] (([(x9, .inr (3, [.ref (q 0), .ref (h9 0), .ref (t9 0)]))] : va_W) ++ wS cI q st ++ wR cR h9 (fr7 ad n8) ol n7 ++ wT cC t9 tx ln po ki rp tg nu ++ wP cI ad sv n8) s s.heap H locs := hw
              have e_103 : r_103 = sbE st (r * 480 + w * 80 + 1 * 4) 4 (nI k) 4 0 := e_103
              subst e_103
              refine lv_i2l hx hb dL_cells_106 rfl ?_
              refine lv_ladd hx hb dL_cells_107 ?_
              refine lv_lstore_n (lv' := [(2, .long (((31 : Int64) * (((31 : Int64) * (ceK st r w (31 * (31 * (31 * (31 * ceW st r w + ((ltE st (r * 480 + w * 80 + 0 * 4) 4).2).toInt64) + (grE st (r * 480 + w * 80 + 2 * 4) 4).toInt64) + (smE st (r * 480 + w * 80 + 3 * 4) (cE 3 * 4 - 3 * 4)).toInt64) + (ebE st (r * 480 + w * 80 + 4 * 4) 64).toInt64) k)) + ((nI (cntE st.1 (r * 480 + w * 80 + k * 4) (cE k * 4 - k * 4))).toInt64))) + ((sbE st (r * 480 + w * 80 + 1 * 4) 4 (nI k) 4 0).toInt64))), (5, .int (nI k)), (4, .int (nI w)), (0, .ref x9), (1, .int (nI r))]) hx hb dL_cells_108 rfl hl (by decide) rfl (fun ls hl => ?_)
              refine lv_iinc (v := nI (k + 1)) (lv' := [(5, .int (nI (k + 1))), (2, .long (((31 : Int64) * (((31 : Int64) * (ceK st r w (31 * (31 * (31 * (31 * ceW st r w + ((ltE st (r * 480 + w * 80 + 0 * 4) 4).2).toInt64) + (grE st (r * 480 + w * 80 + 2 * 4) 4).toInt64) + (smE st (r * 480 + w * 80 + 3 * 4) (cE 3 * 4 - 3 * 4)).toInt64) + (ebE st (r * 480 + w * 80 + 4 * 4) 64).toInt64) k)) + ((nI (cntE st.1 (r * 480 + w * 80 + k * 4) (cE k * 4 - k * 4))).toInt64))) + ((sbE st (r * 480 + w * 80 + 1 * 4) 4 (nI k) 4 0).toInt64))), (4, .int (nI w)), (0, .ref x9), (1, .int (nI r))]) hx hb dL_cells_109 hl (k := 1) rfl (nI_add k 1) (by decide) rfl (fun ls hl => ?_)
              refine lv_goto (tgt := 71) hx hb dL_cells_112 (by decide) ?_
              have hl : lv_has ls 6 [(5, .int (nI (k + 1))), (2, .long (((31 : Int64) * (((31 : Int64) * (ceK st r w (31 * (31 * (31 * (31 * ceW st r w + ((ltE st (r * 480 + w * 80 + 0 * 4) 4).2).toInt64) + (grE st (r * 480 + w * 80 + 2 * 4) 4).toInt64) + (smE st (r * 480 + w * 80 + 3 * 4) (cE 3 * 4 - 3 * 4)).toInt64) + (ebE st (r * 480 + w * 80 + 4 * 4) 64).toInt64) k)) + ((nI (cntE st.1 (r * 480 + w * 80 + k * 4) (cE k * 4 - k * 4))).toInt64))) + ((sbE st (r * 480 + w * 80 + 1 * 4) 4 (nI k) 4 0).toInt64))), (4, .int (nI w)), (0, .ref x9), (1, .int (nI r))] := lv_sub hl [0, 1, 2, 3, 4] rfl
              have hl : lv_has ls 6 [(5, .int (nI (k + 1))), (2, .long (ceK st r w (31 * (31 * (31 * (31 * ceW st r w + ((ltE st (r * 480 + w * 80 + 0 * 4) 4).2).toInt64) + (grE st (r * 480 + w * 80 + 2 * 4) 4).toInt64) + (smE st (r * 480 + w * 80 + 3 * 4) (cE 3 * 4 - 3 * 4)).toInt64) + (ebE st (r * 480 + w * 80 + 4 * 4) 64).toInt64) (k + 1))), (4, .int (nI w)), (0, .ref x9), (1, .int (nI r))] := lv_rep hl 1 rfl (congrArg Value.long (show ((31 : Int64) * (((31 : Int64) * (ceK st r w (31 * (31 * (31 * (31 * ceW st r w + ((ltE st (r * 480 + w * 80 + 0 * 4) 4).2).toInt64) + (grE st (r * 480 + w * 80 + 2 * 4) 4).toInt64) + (smE st (r * 480 + w * 80 + 3 * 4) (cE 3 * 4 - 3 * 4)).toInt64) + (ebE st (r * 480 + w * 80 + 4 * 4) 64).toInt64) k)) + ((nI (cntE st.1 (r * 480 + w * 80 + k * 4) (cE k * 4 - k * 4))).toInt64))) + ((sbE st (r * 480 + w * 80 + 1 * 4) 4 (nI k) 4 0).toInt64) = ceK st r w (31 * (31 * (31 * (31 * ceW st r w + ((ltE st (r * 480 + w * 80 + 0 * 4) 4).2).toInt64) + (grE st (r * 480 + w * 80 + 2 * 4) 4).toInt64) + (smE st (r * 480 + w * 80 + 3 * 4) (cE 3 * 4 - 3 * 4)).toInt64) + (ebE st (r * 480 + w * 80 + 4 * 4) 64).toInt64) (k + 1) from rfl))
              have hw : Wd D A [(cI, .int), (cR, .object RX1), (cC, .char)] (([(x9, .inr (3, [.ref (q 0), .ref (h9 0), .ref (t9 0)]))] : va_W) ++ wS cI q st ++ wR cR h9 (fr7 ad n8) ol n7 ++ wT cC t9 tx ln po ki rp tg nu ++ wP cI ad sv n8) s s.heap H locs := hw
              exact ih_71 (k + 1) (by omega) (by omega) _ _ hw ls hl
        have hl : lv_has ls 6 [(5, .int (nI 0)), (2, .long (((31 : Int64) * (((31 : Int64) * (((31 : Int64) * (((31 : Int64) * (ceW st r w)) + (((ltE st (r * 480 + w * 80 + 0 * 4) 4).2).toInt64))) + ((grE st (r * 480 + w * 80 + 2 * 4) 4).toInt64))) + ((smE st (r * 480 + w * 80 + 3 * 4) (cE 3 * 4 - 3 * 4)).toInt64))) + ((ebE st (r * 480 + w * 80 + 4 * 4) 64).toInt64))), (4, .int (nI w)), (0, .ref x9), (1, .int (nI r))] := lv_sub hl [0, 1, 2, 3, 4] rfl
        have hl : lv_has ls 6 [(5, .int (nI 0)), (2, .long (ceK st r w (31 * (31 * (31 * (31 * ceW st r w + ((ltE st (r * 480 + w * 80 + 0 * 4) 4).2).toInt64) + (grE st (r * 480 + w * 80 + 2 * 4) 4).toInt64) + (smE st (r * 480 + w * 80 + 3 * 4) (cE 3 * 4 - 3 * 4)).toInt64) + (ebE st (r * 480 + w * 80 + 4 * 4) 64).toInt64) 0)), (4, .int (nI w)), (0, .ref x9), (1, .int (nI r))] := lv_rep hl 1 rfl (congrArg Value.long (show ((31 : Int64) * (((31 : Int64) * (((31 : Int64) * (((31 : Int64) * (ceW st r w)) + (((ltE st (r * 480 + w * 80 + 0 * 4) 4).2).toInt64))) + ((grE st (r * 480 + w * 80 + 2 * 4) 4).toInt64))) + ((smE st (r * 480 + w * 80 + 3 * 4) (cE 3 * 4 - 3 * 4)).toInt64))) + ((ebE st (r * 480 + w * 80 + 4 * 4) 64).toInt64) = ceK st r w (31 * (31 * (31 * (31 * ceW st r w + ((ltE st (r * 480 + w * 80 + 0 * 4) 4).2).toInt64) + (grE st (r * 480 + w * 80 + 2 * 4) 4).toInt64) + (smE st (r * 480 + w * 80 + 3 * 4) (cE 3 * 4 - 3 * 4)).toInt64) + (ebE st (r * 480 + w * 80 + 4 * 4) 64).toInt64) 0 from rfl))
        have hw : Wd D A [(cI, .int), (cR, .object RX1), (cC, .char)] (([(x9, .inr (3, [.ref (q 0), .ref (h9 0), .ref (t9 0)]))] : va_W) ++ wS cI q st ++ wR cR h9 (fr7 ad n8) ol n7 ++ wT cC t9 tx ln po ki rp tg nu ++ wP cI ad sv n8) s s.heap H locs := hw
        exact L71_3 (5 + 1) (0) (by omega) (by omega) _ _ hw ls hl
  have hl : lv_has ls 6 [(4, .int (nI 0)), (2, .long (67 : Int64)), (0, .ref x9), (1, .int (nI r))] := lv_sub hl [0, 1, 2, 3] rfl
  have hl : lv_has ls 6 [(4, .int (nI 0)), (2, .long (ceW st r 0)), (0, .ref x9), (1, .int (nI r))] := lv_rep hl 1 rfl (congrArg Value.long (show (67 : Int64) = ceW st r 0 from rfl))
  have hw : Wd D A [(cI, .int), (cR, .object RX1), (cC, .char)] (([(x9, .inr (3, [.ref (q 0), .ref (h9 0), .ref (t9 0)]))] : va_W) ++ wS cI q st ++ wR cR h9 (fr7 ad n8) ol n7 ++ wT cC t9 tx ln po ki rp tg nu ++ wP cI ad sv n8) s s.heap s.heap [] := hw
  exact L7_1 (6 + 1) (0) (by omega) (by omega) _ _ hw ls hl
abbrev rmL_told : Room := { frames := 5, cells := 0, slots := 0, locals := 118 }
set_option maxHeartbeats 4000000 in
set_option maxRecDepth 100000 in
theorem c_L_told (l : Launch) (D : va_G) (sz : Nat) (cI cR cC : ClassId) (x9 : Nat) (q : Nat → Nat) (st : St) (h9 : Nat → Nat) (ad : Nat → Nat → Nat) (sv : Nat → St) (ol n7 n8 : Nat) (t9 : Nat → Nat) (tx : Nat → Nat) (ln po : Nat) (ki rp tg nu : Int32)  (hh : hI ol n7 n8)  : MXl l yL_told wsL_told rmL_told [.ref x9] D [(cI, .int), (cR, .object RX1), (cC, .char)] ([(x9, .inr (3, [.ref (q 0), .ref (h9 0), .ref (t9 0)]))] ++ wS cI q st ++ wR cR h9 (fr7 ad n8) ol n7 ++ wT cC t9 tx ln po ki rp tg nu ++ wP cI ad sv n8) sz (fun rz (u9 : Unit) => rz = toldV st) (fun u9 => []) (fun u9 => [(x9, .inr (3, [.ref (q 0), .ref (h9 0), .ref (t9 0)]))] ++ wS cI q st ++ wR cR h9 (fr7 ad n8) ol n7 ++ wT cC t9 tx ln po ki rp tg nu ++ wP cI ad sv n8) 0 0 := by
  refine met_xl (own := RL) (cc := cL_told) (maxL := 5) (by decide) rfl rfl (Nat.le_of_ble_eq_true rfl) ?_
  intro p e s m args below meth c Q A hsz S hz hw hA hE ls hl
  obtain ⟨hx, hb, hml, hown, hts⟩ := id S
  have kl35 := hts (.constantLong RL 35 (71)) (by decide +kernel)
  have kl11 := hts (.constantLong RL 11 (31)) (by decide +kernel)
  have hl : lv_has ls 5 [(0, .ref x9)] := hl
  refine lv_ldc2 (v := 71) hx hb hown kl35 dL_told_0 ?_
  refine lv_lstore_n (lv' := [(1, .long (71 : Int64)), (0, .ref x9)]) hx hb dL_told_3 rfl hl (by decide) rfl (fun ls hl => ?_)
  refine lv_iconst (v := nI 0) hx hb dL_told_4 kc_iconst_0 ?_
  refine lv_istore_n (lv' := [(3, .int (nI 0)), (1, .long (71 : Int64)), (0, .ref x9)]) hx hb dL_told_5 rfl hl (by decide) rfl (fun ls hl => ?_)
  have L6_1 : ∀ (fu_2 r : Nat), r ≤ 4 → 4 - r < fu_2 → ∀ (H : Heap) (locs : List Loc), Wd D A [(cI, .int), (cR, .object RX1), (cC, .char)] (([(x9, .inr (3, [.ref (q 0), .ref (h9 0), .ref (t9 0)]))] : va_W) ++ wS cI q st ++ wR cR h9 (fr7 ad n8) ol n7 ++ wT cC t9 tx ln po ki rp tg nu ++ wP cI ad sv n8) s s.heap H locs → ∀ ls : Array Slot, lv_has ls 5 [(3, .int (nI r)), (1, .long (tdW st r)), (0, .ref x9)] → W p l e rmL_told s m args below meth c H locs 0 0 Q (F0 m 6 ls []) := by
    intro fu_2
    induction fu_2 with
    | zero => intro r _ h9; exact absurd h9 (Nat.not_lt_zero _)
    | succ fu_2 ih_6 =>
      intro r hk_6 hf_6 H locs hw ls hl
      refine lv_iload_n hx hb dL_told_6 rfl (lv_at hl 0 rfl) ?_
      refine lv_iconst (v := nI 4) hx hb dL_told_7 kc_iconst_4 ?_
      refine r_icmp_geN (tgt := 82) hx hb (by omega) (by omega) dL_told_8 (by decide) (fun c_8 => ?_) (fun c_8 => ?_)
      ·
        refine lv_lload_n hx hb dL_told_82 rfl (lv_at hl 1 rfl) ?_
        exact hE () dL_told_83 (Nat.le_of_ble_eq_true rfl) (Nat.le_of_ble_eq_true rfl) ⟨⟨hw.1.1, fun k q hk => by cases hk⟩, hw.2.1, hw.2.2.1, hw.2.2.2⟩ (show tdW st r = toldV st from by rw [show r = 4 by omega]; rfl)
      ·
        refine lv_ldc2 (v := 31) hx hb hown kl11 dL_told_11 ?_
        refine lv_ldc2 (v := 31) hx hb hown kl11 dL_told_14 ?_
        refine lv_lload_n hx hb dL_told_17 rfl (lv_at hl 1 rfl) ?_
        refine lv_lmul hx hb dL_told_18 ?_
        refine lv_aload_n hx hb dL_told_19 rfl (lv_at hl 2 rfl) ?_
        refine lv_iload_n hx hb dL_told_20 rfl (lv_at hl 0 rfl) ?_
        refine cps_l (w1 := fun (u9 : Unit) => ([(x9, .inr (3, [.ref (q 0), .ref (h9 0), .ref (t9 0)]))] : va_W) ++ wS cI q st ++ wR cR h9 (fr7 ad n8) ol n7 ++ wT cC t9 tx ln po ki rp tg nu) (pl := fun (u9 : Unit) => wP cI ad sv n8) (As := [.ref x9, .int (nI r)]) (rest := [.long ((31 : Int64) * (tdW st r)), .long (31 : Int64)]) (wc := ([(x9, .inr (3, [.ref (q 0), .ref (h9 0), .ref (t9 0)]))] : va_W) ++ wS cI q st ++ wR cR h9 (fr7 ad n8) ol n7 ++ wT cC t9 tx ln po ki rp tg nu) (wr := []) S hz (c_L_cells l D (sz := H.size) (cI := cI) (cR := cR) (cC := cC) (x9 := x9) (q := q) (st := st) (h9 := h9) (ad := ad) (sv := sv) (ol := ol) (n7 := n7) (n8 := n8) (t9 := t9) (tx := tx) (ln := ln) (po := po) (ki := ki) (rp := rp) (tg := tg) (nu := nu) (r := r) (hh := hh) (hr := by omega)) (va_cwS 2 hts gL_told_L_cells rfl rfl rfl (by decide +kernel) ⟨Nat.le_of_ble_eq_true rfl, Nat.le_of_ble_eq_true rfl⟩) hw hA [0, 1, 2, 3, 4, 5, 6, 7, 8, 9, 10, 11] [] [0, 1, 2] rfl rfl (k0 := 12) rfl (by decide) rfl rfl hl.1 (Nat.le_of_ble_eq_true rfl) ⟨Nat.le_of_ble_eq_true rfl, Nat.le_of_ble_eq_true rfl⟩ rfl dL_told_21 (fun r_21 u_21 H locs e_21 hw => ?_)
        obtain ⟨⟩ := u_21
        have hw : Wd D A [(cI, .int), (cR, .object RX1), (cC, .char)] (([(x9, .inr (3, [.ref (q 0), .ref (h9 0), .ref (t9 0)]))] : va_W) ++ wS cI q st ++ wR cR h9 (fr7 ad n8) ol n7 ++ wT cC t9 tx ln po ki rp tg nu ++ wP cI ad sv n8) s s.heap H locs := hw
        have e_21 : r_21 = cellsV st r := e_21
        subst e_21
        refine lv_ladd hx hb dL_told_24 ?_
        refine lv_lmul hx hb dL_told_25 ?_
        refine lv_aload_n hx hb dL_told_26 rfl (lv_at hl 2 rfl) ?_
        refine lv_iload_n hx hb dL_told_27 rfl (lv_at hl 0 rfl) ?_
        refine cpx_i (w1 := fun (u9 : Unit) => ([(x9, .inr (3, [.ref (q 0), .ref (h9 0), .ref (t9 0)]))] : va_W) ++ wS cI q st ++ wR cR h9 (fr7 ad n8) ol n7 ++ wT cC t9 tx ln po ki rp tg nu) (pl := fun (u9 : Unit) => wP cI ad sv n8) (As := [.int (nI r)]) (rest := [.long ((31 : Int64) * (((31 : Int64) * (tdW st r)) + (cellsV st r)))]) (wc := ([(x9, .inr (3, [.ref (q 0), .ref (h9 0), .ref (t9 0)]))] : va_W) ++ wS cI q st ++ wR cR h9 (fr7 ad n8) ol n7 ++ wT cC t9 tx ln po ki rp tg nu) (wr := []) S hz (c_X3_clock l D (sz := H.size) (cI := cI) (cR := cR) (cC := cC) (x9 := x9) (q := q) (st := st) (h9 := h9) (ad := ad) (sv := sv) (ol := ol) (n7 := n7) (n8 := n8) (t9 := t9) (tx := tx) (ln := ln) (po := po) (ki := ki) (rp := rp) (tg := tg) (nu := nu) (r := r) (hh := hh) (hr := by omega)) (cwV 1 hts gL_told_X3_clock rfl rfl rfl (by decide +kernel) ⟨Nat.le_of_ble_eq_true rfl, Nat.le_of_ble_eq_true rfl⟩) hw hA [0, 1, 2, 3, 4, 5, 6, 7, 8, 9, 10, 11] [] [0, 1, 2] rfl rfl (k0 := 12) rfl (by decide) rfl 0 rfl rfl rfl hl.1 (Nat.le_of_ble_eq_true rfl) ⟨Nat.le_of_ble_eq_true rfl, Nat.le_of_ble_eq_true rfl⟩ rfl dL_told_28 (fun r_28 u_28 H locs e_28 hw => ?_)
        obtain ⟨⟩ := u_28
        have hw : Wd D A [(cI, .int), (cR, .object RX1), (cC, .char)] (([(x9, .inr (3, [.ref (q 0), .ref (h9 0), .ref (t9 0)]))] : va_W) ++ wS cI q st ++ wR cR h9 (fr7 ad n8) ol n7 ++ wT cC t9 tx ln po ki rp tg nu ++ wP cI ad sv n8) s s.heap H locs := hw
        have e_28 : r_28 = st.2.2.2.2.1 r := e_28
        subst e_28
        refine lv_i2l hx hb dL_told_31 rfl ?_
        refine lv_ladd hx hb dL_told_32 ?_
        refine lv_lstore_n (lv' := [(1, .long (((31 : Int64) * (((31 : Int64) * (tdW st r)) + (cellsV st r))) + ((st.2.2.2.2.1 r).toInt64))), (3, .int (nI r)), (0, .ref x9)]) hx hb dL_told_33 rfl hl (by decide) rfl (fun ls hl => ?_)
        refine lv_iconst (v := nI 0) hx hb dL_told_34 kc_iconst_0 ?_
        refine lv_istore (lv' := [(4, .int (nI 0)), (1, .long (((31 : Int64) * (((31 : Int64) * (tdW st r)) + (cellsV st r))) + ((st.2.2.2.2.1 r).toInt64))), (3, .int (nI r)), (0, .ref x9)]) hx hb dL_told_35 hl (by decide) rfl (fun ls hl => ?_)
        have L37_3 : ∀ (fu_4 k : Nat), k ≤ 4 → 4 - k < fu_4 → ∀ (H : Heap) (locs : List Loc), Wd D A [(cI, .int), (cR, .object RX1), (cC, .char)] (([(x9, .inr (3, [.ref (q 0), .ref (h9 0), .ref (t9 0)]))] : va_W) ++ wS cI q st ++ wR cR h9 (fr7 ad n8) ol n7 ++ wT cC t9 tx ln po ki rp tg nu ++ wP cI ad sv n8) s s.heap H locs → ∀ ls : Array Slot, lv_has ls 5 [(4, .int (nI k)), (1, .long (tdK st r (31 * (31 * tdW st r + cellsV st r) + (st.2.2.2.2.1 r).toInt64) k)), (3, .int (nI r)), (0, .ref x9)] → W p l e rmL_told s m args below meth c H locs 0 0 Q (F0 m 37 ls []) := by
          intro fu_4
          induction fu_4 with
          | zero => intro k _ h9; exact absurd h9 (Nat.not_lt_zero _)
          | succ fu_4 ih_37 =>
            intro k hk_37 hf_37 H locs hw ls hl
            refine lv_iload hx hb dL_told_37 (lv_at hl 0 rfl) ?_
            refine lv_iconst (v := nI 4) hx hb dL_told_39 kc_iconst_4 ?_
            refine r_icmp_geN (tgt := 76) hx hb (by omega) (by omega) dL_told_40 (by decide) (fun c_40 => ?_) (fun c_40 => ?_)
            ·
              refine lv_iinc (v := nI (r + 1)) (lv' := [(3, .int (nI (r + 1))), (4, .int (nI k)), (1, .long (tdK st r (31 * (31 * tdW st r + cellsV st r) + (st.2.2.2.2.1 r).toInt64) k)), (0, .ref x9)]) hx hb dL_told_76 hl (k := 2) rfl (nI_add r 1) (by decide) rfl (fun ls hl => ?_)
              refine lv_goto (tgt := 6) hx hb dL_told_79 (by decide) ?_
              have hl : lv_has ls 5 [(3, .int (nI (r + 1))), (1, .long (tdK st r (31 * (31 * tdW st r + cellsV st r) + (st.2.2.2.2.1 r).toInt64) k)), (0, .ref x9)] := lv_sub hl [0, 2, 3] rfl
              have hl : lv_has ls 5 [(3, .int (nI (r + 1))), (1, .long (tdW st (r + 1))), (0, .ref x9)] := lv_rep hl 1 rfl (congrArg Value.long (show tdK st r (31 * (31 * tdW st r + cellsV st r) + (st.2.2.2.2.1 r).toInt64) k = tdW st (r + 1) from by rw [show k = 4 by omega]; rfl))
              have hw : Wd D A [(cI, .int), (cR, .object RX1), (cC, .char)] (([(x9, .inr (3, [.ref (q 0), .ref (h9 0), .ref (t9 0)]))] : va_W) ++ wS cI q st ++ wR cR h9 (fr7 ad n8) ol n7 ++ wT cC t9 tx ln po ki rp tg nu ++ wP cI ad sv n8) s s.heap H locs := hw
              exact ih_6 (r + 1) (by omega) (by omega) _ _ hw ls hl
            ·
              refine lv_ldc2 (v := 31) hx hb hown kl11 dL_told_43 ?_
              refine lv_ldc2 (v := 31) hx hb hown kl11 dL_told_46 ?_
              refine lv_lload_n hx hb dL_told_49 rfl (lv_at hl 1 rfl) ?_
              refine lv_lmul hx hb dL_told_50 ?_
              refine lv_aload_n hx hb dL_told_51 rfl (lv_at hl 3 rfl) ?_
              refine lv_iload_n hx hb dL_told_52 rfl (lv_at hl 2 rfl) ?_
              refine lv_iload hx hb dL_told_53 (lv_at hl 0 rfl) ?_
              refine cpx_i (w1 := fun (u9 : Unit) => ([(x9, .inr (3, [.ref (q 0), .ref (h9 0), .ref (t9 0)]))] : va_W) ++ wS cI q st ++ wR cR h9 (fr7 ad n8) ol n7 ++ wT cC t9 tx ln po ki rp tg nu) (pl := fun (u9 : Unit) => wP cI ad sv n8) (As := [.int (nI r), .int (nI k)]) (rest := [.long ((31 : Int64) * (tdK st r (31 * (31 * tdW st r + cellsV st r) + (st.2.2.2.2.1 r).toInt64) k)), .long (31 : Int64)]) (wc := ([(x9, .inr (3, [.ref (q 0), .ref (h9 0), .ref (t9 0)]))] : va_W) ++ wS cI q st ++ wR cR h9 (fr7 ad n8) ol n7 ++ wT cC t9 tx ln po ki rp tg nu) (wr := []) S hz (c_X3_seen l D (sz := H.size) (cI := cI) (cR := cR) (cC := cC) (x9 := x9) (q := q) (st := st) (h9 := h9) (ad := ad) (sv := sv) (ol := ol) (n7 := n7) (n8 := n8) (t9 := t9) (tx := tx) (ln := ln) (po := po) (ki := ki) (rp := rp) (tg := tg) (nu := nu) (a := r) (b := k) (hh := hh) (ha := by omega) (hb4 := by omega)) (cwV 2 hts gL_told_X3_seen rfl rfl rfl (by decide +kernel) ⟨Nat.le_of_ble_eq_true rfl, Nat.le_of_ble_eq_true rfl⟩) hw hA [0, 1, 2, 3, 4, 5, 6, 7, 8, 9, 10, 11] [] [0, 1, 2] rfl rfl (k0 := 12) rfl (by decide) rfl 0 rfl rfl rfl hl.1 (Nat.le_of_ble_eq_true rfl) ⟨Nat.le_of_ble_eq_true rfl, Nat.le_of_ble_eq_true rfl⟩ rfl dL_told_55 (fun r_55 u_55 H locs e_55 hw => ?_)
              obtain ⟨⟩ := u_55
              have hw : Wd D A [(cI, .int), (cR, .object RX1), (cC, .char)] (([(x9, .inr (3, [.ref (q 0), .ref (h9 0), .ref (t9 0)]))] : va_W) ++ wS cI q st ++ wR cR h9 (fr7 ad n8) ol n7 ++ wT cC t9 tx ln po ki rp tg nu ++ wP cI ad sv n8) s s.heap H locs := hw
              have e_55 : r_55 = st.2.2.2.1 (r * 4 + k) := e_55
              subst e_55
              refine lv_i2l hx hb dL_told_58 rfl ?_
              refine lv_ladd hx hb dL_told_59 ?_
              refine lv_lmul hx hb dL_told_60 ?_
              refine lv_aload_n hx hb dL_told_61 rfl (lv_at hl 3 rfl) ?_
              refine lv_iload hx hb dL_told_62 (lv_at hl 0 rfl) ?_
              refine cpx_i (w1 := fun (u9 : Unit) => ([(x9, .inr (3, [.ref (q 0), .ref (h9 0), .ref (t9 0)]))] : va_W) ++ wS cI q st ++ wR cR h9 (fr7 ad n8) ol n7 ++ wT cC t9 tx ln po ki rp tg nu) (pl := fun (u9 : Unit) => wP cI ad sv n8) (As := [.int (nI k)]) (rest := [.long ((31 : Int64) * (((31 : Int64) * (tdK st r (31 * (31 * tdW st r + cellsV st r) + (st.2.2.2.2.1 r).toInt64) k)) + ((st.2.2.2.1 (r * 4 + k)).toInt64)))]) (wc := ([(x9, .inr (3, [.ref (q 0), .ref (h9 0), .ref (t9 0)]))] : va_W) ++ wS cI q st ++ wR cR h9 (fr7 ad n8) ol n7 ++ wT cC t9 tx ln po ki rp tg nu) (wr := []) S hz (c_X3_latestMerge l D (sz := H.size) (cI := cI) (cR := cR) (cC := cC) (x9 := x9) (q := q) (st := st) (h9 := h9) (ad := ad) (sv := sv) (ol := ol) (n7 := n7) (n8 := n8) (t9 := t9) (tx := tx) (ln := ln) (po := po) (ki := ki) (rp := rp) (tg := tg) (nu := nu) (c9 := k) (hh := hh) (hc := by omega)) (cwV 1 hts gL_told_X3_latestMerge rfl rfl rfl (by decide +kernel) ⟨Nat.le_of_ble_eq_true rfl, Nat.le_of_ble_eq_true rfl⟩) hw hA [0, 1, 2, 3, 4, 5, 6, 7, 8, 9, 10, 11] [] [0, 1, 2] rfl rfl (k0 := 12) rfl (by decide) rfl 0 rfl rfl rfl hl.1 (Nat.le_of_ble_eq_true rfl) ⟨Nat.le_of_ble_eq_true rfl, Nat.le_of_ble_eq_true rfl⟩ rfl dL_told_64 (fun r_64 u_64 H locs e_64 hw => ?_)
              obtain ⟨⟩ := u_64
              have hw : Wd D A [(cI, .int), (cR, .object RX1), (cC, .char)] (([(x9, .inr (3, [.ref (q 0), .ref (h9 0), .ref (t9 0)]))] : va_W) ++ wS cI q st ++ wR cR h9 (fr7 ad n8) ol n7 ++ wT cC t9 tx ln po ki rp tg nu ++ wP cI ad sv n8) s s.heap H locs := hw
              have e_64 : r_64 = st.2.2.2.2.2 k := e_64
              subst e_64
              refine lv_i2l hx hb dL_told_67 rfl ?_
              refine lv_ladd hx hb dL_told_68 ?_
              refine lv_lstore_n (lv' := [(1, .long (((31 : Int64) * (((31 : Int64) * (tdK st r (31 * (31 * tdW st r + cellsV st r) + (st.2.2.2.2.1 r).toInt64) k)) + ((st.2.2.2.1 (r * 4 + k)).toInt64))) + ((st.2.2.2.2.2 k).toInt64))), (4, .int (nI k)), (3, .int (nI r)), (0, .ref x9)]) hx hb dL_told_69 rfl hl (by decide) rfl (fun ls hl => ?_)
              refine lv_iinc (v := nI (k + 1)) (lv' := [(4, .int (nI (k + 1))), (1, .long (((31 : Int64) * (((31 : Int64) * (tdK st r (31 * (31 * tdW st r + cellsV st r) + (st.2.2.2.2.1 r).toInt64) k)) + ((st.2.2.2.1 (r * 4 + k)).toInt64))) + ((st.2.2.2.2.2 k).toInt64))), (3, .int (nI r)), (0, .ref x9)]) hx hb dL_told_70 hl (k := 1) rfl (nI_add k 1) (by decide) rfl (fun ls hl => ?_)
              refine lv_goto (tgt := 37) hx hb dL_told_73 (by decide) ?_
              have hl : lv_has ls 5 [(4, .int (nI (k + 1))), (1, .long (((31 : Int64) * (((31 : Int64) * (tdK st r (31 * (31 * tdW st r + cellsV st r) + (st.2.2.2.2.1 r).toInt64) k)) + ((st.2.2.2.1 (r * 4 + k)).toInt64))) + ((st.2.2.2.2.2 k).toInt64))), (3, .int (nI r)), (0, .ref x9)] := lv_sub hl [0, 1, 2, 3] rfl
              have hl : lv_has ls 5 [(4, .int (nI (k + 1))), (1, .long (tdK st r (31 * (31 * tdW st r + cellsV st r) + (st.2.2.2.2.1 r).toInt64) (k + 1))), (3, .int (nI r)), (0, .ref x9)] := lv_rep hl 1 rfl (congrArg Value.long (show ((31 : Int64) * (((31 : Int64) * (tdK st r (31 * (31 * tdW st r + cellsV st r) + (st.2.2.2.2.1 r).toInt64) k)) + ((st.2.2.2.1 (r * 4 + k)).toInt64))) + ((st.2.2.2.2.2 k).toInt64) = tdK st r (31 * (31 * tdW st r + cellsV st r) + (st.2.2.2.2.1 r).toInt64) (k + 1) from rfl))
              have hw : Wd D A [(cI, .int), (cR, .object RX1), (cC, .char)] (([(x9, .inr (3, [.ref (q 0), .ref (h9 0), .ref (t9 0)]))] : va_W) ++ wS cI q st ++ wR cR h9 (fr7 ad n8) ol n7 ++ wT cC t9 tx ln po ki rp tg nu ++ wP cI ad sv n8) s s.heap H locs := hw
              exact ih_37 (k + 1) (by omega) (by omega) _ _ hw ls hl
        have hl : lv_has ls 5 [(4, .int (nI 0)), (1, .long (((31 : Int64) * (((31 : Int64) * (tdW st r)) + (cellsV st r))) + ((st.2.2.2.2.1 r).toInt64))), (3, .int (nI r)), (0, .ref x9)] := lv_sub hl [0, 1, 2, 3] rfl
        have hl : lv_has ls 5 [(4, .int (nI 0)), (1, .long (tdK st r (31 * (31 * tdW st r + cellsV st r) + (st.2.2.2.2.1 r).toInt64) 0)), (3, .int (nI r)), (0, .ref x9)] := lv_rep hl 1 rfl (congrArg Value.long (show ((31 : Int64) * (((31 : Int64) * (tdW st r)) + (cellsV st r))) + ((st.2.2.2.2.1 r).toInt64) = tdK st r (31 * (31 * tdW st r + cellsV st r) + (st.2.2.2.2.1 r).toInt64) 0 from rfl))
        have hw : Wd D A [(cI, .int), (cR, .object RX1), (cC, .char)] (([(x9, .inr (3, [.ref (q 0), .ref (h9 0), .ref (t9 0)]))] : va_W) ++ wS cI q st ++ wR cR h9 (fr7 ad n8) ol n7 ++ wT cC t9 tx ln po ki rp tg nu ++ wP cI ad sv n8) s s.heap H locs := hw
        exact L37_3 (4 + 1) (0) (by omega) (by omega) _ _ hw ls hl
  have hl : lv_has ls 5 [(3, .int (nI 0)), (1, .long (71 : Int64)), (0, .ref x9)] := lv_sub hl [0, 1, 2] rfl
  have hl : lv_has ls 5 [(3, .int (nI 0)), (1, .long (tdW st 0)), (0, .ref x9)] := lv_rep hl 1 rfl (congrArg Value.long (show (71 : Int64) = tdW st 0 from rfl))
  have hw : Wd D A [(cI, .int), (cR, .object RX1), (cC, .char)] (([(x9, .inr (3, [.ref (q 0), .ref (h9 0), .ref (t9 0)]))] : va_W) ++ wS cI q st ++ wR cR h9 (fr7 ad n8) ol n7 ++ wT cC t9 tx ln po ki rp tg nu ++ wP cI ad sv n8) s s.heap s.heap [] := hw
  exact L6_1 (4 + 1) (0) (by omega) (by omega) _ _ hw ls hl
