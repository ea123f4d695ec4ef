/-! the law: holds -/
theorem cf_s (st : St) (a w : Nat) : cfS st a w + (if 1 < cntE st.1 (a * 480 + w * 80 + 1 * 4) (cE 1 * 4 - 1 * 4) then 1 else 0) = cfS st a (w + 1) := by
  rw [cfS]
  by_cases c9 : 1 < cntE st.1 (a * 480 + w * 80 + 1 * 4) (cE 1 * 4 - 1 * 4)
  · rw [if_pos c9, if_neg (by omega)]
  · rw [if_neg c9, if_pos (by omega)]
theorem cnt_c4 {f : Nat → Int32} {x g : Nat} (hg : g < 5) (h4 : ¬ g = 4) : cntE f x (cE g * 4 - g * 4) ≤ 4 := by
  have e : cE g * 4 - g * 4 = 4 := by unfold cE; rw [if_neg h4]; omega
  rw [e]; exact cntE_le f x 4
abbrev rmL_holds : Room := { frames := 5, cells := 0, slots := 0, locals := 118 }
set_option maxHeartbeats 4000000 in
set_option maxRecDepth 100000 in
theorem c_L_holds (l : Launch) (D : va_G) (sz : Nat) (cI cR cC : ClassId) (x9 : Nat) (q : Nat → Nat) (st : St) (h9 : Nat → Nat) (ad : Nat → Nat → Nat) (sv : Nat → St) (ol n7 n8 : Nat) (t9 : Nat → Nat) (tx : Nat → Nat) (ln po : Nat) (ki rp tg nu : Int32) (B : Nat) (hh : hI ol n7 n8) (hiv : Iv st B) (hB : B + 1 < 2 ^ 31) : MXi l yL_holds wsL_holds rmL_holds [.ref x9] D [(cI, .int), (cR, .object RX1), (cC, .char)] ([(x9, .inr (3, [.ref (q 0), .ref (h9 0), .ref (t9 0)]))] ++ wS cI q st ++ wR cR h9 (fr7 ad n8) ol n7 ++ wT cC t9 tx ln po ki rp tg nu ++ wP cI ad sv n8) sz (fun rz (u9 : Unit) => rz = nI 1) (fun u9 => []) (fun u9 => [(x9, .inr (3, [.ref (q 0), .ref (h9 0), .ref (t9 0)]))] ++ wS cI q st ++ wR cR h9 (fr7 ad n8) ol n7 ++ wT cC t9 tx ln po ki rp tg nu ++ wP cI ad sv n8) 0 0 := by
  refine met_xu (own := RL) (cc := cL_holds) (maxL := 7) (ty := .boolean) (by decide) rfl rfl (Nat.le_of_ble_eq_true rfl) ?_
  intro p e s m args below meth c Q A hsz S hz hw hA hE ls hl
  obtain ⟨hx, hb, hml, hown, hts⟩ := id S
  have cd100 := hts (.constantDouble RL 100 (4629137466983448576 : UInt64)) (by decide +kernel)
  have cd102 := hts (.constantDouble RL 102 (4629137495130946247 : UInt64)) (by decide +kernel)
  have hl : lv_has ls 7 [(0, .ref x9)] := hl
  refine lv_iconst (v := nI 1) hx hb dL_holds_0 kc_iconst_1 ?_
  refine lv_istore_n (lv' := [(1, .int (nI 1)), (0, .ref x9)]) hx hb dL_holds_1 rfl hl (by decide) rfl (fun ls hl => ?_)
  refine lv_iconst (v := nI 0) hx hb dL_holds_2 kc_iconst_0 ?_
  refine lv_istore_n (lv' := [(2, .int (nI 0)), (1, .int (nI 1)), (0, .ref x9)]) hx hb dL_holds_3 rfl hl (by decide) rfl (fun ls hl => ?_)
  have L4_1 : ∀ (fu_2 a : Nat), a ≤ 4 → 4 - a < fu_2 → ∀ (H : Heap) (locs : List Loc), Wd D A [(cI, .int), (cR, .object RX1), (cC, .char)] (([(x9, .inr (3, [.ref (q 0), .ref (h9 0), .ref (t9 0)]))] : va_W) ++ wS cI q st ++ wR cR h9 (fr7 ad n8) ol n7 ++ wT cC t9 tx ln po ki rp tg nu ++ wP cI ad sv n8) s s.heap H locs → ∀ ls : Array Slot, lv_has ls 7 [(2, .int (nI a)), (1, .int (nI 1)), (0, .ref x9)] → W p l e rmL_holds s m args below meth c H locs 0 0 Q (F0 m 4 ls []) := by
    intro fu_2
    induction fu_2 with
    | zero => intro a _ h9; exact absurd h9 (Nat.not_lt_zero _)
    | succ fu_2 ih_4 =>
      intro a hk_4 hf_4 H locs hw ls hl
      refine lv_iload_n hx hb dL_holds_4 rfl (lv_at hl 0 rfl) ?_
      refine lv_iconst (v := nI 4) hx hb dL_holds_5 kc_iconst_4 ?_
      refine r_icmp_geN (tgt := 429) hx hb (by omega) (by omega) dL_holds_6 (by decide) (fun c_6 => ?_) (fun c_6 => ?_)
      ·
        refine lv_aload_n hx hb dL_holds_429 rfl (lv_at hl 2 rfl) ?_
        refine cpx_d (w1 := fun (u9 : Unit) => ([(x9, .inr (3, [.ref (q 0), .ref (h9 0), .ref (t9 0)]))] : va_W) ++ wS cI q st ++ wR cR h9 (fr7 ad n8) ol n7 ++ wT cC t9 tx ln po ki rp tg nu) (pl := fun (u9 : Unit) => wP cI ad sv n8) (As := []) (rest := []) (wc := ([(x9, .inr (3, [.ref (q 0), .ref (h9 0), .ref (t9 0)]))] : va_W) ++ wS cI q st ++ wR cR h9 (fr7 ad n8) ol n7 ++ wT cC t9 tx ln po ki rp tg nu) (wr := []) S hz (c_X3_agreement l D (sz := H.size) (cI := cI) (cR := cR) (cC := cC) (x9 := x9) (q := q) (st := st) (h9 := h9) (ad := ad) (sv := sv) (ol := ol) (n7 := n7) (n8 := n8) (t9 := t9) (tx := tx) (ln := ln) (po := po) (ki := ki) (rp := rp) (tg := tg) (nu := nu) (hh := hh)) (cwV 0 hts gL_holds_X3_agreement rfl rfl rfl (by decide +kernel) ⟨Nat.le_of_ble_eq_true rfl, Nat.le_of_ble_eq_true rfl⟩) hw hA [0, 1, 2, 3, 4, 5, 6, 7, 8, 9, 10, 11] [] [0, 1, 2] rfl rfl (k0 := 12) rfl (by decide) rfl 0 rfl rfl rfl hl.1 (Nat.le_of_ble_eq_true rfl) ⟨Nat.le_of_ble_eq_true rfl, Nat.le_of_ble_eq_true rfl⟩ rfl dL_holds_430 (fun r_430 u_430 H locs e_430 hw => ?_)
        obtain ⟨⟩ := u_430
        have hw : Wd D A [(cI, .int), (cR, .object RX1), (cC, .char)] (([(x9, .inr (3, [.ref (q 0), .ref (h9 0), .ref (t9 0)]))] : va_W) ++ wS cI q st ++ wR cR h9 (fr7 ad n8) ol n7 ++ wT cC t9 tx ln po ki rp tg nu ++ wP cI ad sv n8) s s.heap H locs := hw
        have e_430 : r_430 = agF (agW st 6) := e_430
        subst e_430
        refine lv_ldc2d (v := d30) hx hb hown cd100 dL_holds_433 ?_
        refine lv_dmul hx hb dL_holds_436 (fl_n64 (ag_30 _ (Nat.lt_succ_of_le (agW_le st 6))).1) ?_
        refine lv_dstore_n (lv' := [(2, .double (FP.dmul (agF (agW st 6)) d30)), (1, .int (nI 1)), (0, .ref x9)]) hx hb dL_holds_437 rfl hl (by decide) rfl (fun ls hl => ?_)
        refine lv_iload_n hx hb dL_holds_438 rfl (lv_at hl 1 rfl) ?_
        refine lv_if_eq (tgt := 460) hx hb dL_holds_439 (by decide) (fun h => absurd h (by decide)) (fun _ => ?_)
        refine lv_dload_n hx hb dL_holds_442 rfl (lv_at hl 0 rfl) ?_
        refine lv_dconst0 hx hb dL_holds_443 ?_
        refine lv_dcmp hx hb dL_holds_444 ?_
        refine lv_if_lt (tgt := 460) hx hb dL_holds_445 (by decide) (fun h => absurd h ((ag_30 _ (Nat.lt_succ_of_le (agW_le st 6))).2.1)) (fun _ => ?_)
        refine lv_dload_n hx hb dL_holds_448 rfl (lv_at hl 0 rfl) ?_
        refine lv_ldc2d (v := (4629137495130946247 : UInt64)) hx hb hown cd102 dL_holds_449 ?_
        refine lv_dcmp hx hb dL_holds_452 ?_
        refine lv_if_gt (tgt := 460) hx hb dL_holds_453 (by decide) (fun h => absurd h ((ag_30 _ (Nat.lt_succ_of_le (agW_le st 6))).2.2)) (fun _ => ?_)
        refine lv_iconst (v := nI 1) hx hb dL_holds_456 kc_iconst_1 ?_
        refine lv_goto (tgt := 461) hx hb dL_holds_457 (by decide) ?_
        exact hE () dL_holds_461 (by first | rfl | exact b2_nz) (Nat.le_of_ble_eq_true rfl) (Nat.le_of_ble_eq_true rfl) ⟨⟨hw.1.1, fun k q hk => by cases hk⟩, hw.2.1, hw.2.2.1, hw.2.2.2⟩ (show nI 1 = nI 1 from rfl)
      ·
        refine lv_iconst (v := nI 0) hx hb dL_holds_9 kc_iconst_0 ?_
        refine lv_istore_n (lv' := [(3, .int (nI 0)), (2, .int (nI a)), (1, .int (nI 1)), (0, .ref x9)]) hx hb dL_holds_10 rfl hl (by decide) rfl (fun ls hl => ?_)
        refine lv_iload_n hx hb dL_holds_11 rfl (lv_at hl 2 rfl) ?_
        refine lv_if_eq (tgt := 33) hx hb dL_holds_12 (by decide) (fun h => absurd h (by decide)) (fun _ => ?_)
        refine lv_aload_n hx hb dL_holds_15 rfl (lv_at hl 3 rfl) ?_
        refine lv_iload_n hx hb dL_holds_16 rfl (lv_at hl 1 rfl) ?_
        refine cpx_i (w1 := fun (u9 : Unit) => ([(x9, .inr (3, [.ref (q 0), .ref (h9 0), .ref (t9 0)]))] : va_W) ++ wS cI q st ++ wR cR h9 (fr7 ad n8) ol n7 ++ wT cC t9 tx ln po ki rp tg nu) (pl := fun (u9 : Unit) => wP cI ad sv n8) (As := [.int (nI a)]) (rest := []) (wc := ([(x9, .inr (3, [.ref (q 0), .ref (h9 0), .ref (t9 0)]))] : va_W) ++ wS cI q st ++ wR cR h9 (fr7 ad n8) ol n7 ++ wT cC t9 tx ln po ki rp tg nu) (wr := []) S hz (c_X3_clock l D (sz := H.size) (cI := cI) (cR := cR) (cC := cC) (x9 := x9) (q := q) (st := st) (h9 := h9) (ad := ad) (sv := sv) (ol := ol) (n7 := n7) (n8 := n8) (t9 := t9) (tx := tx) (ln := ln) (po := po) (ki := ki) (rp := rp) (tg := tg) (nu := nu) (r := a) (hh := hh) (hr := by omega)) (cwV 1 hts gL_holds_X3_clock rfl rfl rfl (by decide +kernel) ⟨Nat.le_of_ble_eq_true rfl, Nat.le_of_ble_eq_true rfl⟩) hw hA [0, 1, 2, 3, 4, 5, 6, 7, 8, 9, 10, 11] [] [0, 1, 2] rfl rfl (k0 := 12) rfl (by decide) rfl 0 rfl rfl rfl hl.1 (Nat.le_of_ble_eq_true rfl) ⟨Nat.le_of_ble_eq_true rfl, Nat.le_of_ble_eq_true rfl⟩ rfl dL_holds_17 (fun r_17 u_17 H locs e_17 hw => ?_)
        obtain ⟨⟩ := u_17
        have hw : Wd D A [(cI, .int), (cR, .object RX1), (cC, .char)] (([(x9, .inr (3, [.ref (q 0), .ref (h9 0), .ref (t9 0)]))] : va_W) ++ wS cI q st ++ wR cR h9 (fr7 ad n8) ol n7 ++ wT cC t9 tx ln po ki rp tg nu ++ wP cI ad sv n8) s s.heap H locs := hw
        have e_17 : r_17 = st.2.2.2.2.1 a := e_17
        subst e_17
        refine lv_aload_n hx hb dL_holds_20 rfl (lv_at hl 3 rfl) ?_
        refine lv_iload_n hx hb dL_holds_21 rfl (lv_at hl 1 rfl) ?_
        refine lv_iload_n hx hb dL_holds_22 rfl (lv_at hl 1 rfl) ?_
        refine cpx_i (w1 := fun (u9 : Unit) => ([(x9, .inr (3, [.ref (q 0), .ref (h9 0), .ref (t9 0)]))] : va_W) ++ wS cI q st ++ wR cR h9 (fr7 ad n8) ol n7 ++ wT cC t9 tx ln po ki rp tg nu) (pl := fun (u9 : Unit) => wP cI ad sv n8) (As := [.int (nI a), .int (nI a)]) (rest := [.int (st.2.2.2.2.1 a)]) (wc := ([(x9, .inr (3, [.ref (q 0), .ref (h9 0), .ref (t9 0)]))] : va_W) ++ wS cI q st ++ wR cR h9 (fr7 ad n8) ol n7 ++ wT cC t9 tx ln po ki rp tg nu) (wr := []) S hz (c_X3_seen l D (sz := H.size) (cI := cI) (cR := cR) (cC := cC) (x9 := x9) (q := q) (st := st) (h9 := h9) (ad := ad) (sv := sv) (ol := ol) (n7 := n7) (n8 := n8) (t9 := t9) (tx := tx) (ln := ln) (po := po) (ki := ki) (rp := rp) (tg := tg) (nu := nu) (a := a) (b := a) (hh := hh) (ha := by omega) (hb4 := by omega)) (cwV 2 hts gL_holds_X3_seen rfl rfl rfl (by decide +kernel) ⟨Nat.le_of_ble_eq_true rfl, Nat.le_of_ble_eq_true rfl⟩) hw hA [0, 1, 2, 3, 4, 5, 6, 7, 8, 9, 10, 11] [] [0, 1, 2] rfl rfl (k0 := 12) rfl (by decide) rfl 0 rfl rfl rfl hl.1 (Nat.le_of_ble_eq_true rfl) ⟨Nat.le_of_ble_eq_true rfl, Nat.le_of_ble_eq_true rfl⟩ rfl dL_holds_23 (fun r_23 u_23 H locs e_23 hw => ?_)
        obtain ⟨⟩ := u_23
        have hw : Wd D A [(cI, .int), (cR, .object RX1), (cC, .char)] (([(x9, .inr (3, [.ref (q 0), .ref (h9 0), .ref (t9 0)]))] : va_W) ++ wS cI q st ++ wR cR h9 (fr7 ad n8) ol n7 ++ wT cC t9 tx ln po ki rp tg nu ++ wP cI ad sv n8) s s.heap H locs := hw
        have e_23 : r_23 = st.2.2.2.1 (a * 4 + a) := e_23
        subst e_23
        refine lv_icmp_lt (tgt := 33) hx hb dL_holds_26 (by decide) (fun h => absurd h (h_clk (Nat.lt_of_succ_lt hB) hiv (by omega))) (fun _ => ?_)
        refine lv_iconst (v := nI 1) hx hb dL_holds_29 kc_iconst_1 ?_
        refine lv_goto (tgt := 34) hx hb dL_holds_30 (by decide) ?_
        refine lv_istore_n (lv' := [(1, .int (nI 1)), (3, .int (nI 0)), (2, .int (nI a)), (0, .ref x9)]) hx hb dL_holds_34 rfl hl (by decide) rfl (fun ls hl => ?_)
        refine lv_iconst (v := nI 0) hx hb dL_holds_35 kc_iconst_0 ?_
        refine lv_istore (lv' := [(4, .int (nI 0)), (1, .int (nI 1)), (3, .int (nI 0)), (2, .int (nI a)), (0, .ref x9)]) hx hb dL_holds_36 hl (by decide) rfl (fun ls hl => ?_)
        have L38_3 : ∀ (fu_4 w : Nat), w ≤ 6 → 6 - w < fu_4 → ∀ (H : Heap) (locs : List Loc), Wd D A [(cI, .int), (cR, .object RX1), (cC, .char)] (([(x9, .inr (3, [.ref (q 0), .ref (h9 0), .ref (t9 0)]))] : va_W) ++ wS cI q st ++ wR cR h9 (fr7 ad n8) ol n7 ++ wT cC t9 tx ln po ki rp tg nu ++ wP cI ad sv n8) s s.heap H locs → ∀ ls : Array Slot, lv_has ls 7 [(4, .int (nI w)), (1, .int (nI 1)), (3, .int (nI (cfS st a w))), (2, .int (nI a)), (0, .ref x9)] → W p l e rmL_holds s m args below meth c H locs 0 0 Q (F0 m 38 ls []) := by
          intro fu_4
          induction fu_4 with
          | zero => intro w _ h9; exact absurd h9 (Nat.not_lt_zero _)
          | succ fu_4 ih_38 =>
            intro w hk_38 hf_38 H locs hw ls hl
            refine lv_iload hx hb dL_holds_38 (lv_at hl 0 rfl) ?_
            refine lv_bipush (v := nI 6) hx hb dL_holds_40 kc_bipush_6 ?_
            refine r_icmp_geN (tgt := 264) hx hb (by omega) (by omega) dL_holds_42 (by decide) (fun c_42 => ?_) (fun c_42 => ?_)
            ·
              have hk9 : w = 6 := by omega
              subst hk9
              refine lv_iconst (v := nI 0) hx hb dL_holds_264 kc_iconst_0 ?_
              refine lv_istore (lv' := [(4, .int (nI 0)), (1, .int (nI 1)), (3, .int (nI (cfS st a 6))), (2, .int (nI a)), (0, .ref x9)]) hx hb dL_holds_265 hl (by decide) rfl (fun ls hl => ?_)
              have L267_5 : ∀ (fu_6 b : Nat), b ≤ 4 → 4 - b < fu_6 → ∀ (H : Heap) (locs : List Loc), Wd D A [(cI, .int), (cR, .object RX1), (cC, .char)] (([(x9, .inr (3, [.ref (q 0), .ref (h9 0), .ref (t9 0)]))] : va_W) ++ wS cI q st ++ wR cR h9 (fr7 ad n8) ol n7 ++ wT cC t9 tx ln po ki rp tg nu ++ wP cI ad sv n8) s s.heap H locs → ∀ ls : Array Slot, lv_has ls 7 [(4, .int (nI b)), (1, .int (nI 1)), (3, .int (nI (cfS st a 6))), (2, .int (nI a)), (0, .ref x9)] → W p l e rmL_holds s m args below meth c H locs 0 0 Q (F0 m 267 ls []) := by
                intro fu_6
                induction fu_6 with
                | zero => intro b _ h9; exact absurd h9 (Nat.not_lt_zero _)
                | succ fu_6 ih_267 =>
                  intro b hk_267 hf_267 H locs hw ls hl
                  refine lv_iload hx hb dL_holds_267 (lv_at hl 0 rfl) ?_
                  refine lv_iconst (v := nI 4) hx hb dL_holds_269 kc_iconst_4 ?_
                  refine r_icmp_geN (tgt := 404) hx hb (by omega) (by omega) dL_holds_270 (by decide) (fun c_270 => ?_) (fun c_270 => ?_)
                  ·
                    refine lv_iload_n hx hb dL_holds_404 rfl (lv_at hl 1 rfl) ?_
                    refine lv_if_eq (tgt := 421) hx hb dL_holds_405 (by decide) (fun h => absurd h (by decide)) (fun _ => ?_)
                    refine lv_aload_n hx hb dL_holds_408 rfl (lv_at hl 4 rfl) ?_
                    refine lv_iload_n hx hb dL_holds_409 rfl (lv_at hl 3 rfl) ?_
                    refine cpx_i (w1 := fun (u9 : Unit) => ([(x9, .inr (3, [.ref (q 0), .ref (h9 0), .ref (t9 0)]))] : va_W) ++ wS cI q st ++ wR cR h9 (fr7 ad n8) ol n7 ++ wT cC t9 tx ln po ki rp tg nu) (pl := fun (u9 : Unit) => wP cI ad sv n8) (As := [.int (nI a)]) (rest := []) (wc := ([(x9, .inr (3, [.ref (q 0), .ref (h9 0), .ref (t9 0)]))] : va_W) ++ wS cI q st ++ wR cR h9 (fr7 ad n8) ol n7 ++ wT cC t9 tx ln po ki rp tg nu) (wr := []) S hz (c_X3_conflicts l D (sz := H.size) (cI := cI) (cR := cR) (cC := cC) (x9 := x9) (q := q) (st := st) (h9 := h9) (ad := ad) (sv := sv) (ol := ol) (n7 := n7) (n8 := n8) (t9 := t9) (tx := tx) (ln := ln) (po := po) (ki := ki) (rp := rp) (tg := tg) (nu := nu) (r := a) (hh := hh) (hr := by omega)) (cwV 1 hts gL_holds_X3_conflicts rfl rfl rfl (by decide +kernel) ⟨Nat.le_of_ble_eq_true rfl, Nat.le_of_ble_eq_true rfl⟩) hw hA [0, 1, 2, 3, 4, 5, 6, 7, 8, 9, 10, 11] [] [0, 1, 2] rfl rfl (k0 := 12) rfl (by decide) rfl 0 rfl rfl rfl hl.1 (Nat.le_of_ble_eq_true rfl) ⟨Nat.le_of_ble_eq_true rfl, Nat.le_of_ble_eq_true rfl⟩ rfl dL_holds_410 (fun r_410 u_410 H locs e_410 hw => ?_)
                    obtain ⟨⟩ := u_410
                    have hw : Wd D A [(cI, .int), (cR, .object RX1), (cC, .char)] (([(x9, .inr (3, [.ref (q 0), .ref (h9 0), .ref (t9 0)]))] : va_W) ++ wS cI q st ++ wR cR h9 (fr7 ad n8) ol n7 ++ wT cC t9 tx ln po ki rp tg nu ++ wP cI ad sv n8) s s.heap H locs := hw
                    have e_410 : r_410 = nI (cfS st a 6) := e_410
                    subst e_410
                    refine lv_iload_n hx hb dL_holds_413 rfl (lv_at hl 2 rfl) ?_
                    refine lv_icmp_ne (tgt := 421) hx hb dL_holds_414 (by decide) (fun h => absurd (rfl) h) (fun _ => ?_)
                    refine lv_iconst (v := nI 1) hx hb dL_holds_417 kc_iconst_1 ?_
                    refine lv_goto (tgt := 422) hx hb dL_holds_418 (by decide) ?_
                    refine lv_istore_n (lv' := [(1, .int (nI 1)), (4, .int (nI b)), (3, .int (nI (cfS st a 6))), (2, .int (nI a)), (0, .ref x9)]) hx hb dL_holds_422 rfl hl (by decide) rfl (fun ls hl => ?_)
                    refine lv_iinc (v := nI (a + 1)) (lv' := [(2, .int (nI (a + 1))), (1, .int (nI 1)), (4, .int (nI b)), (3, .int (nI (cfS st a 6))), (0, .ref x9)]) hx hb dL_holds_423 hl (k := 3) rfl (nI_add a 1) (by decide) rfl (fun ls hl => ?_)
                    refine lv_goto (tgt := 4) hx hb dL_holds_426 (by decide) ?_
                    have hl : lv_has ls 7 [(2, .int (nI (a + 1))), (1, .int (nI 1)), (0, .ref x9)] := lv_sub hl [0, 1, 4] rfl
                    have hw : Wd D A [(cI, .int), (cR, .object RX1), (cC, .char)] (([(x9, .inr (3, [.ref (q 0), .ref (h9 0), .ref (t9 0)]))] : va_W) ++ wS cI q st ++ wR cR h9 (fr7 ad n8) ol n7 ++ wT cC t9 tx ln po ki rp tg nu ++ wP cI ad sv n8) s s.heap H locs := hw
                    exact ih_4 (a + 1) (by omega) (by omega) _ _ hw ls hl
                  ·
                    refine lv_aload_n hx hb dL_holds_273 rfl (lv_at hl 4 rfl) ?_
                    refine lv_iload_n hx hb dL_holds_274 rfl (lv_at hl 3 rfl) ?_
                    refine lv_iload hx hb dL_holds_275 (lv_at hl 0 rfl) ?_
                    refine cpx_i (w1 := fun (u9 : Unit) => ([(x9, .inr (3, [.ref (q 0), .ref (h9 0), .ref (t9 0)]))] : va_W) ++ wS cI q st ++ wR cR h9 (fr7 ad n8) ol n7 ++ wT cC t9 tx ln po ki rp tg nu) (pl := fun (u9 : Unit) => wP cI ad sv n8) (As := [.int (nI a), .int (nI b)]) (rest := []) (wc := ([(x9, .inr (3, [.ref (q 0), .ref (h9 0), .ref (t9 0)]))] : va_W) ++ wS cI q st ++ wR cR h9 (fr7 ad n8) ol n7 ++ wT cC t9 tx ln po ki rp tg nu) (wr := []) S hz (c_X3_relation l D (sz := H.size) (cI := cI) (cR := cR) (cC := cC) (x9 := x9) (q := q) (st := st) (h9 := h9) (ad := ad) (sv := sv) (ol := ol) (n7 := n7) (n8 := n8) (t9 := t9) (tx := tx) (ln := ln) (po := po) (ki := ki) (rp := rp) (tg := tg) (nu := nu) (a := a) (b := b) (hh := hh) (ha := by omega) (hb4 := by omega)) (cwV 2 hts gL_holds_X3_relation rfl rfl rfl (by decide +kernel) ⟨Nat.le_of_ble_eq_true rfl, Nat.le_of_ble_eq_true rfl⟩) hw hA [0, 1, 2, 3, 4, 5, 6, 7, 8, 9, 10, 11] [] [0, 1, 2] rfl rfl (k0 := 12) rfl (by decide) rfl 0 rfl rfl rfl hl.1 (Nat.le_of_ble_eq_true rfl) ⟨Nat.le_of_ble_eq_true rfl, Nat.le_of_ble_eq_true rfl⟩ rfl dL_holds_277 (fun r_277 u_277 H locs e_277 hw => ?_)
                    obtain ⟨⟩ := u_277
                    have hw : Wd D A [(cI, .int), (cR, .object RX1), (cC, .char)] (([(x9, .inr (3, [.ref (q 0), .ref (h9 0), .ref (t9 0)]))] : va_W) ++ wS cI q st ++ wR cR h9 (fr7 ad n8) ol n7 ++ wT cC t9 tx ln po ki rp tg nu ++ wP cI ad sv n8) s s.heap H locs := hw
                    have e_277 : r_277 = reS st a b := e_277
                    subst e_277
                    refine lv_istore (lv' := [(5, .int (reS st a b)), (4, .int (nI b)), (1, .int (nI 1)), (3, .int (nI (cfS st a 6))), (2, .int (nI a)), (0, .ref x9)]) hx hb dL_holds_280 hl (by decide) rfl (fun ls hl => ?_)
                    refine lv_aload_n hx hb dL_holds_282 rfl (lv_at hl 5 rfl) ?_
                    refine lv_iload hx hb dL_holds_283 (lv_at hl 1 rfl) ?_
                    refine lv_iload_n hx hb dL_holds_285 rfl (lv_at hl 4 rfl) ?_
                    refine cpx_i (w1 := fun (u9 : Unit) => ([(x9, .inr (3, [.ref (q 0), .ref (h9 0), .ref (t9 0)]))] : va_W) ++ wS cI q st ++ wR cR h9 (fr7 ad n8) ol n7 ++ wT cC t9 tx ln po ki rp tg nu) (pl := fun (u9 : Unit) => wP cI ad sv n8) (As := [.int (nI b), .int (nI a)]) (rest := []) (wc := ([(x9, .inr (3, [.ref (q 0), .ref (h9 0), .ref (t9 0)]))] : va_W) ++ wS cI q st ++ wR cR h9 (fr7 ad n8) ol n7 ++ wT cC t9 tx ln po ki rp tg nu) (wr := []) S hz (c_X3_relation l D (sz := H.size) (cI := cI) (cR := cR) (cC := cC) (x9 := x9) (q := q) (st := st) (h9 := h9) (ad := ad) (sv := sv) (ol := ol) (n7 := n7) (n8 := n8) (t9 := t9) (tx := tx) (ln := ln) (po := po) (ki := ki) (rp := rp) (tg := tg) (nu := nu) (a := b) (b := a) (hh := hh) (ha := by omega) (hb4 := by omega)) (cwV 2 hts gL_holds_X3_relation rfl rfl rfl (by decide +kernel) ⟨Nat.le_of_ble_eq_true rfl, Nat.le_of_ble_eq_true rfl⟩) hw hA [0, 1, 2, 3, 4, 5, 6, 7, 8, 9, 10, 11] [] [0, 1, 2] rfl rfl (k0 := 12) rfl (by decide) rfl 0 rfl rfl rfl hl.1 (Nat.le_of_ble_eq_true rfl) ⟨Nat.le_of_ble_eq_true rfl, Nat.le_of_ble_eq_true rfl⟩ rfl dL_holds_286 (fun r_286 u_286 H locs e_286 hw => ?_)
                    obtain ⟨⟩ := u_286
                    have hw : Wd D A [(cI, .int), (cR, .object RX1), (cC, .char)] (([(x9, .inr (3, [.ref (q 0), .ref (h9 0), .ref (t9 0)]))] : va_W) ++ wS cI q st ++ wR cR h9 (fr7 ad n8) ol n7 ++ wT cC t9 tx ln po ki rp tg nu ++ wP cI ad sv n8) s s.heap H locs := hw
                    have e_286 : r_286 = reS st b a := e_286
                    subst e_286
                    refine lv_istore (lv' := [(6, .int (reS st b a)), (5, .int (reS st a b)), (4, .int (nI b)), (1, .int (nI 1)), (3, .int (nI (cfS st a 6))), (2, .int (nI a)), (0, .ref x9)]) hx hb dL_holds_289 hl (by decide) rfl (fun ls hl => ?_)
                    refine lv_iload_n hx hb dL_holds_291 rfl (lv_at hl 3 rfl) ?_
                    refine lv_if_eq (tgt := 396) hx hb dL_holds_292 (by decide) (fun h => absurd h (by decide)) (fun _ => ?_)
                    refine lv_aload_n hx hb dL_holds_295 rfl (lv_at hl 6 rfl) ?_
                    refine lv_iload_n hx hb dL_holds_296 rfl (lv_at hl 5 rfl) ?_
                    refine lv_iload hx hb dL_holds_297 (lv_at hl 2 rfl) ?_
                    refine cpx_i (w1 := fun (u9 : Unit) => ([(x9, .inr (3, [.ref (q 0), .ref (h9 0), .ref (t9 0)]))] : va_W) ++ wS cI q st ++ wR cR h9 (fr7 ad n8) ol n7 ++ wT cC t9 tx ln po ki rp tg nu) (pl := fun (u9 : Unit) => wP cI ad sv n8) (As := [.int (nI a), .int (nI b)]) (rest := []) (wc := ([(x9, .inr (3, [.ref (q 0), .ref (h9 0), .ref (t9 0)]))] : va_W) ++ wS cI q st ++ wR cR h9 (fr7 ad n8) ol n7 ++ wT cC t9 tx ln po ki rp tg nu) (wr := []) S hz (c_X3_seen l D (sz := H.size) (cI := cI) (cR := cR) (cC := cC) (x9 := x9) (q := q) (st := st) (h9 := h9) (ad := ad) (sv := sv) (ol := ol) (n7 := n7) (n8 := n8) (t9 := t9) (tx := tx) (ln := ln) (po := po) (ki := ki) (rp := rp) (tg := tg) (nu := nu) (a := a) (b := b) (hh := hh) (ha := by omega) (hb4 := by omega)) (cwV 2 hts gL_holds_X3_seen rfl rfl rfl (by decide +kernel) ⟨Nat.le_of_ble_eq_true rfl, Nat.le_of_ble_eq_true rfl⟩) hw hA [0, 1, 2, 3, 4, 5, 6, 7, 8, 9, 10, 11] [] [0, 1, 2] rfl rfl (k0 := 12) rfl (by decide) rfl 0 rfl rfl rfl hl.1 (Nat.le_of_ble_eq_true rfl) ⟨Nat.le_of_ble_eq_true rfl, Nat.le_of_ble_eq_true rfl⟩ rfl dL_holds_299 (fun r_299 u_299 H locs e_299 hw => ?_)
                    obtain ⟨⟩ := u_299
                    have hw : Wd D A [(cI, .int), (cR, .object RX1), (cC, .char)] (([(x9, .inr (3, [.ref (q 0), .ref (h9 0), .ref (t9 0)]))] : va_W) ++ wS cI q st ++ wR cR h9 (fr7 ad n8) ol n7 ++ wT cC t9 tx ln po ki rp tg nu ++ wP cI ad sv n8) s s.heap H locs := hw
                    have e_299 : r_299 = st.2.2.2.1 (a * 4 + b) := e_299
                    subst e_299
                    refine lv_aload_n hx hb dL_holds_302 rfl (lv_at hl 6 rfl) ?_
                    refine lv_iload hx hb dL_holds_303 (lv_at hl 2 rfl) ?_
                    refine lv_iload hx hb dL_holds_305 (lv_at hl 2 rfl) ?_
                    refine cpx_i (w1 := fun (u9 : Unit) => ([(x9, .inr (3, [.ref (q 0), .ref (h9 0), .ref (t9 0)]))] : va_W) ++ wS cI q st ++ wR cR h9 (fr7 ad n8) ol n7 ++ wT cC t9 tx ln po ki rp tg nu) (pl := fun (u9 : Unit) => wP cI ad sv n8) (As := [.int (nI b), .int (nI b)]) (rest := [.int (st.2.2.2.1 (a * 4 + b))]) (wc := ([(x9, .inr (3, [.ref (q 0), .ref (h9 0), .ref (t9 0)]))] : va_W) ++ wS cI q st ++ wR cR h9 (fr7 ad n8) ol n7 ++ wT cC t9 tx ln po ki rp tg nu) (wr := []) S hz (c_X3_seen l D (sz := H.size) (cI := cI) (cR := cR) (cC := cC) (x9 := x9) (q := q) (st := st) (h9 := h9) (ad := ad) (sv := sv) (ol := ol) (n7 := n7) (n8 := n8) (t9 := t9) (tx := tx) (ln := ln) (po := po) (ki := ki) (rp := rp) (tg := tg) (nu := nu) (a := b) (b := b) (hh := hh) (ha := by omega) (hb4 := by omega)) (cwV 2 hts gL_holds_X3_seen rfl rfl rfl (by decide +kernel) ⟨Nat.le_of_ble_eq_true rfl, Nat.le_of_ble_eq_true rfl⟩) hw hA [0, 1, 2, 3, 4, 5, 6, 7, 8, 9, 10, 11] [] [0, 1, 2] rfl rfl (k0 := 12) rfl (by decide) rfl 0 rfl rfl rfl hl.1 (Nat.le_of_ble_eq_true rfl) ⟨Nat.le_of_ble_eq_true rfl, Nat.le_of_ble_eq_true rfl⟩ rfl dL_holds_307 (fun r_307 u_307 H locs e_307 hw => ?_)
                    obtain ⟨⟩ := u_307
                    have hw : Wd D A [(cI, .int), (cR, .object RX1), (cC, .char)] (([(x9, .inr (3, [.ref (q 0), .ref (h9 0), .ref (t9 0)]))] : va_W) ++ wS cI q st ++ wR cR h9 (fr7 ad n8) ol n7 ++ wT cC t9 tx ln po ki rp tg nu ++ wP cI ad sv n8) s s.heap H locs := hw
                    have e_307 : r_307 = st.2.2.2.1 (b * 4 + b) := e_307
                    subst e_307
                    refine lv_icmp_gt (tgt := 396) hx hb dL_holds_310 (by decide) (fun h => absurd h (Int32.not_lt.mpr (h_seen (Nat.lt_of_succ_lt hB) hiv (by omega) (by omega)))) (fun _ => ?_)
                    refine lv_iload hx hb dL_holds_313 (lv_at hl 1 rfl) ?_
                    refine lv_iconst (v := nI 1) hx hb dL_holds_315 kc_iconst_1 ?_
                    have J324_7 : ∀ ls : Array Slot, lv_has ls 7 [(6, .int (reS st b a)), (5, .int (reS st a b)), (4, .int (nI b)), (1, .int (nI 1)), (3, .int (nI (cfS st a 6))), (2, .int (nI a)), (0, .ref x9)] → W p l e rmL_holds s m args below meth c H locs 0 0 Q (F0 m 324 ls [.int (b2 (reS st a b = nI 1))]) := by
                      intro ls hl
                      refine lv_iload hx hb dL_holds_324 (lv_at hl 0 rfl) ?_
                      refine lv_iconst (v := nI 2) hx hb dL_holds_326 kc_iconst_2 ?_
                      have J335_8 : ∀ ls : Array Slot, lv_has ls 7 [(6, .int (reS st b a)), (5, .int (reS st a b)), (4, .int (nI b)), (1, .int (nI 1)), (3, .int (nI (cfS st a 6))), (2, .int (nI a)), (0, .ref x9)] → W p l e rmL_holds s m args below meth c H locs 0 0 Q (F0 m 335 ls [.int (b2 (reS st b a = nI 2)), .int (b2 (reS st a b = nI 1))]) := by
                        intro ls hl
                        refine lv_icmp_ne (tgt := 396) hx hb dL_holds_335 (by decide) (fun h => absurd (b2_cg (re_12 st a b).1) h) (fun _ => ?_)
                        refine lv_iload hx hb dL_holds_338 (lv_at hl 1 rfl) ?_
                        have J348_9 : ∀ ls : Array Slot, lv_has ls 7 [(6, .int (reS st b a)), (5, .int (reS st a b)), (4, .int (nI b)), (1, .int (nI 1)), (3, .int (nI (cfS st a 6))), (2, .int (nI a)), (0, .ref x9)] → W p l e rmL_holds s m args below meth c H locs 0 0 Q (F0 m 348 ls [.int (b2 (reS st a b = 0))]) := by
                          intro ls hl
                          refine lv_iload hx hb dL_holds_348 (lv_at hl 0 rfl) ?_
                          have J358_10 : ∀ ls : Array Slot, lv_has ls 7 [(6, .int (reS st b a)), (5, .int (reS st a b)), (4, .int (nI b)), (1, .int (nI 1)), (3, .int (nI (cfS st a 6))), (2, .int (nI a)), (0, .ref x9)] → W p l e rmL_holds s m args below meth c H locs 0 0 Q (F0 m 358 ls [.int (b2 (reS st b a = 0)), .int (b2 (reS st a b = 0))]) := by
                            intro ls hl
                            refine lv_icmp_ne (tgt := 396) hx hb dL_holds_358 (by decide) (fun h => absurd (b2_cg (by rw [← nI_0]; exact (re_12 st a b).2)) h) (fun _ => ?_)
                            refine lv_iload hx hb dL_holds_361 (lv_at hl 1 rfl) ?_
                            refine lv_if_ne (tgt := 381) hx hb dL_holds_363 (by decide) (fun c_363 => ?_) (fun c_363 => ?_)
                            ·
                              refine lv_iload_n hx hb dL_holds_381 rfl (lv_at hl 5 rfl) ?_
                              refine lv_iload hx hb dL_holds_382 (lv_at hl 2 rfl) ?_
                              refine r_icmp_neN (tgt := 392) hx hb (by omega) (by omega) dL_holds_384 (by decide) (fun c_384 => ?_) (fun c_384 => ?_)
                              ·
                                refine lv_iconst (v := nI 1) hx hb dL_holds_392 kc_iconst_1 ?_
                                refine lv_goto (tgt := 397) hx hb dL_holds_393 (by decide) ?_
                                refine lv_istore_n (lv' := [(1, .int (nI 1)), (6, .int (reS st b a)), (5, .int (reS st a b)), (4, .int (nI b)), (3, .int (nI (cfS st a 6))), (2, .int (nI a)), (0, .ref x9)]) hx hb dL_holds_397 rfl hl (by decide) rfl (fun ls hl => ?_)
                                refine lv_iinc (v := nI (b + 1)) (lv' := [(4, .int (nI (b + 1))), (1, .int (nI 1)), (6, .int (reS st b a)), (5, .int (reS st a b)), (3, .int (nI (cfS st a 6))), (2, .int (nI a)), (0, .ref x9)]) hx hb dL_holds_398 hl (k := 3) rfl (nI_add b 1) (by decide) rfl (fun ls hl => ?_)
                                refine lv_goto (tgt := 267) hx hb dL_holds_401 (by decide) ?_
                                have hl : lv_has ls 7 [(4, .int (nI (b + 1))), (1, .int (nI 1)), (3, .int (nI (cfS st a 6))), (2, .int (nI a)), (0, .ref x9)] := lv_sub hl [0, 1, 4, 5, 6] rfl
                                have hw : Wd D A [(cI, .int), (cR, .object RX1), (cC, .char)] (([(x9, .inr (3, [.ref (q 0), .ref (h9 0), .ref (t9 0)]))] : va_W) ++ wS cI q st ++ wR cR h9 (fr7 ad n8) ol n7 ++ wT cC t9 tx ln po ki rp tg nu ++ wP cI ad sv n8) s s.heap H locs := hw
                                exact ih_267 (b + 1) (by omega) (by omega) _ _ hw ls hl
                              ·
                                refine lv_iload hx hb dL_holds_387 (lv_at hl 1 rfl) ?_
                                refine lv_if_ne (tgt := 396) hx hb dL_holds_389 (by decide) (fun h => absurd (by rw [c_384, re_self, nI_0]) h) (fun _ => ?_)
                                refine lv_iconst (v := nI 1) hx hb dL_holds_392 kc_iconst_1 ?_
                                refine lv_goto (tgt := 397) hx hb dL_holds_393 (by decide) ?_
                                refine lv_istore_n (lv' := [(1, .int (nI 1)), (6, .int (reS st b a)), (5, .int (reS st a b)), (4, .int (nI b)), (3, .int (nI (cfS st a 6))), (2, .int (nI a)), (0, .ref x9)]) hx hb dL_holds_397 rfl hl (by decide) rfl (fun ls hl => ?_)
                                refine lv_iinc (v := nI (b + 1)) (lv' := [(4, .int (nI (b + 1))), (1, .int (nI 1)), (6, .int (reS st b a)), (5, .int (reS st a b)), (3, .int (nI (cfS st a 6))), (2, .int (nI a)), (0, .ref x9)]) hx hb dL_holds_398 hl (k := 3) rfl (nI_add b 1) (by decide) rfl (fun ls hl => ?_)
                                refine lv_goto (tgt := 267) hx hb dL_holds_401 (by decide) ?_
                                have hl : lv_has ls 7 [(4, .int (nI (b + 1))), (1, .int (nI 1)), (3, .int (nI (cfS st a 6))), (2, .int (nI a)), (0, .ref x9)] := lv_sub hl [0, 1, 4, 5, 6] rfl
                                have hw : Wd D A [(cI, .int), (cR, .object RX1), (cC, .char)] (([(x9, .inr (3, [.ref (q 0), .ref (h9 0), .ref (t9 0)]))] : va_W) ++ wS cI q st ++ wR cR h9 (fr7 ad n8) ol n7 ++ wT cC t9 tx ln po ki rp tg nu ++ wP cI ad sv n8) s s.heap H locs := hw
                                exact ih_267 (b + 1) (by omega) (by omega) _ _ hw ls hl
                            ·
                              refine lv_aload_n hx hb dL_holds_366 rfl (lv_at hl 6 rfl) ?_
                              refine lv_iload_n hx hb dL_holds_367 rfl (lv_at hl 5 rfl) ?_
                              refine cps_l (w1 := fun (u9 : Unit) => ([(x9, .inr (3, [.ref (q 0), .ref (h9 0), .ref (t9 0)]))] : va_W) ++ wS cI q st ++ wR cR h9 (fr7 ad n8) ol n7 ++ wT cC t9 tx ln po ki rp tg nu) (pl := fun (u9 : Unit) => wP cI ad sv n8) (As := [.ref x9, .int (nI a)]) (rest := []) (wc := ([(x9, .inr (3, [.ref (q 0), .ref (h9 0), .ref (t9 0)]))] : va_W) ++ wS cI q st ++ wR cR h9 (fr7 ad n8) ol n7 ++ wT cC t9 tx ln po ki rp tg nu) (wr := []) S hz (c_L_cells l D (sz := H.size) (cI := cI) (cR := cR) (cC := cC) (x9 := x9) (q := q) (st := st) (h9 := h9) (ad := ad) (sv := sv) (ol := ol) (n7 := n7) (n8 := n8) (t9 := t9) (tx := tx) (ln := ln) (po := po) (ki := ki) (rp := rp) (tg := tg) (nu := nu) (r := a) (hh := hh) (hr := by omega)) (va_cwS 2 hts gL_holds_L_cells rfl rfl rfl (by decide +kernel) ⟨Nat.le_of_ble_eq_true rfl, Nat.le_of_ble_eq_true rfl⟩) hw hA [0, 1, 2, 3, 4, 5, 6, 7, 8, 9, 10, 11] [] [0, 1, 2] rfl rfl (k0 := 12) rfl (by decide) rfl rfl hl.1 (Nat.le_of_ble_eq_true rfl) ⟨Nat.le_of_ble_eq_true rfl, Nat.le_of_ble_eq_true rfl⟩ rfl dL_holds_368 (fun r_368 u_368 H locs e_368 hw => ?_)
                              obtain ⟨⟩ := u_368
                              have hw : Wd D A [(cI, .int), (cR, .object RX1), (cC, .char)] (([(x9, .inr (3, [.ref (q 0), .ref (h9 0), .ref (t9 0)]))] : va_W) ++ wS cI q st ++ wR cR h9 (fr7 ad n8) ol n7 ++ wT cC t9 tx ln po ki rp tg nu ++ wP cI ad sv n8) s s.heap H locs := hw
                              have e_368 : r_368 = cellsV st a := e_368
                              subst e_368
                              refine lv_aload_n hx hb dL_holds_371 rfl (lv_at hl 6 rfl) ?_
                              refine lv_iload hx hb dL_holds_372 (lv_at hl 2 rfl) ?_
                              refine cps_l (w1 := fun (u9 : Unit) => ([(x9, .inr (3, [.ref (q 0), .ref (h9 0), .ref (t9 0)]))] : va_W) ++ wS cI q st ++ wR cR h9 (fr7 ad n8) ol n7 ++ wT cC t9 tx ln po ki rp tg nu) (pl := fun (u9 : Unit) => wP cI ad sv n8) (As := [.ref x9, .int (nI b)]) (rest := [.long (cellsV st a)]) (wc := ([(x9, .inr (3, [.ref (q 0), .ref (h9 0), .ref (t9 0)]))] : va_W) ++ wS cI q st ++ wR cR h9 (fr7 ad n8) ol n7 ++ wT cC t9 tx ln po ki rp tg nu) (wr := []) S hz (c_L_cells l D (sz := H.size) (cI := cI) (cR := cR) (cC := cC) (x9 := x9) (q := q) (st := st) (h9 := h9) (ad := ad) (sv := sv) (ol := ol) (n7 := n7) (n8 := n8) (t9 := t9) (tx := tx) (ln := ln) (po := po) (ki := ki) (rp := rp) (tg := tg) (nu := nu) (r := b) (hh := hh) (hr := by omega)) (va_cwS 2 hts gL_holds_L_cells rfl rfl rfl (by decide +kernel) ⟨Nat.le_of_ble_eq_true rfl, Nat.le_of_ble_eq_true rfl⟩) hw hA [0, 1, 2, 3, 4, 5, 6, 7, 8, 9, 10, 11] [] [0, 1, 2] rfl rfl (k0 := 12) rfl (by decide) rfl rfl hl.1 (Nat.le_of_ble_eq_true rfl) ⟨Nat.le_of_ble_eq_true rfl, Nat.le_of_ble_eq_true rfl⟩ rfl dL_holds_374 (fun r_374 u_374 H locs e_374 hw => ?_)
                              obtain ⟨⟩ := u_374
                              have hw : Wd D A [(cI, .int), (cR, .object RX1), (cC, .char)] (([(x9, .inr (3, [.ref (q 0), .ref (h9 0), .ref (t9 0)]))] : va_W) ++ wS cI q st ++ wR cR h9 (fr7 ad n8) ol n7 ++ wT cC t9 tx ln po ki rp tg nu ++ wP cI ad sv n8) s s.heap H locs := hw
                              have e_374 : r_374 = cellsV st b := e_374
                              subst e_374
                              refine r_lcmpE hx hb (show cellsV st a = cellsV st b from re_cells (Nat.lt_of_succ_lt hB) hiv (by omega) (by omega) (c_363.trans nI_0.symm)) dL_holds_377 ?_
                              refine lv_if_ne (tgt := 396) hx hb dL_holds_378 (by decide) (fun h => absurd h (by decide)) (fun _ => ?_)
                              refine lv_iload_n hx hb dL_holds_381 rfl (lv_at hl 5 rfl) ?_
                              refine lv_iload hx hb dL_holds_382 (lv_at hl 2 rfl) ?_
                              refine r_icmp_neN (tgt := 392) hx hb (by omega) (by omega) dL_holds_384 (by decide) (fun c_384 => ?_) (fun c_384 => ?_)
                              ·
                                refine lv_iconst (v := nI 1) hx hb dL_holds_392 kc_iconst_1 ?_
                                refine lv_goto (tgt := 397) hx hb dL_holds_393 (by decide) ?_
                                refine lv_istore_n (lv' := [(1, .int (nI 1)), (6, .int (reS st b a)), (5, .int (reS st a b)), (4, .int (nI b)), (3, .int (nI (cfS st a 6))), (2, .int (nI a)), (0, .ref x9)]) hx hb dL_holds_397 rfl hl (by decide) rfl (fun ls hl => ?_)
                                refine lv_iinc (v := nI (b + 1)) (lv' := [(4, .int (nI (b + 1))), (1, .int (nI 1)), (6, .int (reS st b a)), (5, .int (reS st a b)), (3, .int (nI (cfS st a 6))), (2, .int (nI a)), (0, .ref x9)]) hx hb dL_holds_398 hl (k := 3) rfl (nI_add b 1) (by decide) rfl (fun ls hl => ?_)
                                refine lv_goto (tgt := 267) hx hb dL_holds_401 (by decide) ?_
                                have hl : lv_has ls 7 [(4, .int (nI (b + 1))), (1, .int (nI 1)), (3, .int (nI (cfS st a 6))), (2, .int (nI a)), (0, .ref x9)] := lv_sub hl [0, 1, 4, 5, 6] rfl
                                have hw : Wd D A [(cI, .int), (cR, .object RX1), (cC, .char)] (([(x9, .inr (3, [.ref (q 0), .ref (h9 0), .ref (t9 0)]))] : va_W) ++ wS cI q st ++ wR cR h9 (fr7 ad n8) ol n7 ++ wT cC t9 tx ln po ki rp tg nu ++ wP cI ad sv n8) s s.heap H locs := hw
                                exact ih_267 (b + 1) (by omega) (by omega) _ _ hw ls hl
                              ·
                                refine lv_iload hx hb dL_holds_387 (lv_at hl 1 rfl) ?_
                                refine lv_if_ne (tgt := 396) hx hb dL_holds_389 (by decide) (fun h => absurd (by rw [c_384, re_self, nI_0]) h) (fun _ => ?_)
                                refine lv_iconst (v := nI 1) hx hb dL_holds_392 kc_iconst_1 ?_
                                refine lv_goto (tgt := 397) hx hb dL_holds_393 (by decide) ?_
                                refine lv_istore_n (lv' := [(1, .int (nI 1)), (6, .int (reS st b a)), (5, .int (reS st a b)), (4, .int (nI b)), (3, .int (nI (cfS st a 6))), (2, .int (nI a)), (0, .ref x9)]) hx hb dL_holds_397 rfl hl (by decide) rfl (fun ls hl => ?_)
                                refine lv_iinc (v := nI (b + 1)) (lv' := [(4, .int (nI (b + 1))), (1, .int (nI 1)), (6, .int (reS st b a)), (5, .int (reS st a b)), (3, .int (nI (cfS st a 6))), (2, .int (nI a)), (0, .ref x9)]) hx hb dL_holds_398 hl (k := 3) rfl (nI_add b 1) (by decide) rfl (fun ls hl => ?_)
                                refine lv_goto (tgt := 267) hx hb dL_holds_401 (by decide) ?_
                                have hl : lv_has ls 7 [(4, .int (nI (b + 1))), (1, .int (nI 1)), (3, .int (nI (cfS st a 6))), (2, .int (nI a)), (0, .ref x9)] := lv_sub hl [0, 1, 4, 5, 6] rfl
                                have hw : Wd D A [(cI, .int), (cR, .object RX1), (cC, .char)] (([(x9, .inr (3, [.ref (q 0), .ref (h9 0), .ref (t9 0)]))] : va_W) ++ wS cI q st ++ wR cR h9 (fr7 ad n8) ol n7 ++ wT cC t9 tx ln po ki rp tg nu ++ wP cI ad sv n8) s s.heap H locs := hw
                                exact ih_267 (b + 1) (by omega) (by omega) _ _ hw ls hl
                          refine lv_if_ne (tgt := 357) hx hb dL_holds_350 (by decide) (fun c_350 => ?_) (fun c_350 => ?_)
                          ·
                            refine lv_iconst (v := nI 0) hx hb dL_holds_357 kc_iconst_0 ?_
                            have hl : lv_has ls 7 [(6, .int (reS st b a)), (5, .int (reS st a b)), (4, .int (nI b)), (1, .int (nI 1)), (3, .int (nI (cfS st a 6))), (2, .int (nI a)), (0, .ref x9)] := lv_sub hl [0, 1, 2, 3, 4, 5, 6] rfl
                            refine r_top hx (show nI 0 = b2 (reS st b a = 0) from by first | exact ret1 c_350 | exact ret0 c_350) ?_
                            exact J358_10 ls hl
                          ·
                            refine lv_iconst (v := nI 1) hx hb dL_holds_353 kc_iconst_1 ?_
                            refine lv_goto (tgt := 358) hx hb dL_holds_354 (by decide) ?_
                            have hl : lv_has ls 7 [(6, .int (reS st b a)), (5, .int (reS st a b)), (4, .int (nI b)), (1, .int (nI 1)), (3, .int (nI (cfS st a 6))), (2, .int (nI a)), (0, .ref x9)] := lv_sub hl [0, 1, 2, 3, 4, 5, 6] rfl
                            refine r_top hx (show nI 1 = b2 (reS st b a = 0) from by first | exact ret1 c_350 | exact ret0 c_350) ?_
                            exact J358_10 ls hl
                        refine lv_if_ne (tgt := 347) hx hb dL_holds_340 (by decide) (fun c_340 => ?_) (fun c_340 => ?_)
                        ·
                          refine lv_iconst (v := nI 0) hx hb dL_holds_347 kc_iconst_0 ?_
                          have hl : lv_has ls 7 [(6, .int (reS st b a)), (5, .int (reS st a b)), (4, .int (nI b)), (1, .int (nI 1)), (3, .int (nI (cfS st a 6))), (2, .int (nI a)), (0, .ref x9)] := lv_sub hl [0, 1, 2, 3, 4, 5, 6] rfl
                          refine r_top hx (show nI 0 = b2 (reS st a b = 0) from by first | exact ret1 c_340 | exact ret0 c_340) ?_
                          exact J348_9 ls hl
                        ·
                          refine lv_iconst (v := nI 1) hx hb dL_holds_343 kc_iconst_1 ?_
                          refine lv_goto (tgt := 348) hx hb dL_holds_344 (by decide) ?_
                          have hl : lv_has ls 7 [(6, .int (reS st b a)), (5, .int (reS st a b)), (4, .int (nI b)), (1, .int (nI 1)), (3, .int (nI (cfS st a 6))), (2, .int (nI a)), (0, .ref x9)] := lv_sub hl [0, 1, 2, 3, 4, 5, 6] rfl
                          refine r_top hx (show nI 1 = b2 (reS st a b = 0) from by first | exact ret1 c_340 | exact ret0 c_340) ?_
                          exact J348_9 ls hl
                      refine lv_icmp_ne (tgt := 334) hx hb dL_holds_327 (by decide) (fun c_327 => ?_) (fun c_327 => ?_)
                      ·
                        refine lv_iconst (v := nI 0) hx hb dL_holds_334 kc_iconst_0 ?_
                        have hl : lv_has ls 7 [(6, .int (reS st b a)), (5, .int (reS st a b)), (4, .int (nI b)), (1, .int (nI 1)), (3, .int (nI (cfS st a 6))), (2, .int (nI a)), (0, .ref x9)] := lv_sub hl [0, 1, 2, 3, 4, 5, 6] rfl
                        refine r_top hx (show nI 0 = b2 (reS st b a = nI 2) from by first | exact ret1 c_327 | exact ret0 c_327) ?_
                        exact J335_8 ls hl
                      ·
                        refine lv_iconst (v := nI 1) hx hb dL_holds_330 kc_iconst_1 ?_
                        refine lv_goto (tgt := 335) hx hb dL_holds_331 (by decide) ?_
                        have hl : lv_has ls 7 [(6, .int (reS st b a)), (5, .int (reS st a b)), (4, .int (nI b)), (1, .int (nI 1)), (3, .int (nI (cfS st a 6))), (2, .int (nI a)), (0, .ref x9)] := lv_sub hl [0, 1, 2, 3, 4, 5, 6] rfl
                        refine r_top hx (show nI 1 = b2 (reS st b a = nI 2) from by first | exact ret1 c_327 | exact ret0 c_327) ?_
                        exact J335_8 ls hl
                    refine lv_icmp_ne (tgt := 323) hx hb dL_holds_316 (by decide) (fun c_316 => ?_) (fun c_316 => ?_)
                    ·
                      refine lv_iconst (v := nI 0) hx hb dL_holds_323 kc_iconst_0 ?_
                      have hl : lv_has ls 7 [(6, .int (reS st b a)), (5, .int (reS st a b)), (4, .int (nI b)), (1, .int (nI 1)), (3, .int (nI (cfS st a 6))), (2, .int (nI a)), (0, .ref x9)] := lv_sub hl [0, 1, 2, 3, 4, 5, 6] rfl
                      refine r_top hx (show nI 0 = b2 (reS st a b = nI 1) from by first | exact ret1 c_316 | exact ret0 c_316) ?_
                      exact J324_7 ls hl
                    ·
                      refine lv_iconst (v := nI 1) hx hb dL_holds_319 kc_iconst_1 ?_
                      refine lv_goto (tgt := 324) hx hb dL_holds_320 (by decide) ?_
                      have hl : lv_has ls 7 [(6, .int (reS st b a)), (5, .int (reS st a b)), (4, .int (nI b)), (1, .int (nI 1)), (3, .int (nI (cfS st a 6))), (2, .int (nI a)), (0, .ref x9)] := lv_sub hl [0, 1, 2, 3, 4, 5, 6] rfl
                      refine r_top hx (show nI 1 = b2 (reS st a b = nI 1) from by first | exact ret1 c_316 | exact ret0 c_316) ?_
                      exact J324_7 ls hl
              have hl : lv_has ls 7 [(4, .int (nI 0)), (1, .int (nI 1)), (3, .int (nI (cfS st a 6))), (2, .int (nI a)), (0, .ref x9)] := lv_sub hl [0, 1, 2, 3, 4] rfl
              have hw : Wd D A [(cI, .int), (cR, .object RX1), (cC, .char)] (([(x9, .inr (3, [.ref (q 0), .ref (h9 0), .ref (t9 0)]))] : va_W) ++ wS cI q st ++ wR cR h9 (fr7 ad n8) ol n7 ++ wT cC t9 tx ln po ki rp tg nu ++ wP cI ad sv n8) s s.heap H locs := hw
              exact L267_5 (4 + 1) (0) (by omega) (by omega) _ _ hw ls hl
            ·
              refine lv_iconst (v := nI 0) hx hb dL_holds_45 kc_iconst_0 ?_
              refine lv_istore (lv' := [(5, .int (nI 0)), (4, .int (nI w)), (1, .int (nI 1)), (3, .int (nI (cfS st a w))), (2, .int (nI a)), (0, .ref x9)]) hx hb dL_holds_46 hl (by decide) rfl (fun ls hl => ?_)
              refine lv_iconst (v := nI 0) hx hb dL_holds_48 kc_iconst_0 ?_
              refine lv_istore (lv' := [(6, .int (nI 0)), (5, .int (nI 0)), (4, .int (nI w)), (1, .int (nI 1)), (3, .int (nI (cfS st a w))), (2, .int (nI a)), (0, .ref x9)]) hx hb dL_holds_49 hl (by decide) rfl (fun ls hl => ?_)
              have L51_11 : ∀ (fu_12 k : Nat), k ≤ 5 → 5 - k < fu_12 → ∀ (H : Heap) (locs : List Loc), Wd D A [(cI, .int), (cR, .object RX1), (cC, .char)] (([(x9, .inr (3, [.ref (q 0), .ref (h9 0), .ref (t9 0)]))] : va_W) ++ wS cI q st ++ wR cR h9 (fr7 ad n8) ol n7 ++ wT cC t9 tx ln po ki rp tg nu ++ wP cI ad sv n8) s s.heap H locs → ∀ ls : Array Slot, lv_has ls 7 [(6, .int (nI k)), (5, .int (nI (smC st a w k))), (4, .int (nI w)), (1, .int (nI 1)), (3, .int (nI (cfS st a w))), (2, .int (nI a)), (0, .ref x9)] → W p l e rmL_holds s m args below meth c H locs 0 0 Q (F0 m 51 ls []) := by
                intro fu_12
                induction fu_12 with
                | zero => intro k _ h9; exact absurd h9 (Nat.not_lt_zero _)
                | succ fu_12 ih_51 =>
                  intro k hk_51 hf_51 H locs hw ls hl
                  refine lv_iload hx hb dL_holds_51 (lv_at hl 0 rfl) ?_
                  refine lv_iconst (v := nI 5) hx hb dL_holds_53 kc_iconst_5 ?_
                  refine r_icmp_geN (tgt := 106) hx hb (by omega) (by omega) dL_holds_54 (by decide) (fun c_54 => ?_) (fun c_54 => ?_)
                  ·
                    have hk9 : k = 5 := by omega
                    subst hk9
                    refine lv_iload_n hx hb dL_holds_106 rfl (lv_at hl 4 rfl) ?_
                    refine lv_aload_n hx hb dL_holds_107 rfl (lv_at hl 6 rfl) ?_
                    refine lv_iload_n hx hb dL_holds_108 rfl (lv_at hl 5 rfl) ?_
                    refine lv_iload hx hb dL_holds_109 (lv_at hl 2 rfl) ?_
                    refine lv_iconst (v := nI 1) hx hb dL_holds_111 kc_iconst_1 ?_
                    refine cpx_i (w1 := fun (u9 : Unit) => ([(x9, .inr (3, [.ref (q 0), .ref (h9 0), .ref (t9 0)]))] : va_W) ++ wS cI q st ++ wR cR h9 (fr7 ad n8) ol n7 ++ wT cC t9 tx ln po ki rp tg nu) (pl := fun (u9 : Unit) => wP cI ad sv n8) (As := [.int (nI a), .int (nI w), .int (nI 1)]) (rest := [.int (nI (cfS st a w))]) (wc := ([(x9, .inr (3, [.ref (q 0), .ref (h9 0), .ref (t9 0)]))] : va_W) ++ wS cI q st ++ wR cR h9 (fr7 ad n8) ol n7 ++ wT cC t9 tx ln po ki rp tg nu) (wr := []) S hz (c_X3_entries l D (sz := H.size) (cI := cI) (cR := cR) (cC := cC) (x9 := x9) (q := q) (st := st) (h9 := h9) (ad := ad) (sv := sv) (ol := ol) (n7 := n7) (n8 := n8) (t9 := t9) (tx := tx) (ln := ln) (po := po) (ki := ki) (rp := rp) (tg := tg) (nu := nu) (r := a) (w := w) (g := 1) (hh := hh) (hr := by omega) (hw5 := by omega) (hg := by omega)) (cwV 3 hts gL_holds_X3_entries rfl rfl rfl (by decide +kernel) ⟨Nat.le_of_ble_eq_true rfl, Nat.le_of_ble_eq_true rfl⟩) hw hA [0, 1, 2, 3, 4, 5, 6, 7, 8, 9, 10, 11] [] [0, 1, 2] rfl rfl (k0 := 12) rfl (by decide) rfl 0 rfl rfl rfl hl.1 (Nat.le_of_ble_eq_true rfl) ⟨Nat.le_of_ble_eq_true rfl, Nat.le_of_ble_eq_true rfl⟩ rfl dL_holds_112 (fun r_112 u_112 H locs e_112 hw => ?_)
                    obtain ⟨⟩ := u_112
                    have hw : Wd D A [(cI, .int), (cR, .object RX1), (cC, .char)] (([(x9, .inr (3, [.ref (q 0), .ref (h9 0), .ref (t9 0)]))] : va_W) ++ wS cI q st ++ wR cR h9 (fr7 ad n8) ol n7 ++ wT cC t9 tx ln po ki rp tg nu ++ wP cI ad sv n8) s s.heap H locs := hw
                    have e_112 : r_112 = nI (cntE st.1 (a * 480 + w * 80 + 1 * 4) (cE 1 * 4 - 1 * 4)) := e_112
                    subst e_112
                    refine lv_iconst (v := nI 1) hx hb dL_holds_115 kc_iconst_1 ?_
                    have J124_13 : ∀ ls : Array Slot, lv_has ls 7 [(6, .int (nI 5)), (5, .int (nI (smC st a w 5))), (4, .int (nI w)), (1, .int (nI 1)), (3, .int (nI (cfS st a w))), (2, .int (nI a)), (0, .ref x9)] → W p l e rmL_holds s m args below meth c H locs 0 0 Q (F0 m 124 ls [.int (nI (if 1 < cntE st.1 (a * 480 + w * 80 + 1 * 4) (cE 1 * 4 - 1 * 4) then 1 else 0)), .int (nI (cfS st a w))]) := by
                      intro ls hl
                      refine r_addN hx hb dL_holds_124 ?_
                      refine lv_istore_n (lv' := [(3, .int (nI ((cfS st a w) + (if 1 < cntE st.1 (a * 480 + w * 80 + 1 * 4) (cE 1 * 4 - 1 * 4) then 1 else 0)))), (6, .int (nI 5)), (5, .int (nI (smC st a w 5))), (4, .int (nI w)), (1, .int (nI 1)), (2, .int (nI a)), (0, .ref x9)]) hx hb dL_holds_125 rfl hl (by decide) rfl (fun ls hl => ?_)
                      refine lv_iload_n hx hb dL_holds_126 rfl (lv_at hl 4 rfl) ?_
                      refine lv_if_eq (tgt := 256) hx hb dL_holds_127 (by decide) (fun h => absurd h (by decide)) (fun _ => ?_)
                      refine lv_aload_n hx hb dL_holds_130 rfl (lv_at hl 6 rfl) ?_
                      refine lv_iload_n hx hb dL_holds_131 rfl (lv_at hl 5 rfl) ?_
                      refine lv_iload hx hb dL_holds_132 (lv_at hl 3 rfl) ?_
                      refine cpx_i (w1 := fun (u9 : Unit) => ([(x9, .inr (3, [.ref (q 0), .ref (h9 0), .ref (t9 0)]))] : va_W) ++ wS cI q st ++ wR cR h9 (fr7 ad n8) ol n7 ++ wT cC t9 tx ln po ki rp tg nu) (pl := fun (u9 : Unit) => wP cI ad sv n8) (As := [.int (nI a), .int (nI w)]) (rest := []) (wc := ([(x9, .inr (3, [.ref (q 0), .ref (h9 0), .ref (t9 0)]))] : va_W) ++ wS cI q st ++ wR cR h9 (fr7 ad n8) ol n7 ++ wT cC t9 tx ln po ki rp tg nu) (wr := []) S hz (c_X3_exists l D (sz := H.size) (cI := cI) (cR := cR) (cC := cC) (x9 := x9) (q := q) (st := st) (h9 := h9) (ad := ad) (sv := sv) (ol := ol) (n7 := n7) (n8 := n8) (t9 := t9) (tx := tx) (ln := ln) (po := po) (ki := ki) (rp := rp) (tg := tg) (nu := nu) (r := a) (w := w) (hh := hh) (hr := by omega) (hw5 := by omega)) (cwV 2 hts gL_holds_X3_exists rfl rfl rfl (by decide +kernel) ⟨Nat.le_of_ble_eq_true rfl, Nat.le_of_ble_eq_true rfl⟩) hw hA [0, 1, 2, 3, 4, 5, 6, 7, 8, 9, 10, 11] [] [0, 1, 2] rfl rfl (k0 := 12) rfl (by decide) rfl 0 rfl rfl rfl hl.1 (Nat.le_of_ble_eq_true rfl) ⟨Nat.le_of_ble_eq_true rfl, Nat.le_of_ble_eq_true rfl⟩ rfl dL_holds_134 (fun r_134 u_134 H locs e_134 hw => ?_)
                      obtain ⟨⟩ := u_134
                      have hw : Wd D A [(cI, .int), (cR, .object RX1), (cC, .char)] (([(x9, .inr (3, [.ref (q 0), .ref (h9 0), .ref (t9 0)]))] : va_W) ++ wS cI q st ++ wR cR h9 (fr7 ad n8) ol n7 ++ wT cC t9 tx ln po ki rp tg nu ++ wP cI ad sv n8) s s.heap H locs := hw
                      have e_134 : r_134 = b2 (0 < cntE st.1 (a * 480 + w * 80 + 0 * 4) 80) := e_134
                      subst e_134
                      refine lv_iload hx hb dL_holds_137 (lv_at hl 2 rfl) ?_
                      have J147_14 : ∀ ls : Array Slot, lv_has ls 7 [(3, .int (nI ((cfS st a w) + (if 1 < cntE st.1 (a * 480 + w * 80 + 1 * 4) (cE 1 * 4 - 1 * 4) then 1 else 0)))), (6, .int (nI 5)), (5, .int (nI (smC st a w 5))), (4, .int (nI w)), (1, .int (nI 1)), (2, .int (nI a)), (0, .ref x9)] → W p l e rmL_holds s m args below meth c H locs 0 0 Q (F0 m 147 ls [.int (b2 (0 < smC st a w 5)), .int (b2 (0 < cntE st.1 (a * 480 + w * 80 + 0 * 4) 80))]) := by
                        intro ls hl
                        refine lv_icmp_ne (tgt := 256) hx hb dL_holds_147 (by decide) (fun h => absurd (b2_cg (by rw [smC_5])) h) (fun _ => ?_)
                        refine lv_aload_n hx hb dL_holds_150 rfl (lv_at hl 6 rfl) ?_
                        refine lv_iload_n hx hb dL_holds_151 rfl (lv_at hl 5 rfl) ?_
                        refine lv_iload hx hb dL_holds_152 (lv_at hl 3 rfl) ?_
                        refine cpx_i (w1 := fun (u9 : Unit) => ([(x9, .inr (3, [.ref (q 0), .ref (h9 0), .ref (t9 0)]))] : va_W) ++ wS cI q st ++ wR cR h9 (fr7 ad n8) ol n7 ++ wT cC t9 tx ln po ki rp tg nu) (pl := fun (u9 : Unit) => wP cI ad sv n8) (As := [.int (nI a), .int (nI w)]) (rest := []) (wc := ([(x9, .inr (3, [.ref (q 0), .ref (h9 0), .ref (t9 0)]))] : va_W) ++ wS cI q st ++ wR cR h9 (fr7 ad n8) ol n7 ++ wT cC t9 tx ln po ki rp tg nu) (wr := []) S hz (c_X3_latest l D (sz := H.size) (cI := cI) (cR := cR) (cC := cC) (x9 := x9) (q := q) (st := st) (h9 := h9) (ad := ad) (sv := sv) (ol := ol) (n7 := n7) (n8 := n8) (t9 := t9) (tx := tx) (ln := ln) (po := po) (ki := ki) (rp := rp) (tg := tg) (nu := nu) (r := a) (w := w) (hh := hh) (hr := by omega) (hw5 := by omega)) (cwV 2 hts gL_holds_X3_latest rfl rfl rfl (by decide +kernel) ⟨Nat.le_of_ble_eq_true rfl, Nat.le_of_ble_eq_true rfl⟩) hw hA [0, 1, 2, 3, 4, 5, 6, 7, 8, 9, 10, 11] [] [0, 1, 2] rfl rfl (k0 := 12) rfl (by decide) rfl 0 rfl rfl rfl hl.1 (Nat.le_of_ble_eq_true rfl) ⟨Nat.le_of_ble_eq_true rfl, Nat.le_of_ble_eq_true rfl⟩ rfl dL_holds_154 (fun r_154 u_154 H locs e_154 hw => ?_)
                        obtain ⟨⟩ := u_154
                        have hw : Wd D A [(cI, .int), (cR, .object RX1), (cC, .char)] (([(x9, .inr (3, [.ref (q 0), .ref (h9 0), .ref (t9 0)]))] : va_W) ++ wS cI q st ++ wR cR h9 (fr7 ad n8) ol n7 ++ wT cC t9 tx ln po ki rp tg nu ++ wP cI ad sv n8) s s.heap H locs := hw
                        have e_154 : r_154 = (ltE st (a * 480 + w * 80 + 0 * 4) 4).2 := e_154
                        subst e_154
                        have J165_15 : ∀ ls : Array Slot, lv_has ls 7 [(3, .int (nI ((cfS st a w) + (if 1 < cntE st.1 (a * 480 + w * 80 + 1 * 4) (cE 1 * 4 - 1 * 4) then 1 else 0)))), (6, .int (nI 5)), (5, .int (nI (smC st a w 5))), (4, .int (nI w)), (1, .int (nI 1)), (2, .int (nI a)), (0, .ref x9)] → W p l e rmL_holds s m args below meth c H locs 0 0 Q (F0 m 165 ls [.int (b2 ((ltE st (a * 480 + w * 80 + 0 * 4) 4).2 < 0))]) := by
                          intro ls hl
                          refine lv_aload_n hx hb dL_holds_165 rfl (lv_at hl 6 rfl) ?_
                          refine lv_iload_n hx hb dL_holds_166 rfl (lv_at hl 5 rfl) ?_
                          refine lv_iload hx hb dL_holds_167 (lv_at hl 3 rfl) ?_
                          refine lv_iconst (v := nI 0) hx hb dL_holds_169 kc_iconst_0 ?_
                          refine cpx_i (w1 := fun (u9 : Unit) => ([(x9, .inr (3, [.ref (q 0), .ref (h9 0), .ref (t9 0)]))] : va_W) ++ wS cI q st ++ wR cR h9 (fr7 ad n8) ol n7 ++ wT cC t9 tx ln po ki rp tg nu) (pl := fun (u9 : Unit) => wP cI ad sv n8) (As := [.int (nI a), .int (nI w), .int (nI 0)]) (rest := [.int (b2 ((ltE st (a * 480 + w * 80 + 0 * 4) 4).2 < 0))]) (wc := ([(x9, .inr (3, [.ref (q 0), .ref (h9 0), .ref (t9 0)]))] : va_W) ++ wS cI q st ++ wR cR h9 (fr7 ad n8) ol n7 ++ wT cC t9 tx ln po ki rp tg nu) (wr := []) S hz (c_X3_entries l D (sz := H.size) (cI := cI) (cR := cR) (cC := cC) (x9 := x9) (q := q) (st := st) (h9 := h9) (ad := ad) (sv := sv) (ol := ol) (n7 := n7) (n8 := n8) (t9 := t9) (tx := tx) (ln := ln) (po := po) (ki := ki) (rp := rp) (tg := tg) (nu := nu) (r := a) (w := w) (g := 0) (hh := hh) (hr := by omega) (hw5 := by omega) (hg := by omega)) (cwV 3 hts gL_holds_X3_entries rfl rfl rfl (by decide +kernel) ⟨Nat.le_of_ble_eq_true rfl, Nat.le_of_ble_eq_true rfl⟩) hw hA [0, 1, 2, 3, 4, 5, 6, 7, 8, 9, 10, 11] [] [0, 1, 2] rfl rfl (k0 := 12) rfl (by decide) rfl 0 rfl rfl rfl hl.1 (Nat.le_of_ble_eq_true rfl) ⟨Nat.le_of_ble_eq_true rfl, Nat.le_of_ble_eq_true rfl⟩ rfl dL_holds_170 (fun r_170 u_170 H locs e_170 hw => ?_)
                          obtain ⟨⟩ := u_170
                          have hw : Wd D A [(cI, .int), (cR, .object RX1), (cC, .char)] (([(x9, .inr (3, [.ref (q 0), .ref (h9 0), .ref (t9 0)]))] : va_W) ++ wS cI q st ++ wR cR h9 (fr7 ad n8) ol n7 ++ wT cC t9 tx ln po ki rp tg nu ++ wP cI ad sv n8) s s.heap H locs := hw
                          have e_170 : r_170 = nI (cntE st.1 (a * 480 + w * 80 + 0 * 4) (cE 0 * 4 - 0 * 4)) := e_170
                          subst e_170
                          have J181_16 : ∀ ls : Array Slot, lv_has ls 7 [(3, .int (nI ((cfS st a w) + (if 1 < cntE st.1 (a * 480 + w * 80 + 1 * 4) (cE 1 * 4 - 1 * 4) then 1 else 0)))), (6, .int (nI 5)), (5, .int (nI (smC st a w 5))), (4, .int (nI w)), (1, .int (nI 1)), (2, .int (nI a)), (0, .ref x9)] → W p l e rmL_holds s m args below meth c H locs 0 0 Q (F0 m 181 ls [.int (b2 (cntE st.1 (a * 480 + w * 80 + 0 * 4) (cE 0 * 4 - 0 * 4) = 0)), .int (b2 ((ltE st (a * 480 + w * 80 + 0 * 4) 4).2 < 0))]) := by
                            intro ls hl
                            refine lv_icmp_ne (tgt := 256) hx hb dL_holds_181 (by decide) (fun h => absurd (b2_cg (h_latest hiv (by omega) (by omega))) h) (fun _ => ?_)
                            refine lv_aload_n hx hb dL_holds_184 rfl (lv_at hl 6 rfl) ?_
                            refine lv_iload_n hx hb dL_holds_185 rfl (lv_at hl 5 rfl) ?_
                            refine lv_iload hx hb dL_holds_186 (lv_at hl 3 rfl) ?_
                            refine cpx_i (w1 := fun (u9 : Unit) => ([(x9, .inr (3, [.ref (q 0), .ref (h9 0), .ref (t9 0)]))] : va_W) ++ wS cI q st ++ wR cR h9 (fr7 ad n8) ol n7 ++ wT cC t9 tx ln po ki rp tg nu) (pl := fun (u9 : Unit) => wP cI ad sv n8) (As := [.int (nI a), .int (nI w)]) (rest := []) (wc := ([(x9, .inr (3, [.ref (q 0), .ref (h9 0), .ref (t9 0)]))] : va_W) ++ wS cI q st ++ wR cR h9 (fr7 ad n8) ol n7 ++ wT cC t9 tx ln po ki rp tg nu) (wr := []) S hz (c_X3_greatest l D (sz := H.size) (cI := cI) (cR := cR) (cC := cC) (x9 := x9) (q := q) (st := st) (h9 := h9) (ad := ad) (sv := sv) (ol := ol) (n7 := n7) (n8 := n8) (t9 := t9) (tx := tx) (ln := ln) (po := po) (ki := ki) (rp := rp) (tg := tg) (nu := nu) (r := a) (w := w) (hh := hh) (hr := by omega) (hw5 := by omega)) (cwV 2 hts gL_holds_X3_greatest rfl rfl rfl (by decide +kernel) ⟨Nat.le_of_ble_eq_true rfl, Nat.le_of_ble_eq_true rfl⟩) hw hA [0, 1, 2, 3, 4, 5, 6, 7, 8, 9, 10, 11] [] [0, 1, 2] rfl rfl (k0 := 12) rfl (by decide) rfl 0 rfl rfl rfl hl.1 (Nat.le_of_ble_eq_true rfl) ⟨Nat.le_of_ble_eq_true rfl, Nat.le_of_ble_eq_true rfl⟩ rfl dL_holds_188 (fun r_188 u_188 H locs e_188 hw => ?_)
                            obtain ⟨⟩ := u_188
                            have hw : Wd D A [(cI, .int), (cR, .object RX1), (cC, .char)] (([(x9, .inr (3, [.ref (q 0), .ref (h9 0), .ref (t9 0)]))] : va_W) ++ wS cI q st ++ wR cR h9 (fr7 ad n8) ol n7 ++ wT cC t9 tx ln po ki rp tg nu ++ wP cI ad sv n8) s s.heap H locs := hw
                            have e_188 : r_188 = grE st (a * 480 + w * 80 + 2 * 4) 4 := e_188
                            subst e_188
                            have J199_17 : ∀ ls : Array Slot, lv_has ls 7 [(3, .int (nI ((cfS st a w) + (if 1 < cntE st.1 (a * 480 + w * 80 + 1 * 4) (cE 1 * 4 - 1 * 4) then 1 else 0)))), (6, .int (nI 5)), (5, .int (nI (smC st a w 5))), (4, .int (nI w)), (1, .int (nI 1)), (2, .int (nI a)), (0, .ref x9)] → W p l e rmL_holds s m args below meth c H locs 0 0 Q (F0 m 199 ls [.int (b2 (grE st (a * 480 + w * 80 + 2 * 4) 4 < 0))]) := by
                              intro ls hl
                              refine lv_aload_n hx hb dL_holds_199 rfl (lv_at hl 6 rfl) ?_
                              refine lv_iload_n hx hb dL_holds_200 rfl (lv_at hl 5 rfl) ?_
                              refine lv_iload hx hb dL_holds_201 (lv_at hl 3 rfl) ?_
                              refine lv_iconst (v := nI 2) hx hb dL_holds_203 kc_iconst_2 ?_
                              refine cpx_i (w1 := fun (u9 : Unit) => ([(x9, .inr (3, [.ref (q 0), .ref (h9 0), .ref (t9 0)]))] : va_W) ++ wS cI q st ++ wR cR h9 (fr7 ad n8) ol n7 ++ wT cC t9 tx ln po ki rp tg nu) (pl := fun (u9 : Unit) => wP cI ad sv n8) (As := [.int (nI a), .int (nI w), .int (nI 2)]) (rest := [.int (b2 (grE st (a * 480 + w * 80 + 2 * 4) 4 < 0))]) (wc := ([(x9, .inr (3, [.ref (q 0), .ref (h9 0), .ref (t9 0)]))] : va_W) ++ wS cI q st ++ wR cR h9 (fr7 ad n8) ol n7 ++ wT cC t9 tx ln po ki rp tg nu) (wr := []) S hz (c_X3_entries l D (sz := H.size) (cI := cI) (cR := cR) (cC := cC) (x9 := x9) (q := q) (st := st) (h9 := h9) (ad := ad) (sv := sv) (ol := ol) (n7 := n7) (n8 := n8) (t9 := t9) (tx := tx) (ln := ln) (po := po) (ki := ki) (rp := rp) (tg := tg) (nu := nu) (r := a) (w := w) (g := 2) (hh := hh) (hr := by omega) (hw5 := by omega) (hg := by omega)) (cwV 3 hts gL_holds_X3_entries rfl rfl rfl (by decide +kernel) ⟨Nat.le_of_ble_eq_true rfl, Nat.le_of_ble_eq_true rfl⟩) hw hA [0, 1, 2, 3, 4, 5, 6, 7, 8, 9, 10, 11] [] [0, 1, 2] rfl rfl (k0 := 12) rfl (by decide) rfl 0 rfl rfl rfl hl.1 (Nat.le_of_ble_eq_true rfl) ⟨Nat.le_of_ble_eq_true rfl, Nat.le_of_ble_eq_true rfl⟩ rfl dL_holds_204 (fun r_204 u_204 H locs e_204 hw => ?_)
                              obtain ⟨⟩ := u_204
                              have hw : Wd D A [(cI, .int), (cR, .object RX1), (cC, .char)] (([(x9, .inr (3, [.ref (q 0), .ref (h9 0), .ref (t9 0)]))] : va_W) ++ wS cI q st ++ wR cR h9 (fr7 ad n8) ol n7 ++ wT cC t9 tx ln po ki rp tg nu ++ wP cI ad sv n8) s s.heap H locs := hw
                              have e_204 : r_204 = nI (cntE st.1 (a * 480 + w * 80 + 2 * 4) (cE 2 * 4 - 2 * 4)) := e_204
                              subst e_204
                              have J215_18 : ∀ ls : Array Slot, lv_has ls 7 [(3, .int (nI ((cfS st a w) + (if 1 < cntE st.1 (a * 480 + w * 80 + 1 * 4) (cE 1 * 4 - 1 * 4) then 1 else 0)))), (6, .int (nI 5)), (5, .int (nI (smC st a w 5))), (4, .int (nI w)), (1, .int (nI 1)), (2, .int (nI a)), (0, .ref x9)] → W p l e rmL_holds s m args below meth c H locs 0 0 Q (F0 m 215 ls [.int (b2 (cntE st.1 (a * 480 + w * 80 + 2 * 4) (cE 2 * 4 - 2 * 4) = 0)), .int (b2 (grE st (a * 480 + w * 80 + 2 * 4) 4 < 0))]) := by
                                intro ls hl
                                refine lv_icmp_ne (tgt := 256) hx hb dL_holds_215 (by decide) (fun h => absurd (b2_cg (h_great hiv (by omega) (by omega))) h) (fun _ => ?_)
                                refine lv_aload_n hx hb dL_holds_218 rfl (lv_at hl 6 rfl) ?_
                                refine lv_iload_n hx hb dL_holds_219 rfl (lv_at hl 5 rfl) ?_
                                refine lv_iload hx hb dL_holds_220 (lv_at hl 3 rfl) ?_
                                refine cpx_i (w1 := fun (u9 : Unit) => ([(x9, .inr (3, [.ref (q 0), .ref (h9 0), .ref (t9 0)]))] : va_W) ++ wS cI q st ++ wR cR h9 (fr7 ad n8) ol n7 ++ wT cC t9 tx ln po ki rp tg nu) (pl := fun (u9 : Unit) => wP cI ad sv n8) (As := [.int (nI a), .int (nI w)]) (rest := []) (wc := ([(x9, .inr (3, [.ref (q 0), .ref (h9 0), .ref (t9 0)]))] : va_W) ++ wS cI q st ++ wR cR h9 (fr7 ad n8) ol n7 ++ wT cC t9 tx ln po ki rp tg nu) (wr := []) S hz (c_X3_elements l D (sz := H.size) (cI := cI) (cR := cR) (cC := cC) (x9 := x9) (q := q) (st := st) (h9 := h9) (ad := ad) (sv := sv) (ol := ol) (n7 := n7) (n8 := n8) (t9 := t9) (tx := tx) (ln := ln) (po := po) (ki := ki) (rp := rp) (tg := tg) (nu := nu) (r := a) (w := w) (hh := hh) (hr := by omega) (hw5 := by omega)) (cwV 2 hts gL_holds_X3_elements rfl rfl rfl (by decide +kernel) ⟨Nat.le_of_ble_eq_true rfl, Nat.le_of_ble_eq_true rfl⟩) hw hA [0, 1, 2, 3, 4, 5, 6, 7, 8, 9, 10, 11] [] [0, 1, 2] rfl rfl (k0 := 12) rfl (by decide) rfl 0 rfl rfl rfl hl.1 (Nat.le_of_ble_eq_true rfl) ⟨Nat.le_of_ble_eq_true rfl, Nat.le_of_ble_eq_true rfl⟩ rfl dL_holds_222 (fun r_222 u_222 H locs e_222 hw => ?_)
                                obtain ⟨⟩ := u_222
                                have hw : Wd D A [(cI, .int), (cR, .object RX1), (cC, .char)] (([(x9, .inr (3, [.ref (q 0), .ref (h9 0), .ref (t9 0)]))] : va_W) ++ wS cI q st ++ wR cR h9 (fr7 ad n8) ol n7 ++ wT cC t9 tx ln po ki rp tg nu ++ wP cI ad sv n8) s s.heap H locs := hw
                                have e_222 : r_222 = ebE st (a * 480 + w * 80 + 4 * 4) 64 := e_222
                                subst e_222
                                have J233_19 : ∀ ls : Array Slot, lv_has ls 7 [(3, .int (nI ((cfS st a w) + (if 1 < cntE st.1 (a * 480 + w * 80 + 1 * 4) (cE 1 * 4 - 1 * 4) then 1 else 0)))), (6, .int (nI 5)), (5, .int (nI (smC st a w 5))), (4, .int (nI w)), (1, .int (nI 1)), (2, .int (nI a)), (0, .ref x9)] → W p l e rmL_holds s m args below meth c H locs 0 0 Q (F0 m 233 ls [.int (b2 (ebE st (a * 480 + w * 80 + 4 * 4) 64 = 0))]) := by
                                  intro ls hl
                                  refine lv_aload_n hx hb dL_holds_233 rfl (lv_at hl 6 rfl) ?_
                                  refine lv_iload_n hx hb dL_holds_234 rfl (lv_at hl 5 rfl) ?_
                                  refine lv_iload hx hb dL_holds_235 (lv_at hl 3 rfl) ?_
                                  refine lv_iconst (v := nI 4) hx hb dL_holds_237 kc_iconst_4 ?_
                                  refine cpx_i (w1 := fun (u9 : Unit) => ([(x9, .inr (3, [.ref (q 0), .ref (h9 0), .ref (t9 0)]))] : va_W) ++ wS cI q st ++ wR cR h9 (fr7 ad n8) ol n7 ++ wT cC t9 tx ln po ki rp tg nu) (pl := fun (u9 : Unit) => wP cI ad sv n8) (As := [.int (nI a), .int (nI w), .int (nI 4)]) (rest := [.int (b2 (ebE st (a * 480 + w * 80 + 4 * 4) 64 = 0))]) (wc := ([(x9, .inr (3, [.ref (q 0), .ref (h9 0), .ref (t9 0)]))] : va_W) ++ wS cI q st ++ wR cR h9 (fr7 ad n8) ol n7 ++ wT cC t9 tx ln po ki rp tg nu) (wr := []) S hz (c_X3_entries l D (sz := H.size) (cI := cI) (cR := cR) (cC := cC) (x9 := x9) (q := q) (st := st) (h9 := h9) (ad := ad) (sv := sv) (ol := ol) (n7 := n7) (n8 := n8) (t9 := t9) (tx := tx) (ln := ln) (po := po) (ki := ki) (rp := rp) (tg := tg) (nu := nu) (r := a) (w := w) (g := 4) (hh := hh) (hr := by omega) (hw5 := by omega) (hg := by omega)) (cwV 3 hts gL_holds_X3_entries rfl rfl rfl (by decide +kernel) ⟨Nat.le_of_ble_eq_true rfl, Nat.le_of_ble_eq_true rfl⟩) hw hA [0, 1, 2, 3, 4, 5, 6, 7, 8, 9, 10, 11] [] [0, 1, 2] rfl rfl (k0 := 12) rfl (by decide) rfl 0 rfl rfl rfl hl.1 (Nat.le_of_ble_eq_true rfl) ⟨Nat.le_of_ble_eq_true rfl, Nat.le_of_ble_eq_true rfl⟩ rfl dL_holds_238 (fun r_238 u_238 H locs e_238 hw => ?_)
                                  obtain ⟨⟩ := u_238
                                  have hw : Wd D A [(cI, .int), (cR, .object RX1), (cC, .char)] (([(x9, .inr (3, [.ref (q 0), .ref (h9 0), .ref (t9 0)]))] : va_W) ++ wS cI q st ++ wR cR h9 (fr7 ad n8) ol n7 ++ wT cC t9 tx ln po ki rp tg nu ++ wP cI ad sv n8) s s.heap H locs := hw
                                  have e_238 : r_238 = nI (cntE st.1 (a * 480 + w * 80 + 4 * 4) (cE 4 * 4 - 4 * 4)) := e_238
                                  subst e_238
                                  have J249_20 : ∀ ls : Array Slot, lv_has ls 7 [(3, .int (nI ((cfS st a w) + (if 1 < cntE st.1 (a * 480 + w * 80 + 1 * 4) (cE 1 * 4 - 1 * 4) then 1 else 0)))), (6, .int (nI 5)), (5, .int (nI (smC st a w 5))), (4, .int (nI w)), (1, .int (nI 1)), (2, .int (nI a)), (0, .ref x9)] → W p l e rmL_holds s m args below meth c H locs 0 0 Q (F0 m 249 ls [.int (b2 (cntE st.1 (a * 480 + w * 80 + 4 * 4) (cE 4 * 4 - 4 * 4) = 0)), .int (b2 (ebE st (a * 480 + w * 80 + 4 * 4) 64 = 0))]) := by
                                    intro ls hl
                                    refine lv_icmp_ne (tgt := 256) hx hb dL_holds_249 (by decide) (fun h => absurd (b2_cg (h_elem hiv (by omega) (by omega))) h) (fun _ => ?_)
                                    refine lv_iconst (v := nI 1) hx hb dL_holds_252 kc_iconst_1 ?_
                                    refine lv_goto (tgt := 257) hx hb dL_holds_253 (by decide) ?_
                                    refine lv_istore_n (lv' := [(1, .int (nI 1)), (3, .int (nI ((cfS st a w) + (if 1 < cntE st.1 (a * 480 + w * 80 + 1 * 4) (cE 1 * 4 - 1 * 4) then 1 else 0)))), (6, .int (nI 5)), (5, .int (nI (smC st a w 5))), (4, .int (nI w)), (2, .int (nI a)), (0, .ref x9)]) hx hb dL_holds_257 rfl hl (by decide) rfl (fun ls hl => ?_)
                                    refine lv_iinc (v := nI (w + 1)) (lv' := [(4, .int (nI (w + 1))), (1, .int (nI 1)), (3, .int (nI ((cfS st a w) + (if 1 < cntE st.1 (a * 480 + w * 80 + 1 * 4) (cE 1 * 4 - 1 * 4) then 1 else 0)))), (6, .int (nI 5)), (5, .int (nI (smC st a w 5))), (2, .int (nI a)), (0, .ref x9)]) hx hb dL_holds_258 hl (k := 4) rfl (nI_add w 1) (by decide) rfl (fun ls hl => ?_)
                                    refine lv_goto (tgt := 38) hx hb dL_holds_261 (by decide) ?_
                                    have hl : lv_has ls 7 [(4, .int (nI (w + 1))), (1, .int (nI 1)), (3, .int (nI ((cfS st a w) + (if 1 < cntE st.1 (a * 480 + w * 80 + 1 * 4) (cE 1 * 4 - 1 * 4) then 1 else 0)))), (2, .int (nI a)), (0, .ref x9)] := lv_sub hl [0, 1, 2, 5, 6] rfl
                                    have hl : lv_has ls 7 [(4, .int (nI (w + 1))), (1, .int (nI 1)), (3, .int (nI (cfS st a (w + 1)))), (2, .int (nI a)), (0, .ref x9)] := lv_rep hl 2 rfl (congrArg (fun z => Value.int (nI z)) (show (cfS st a w) + (if 1 < cntE st.1 (a * 480 + w * 80 + 1 * 4) (cE 1 * 4 - 1 * 4) then 1 else 0) = cfS st a (w + 1) from cf_s st a w))
                                    have hw : Wd D A [(cI, .int), (cR, .object RX1), (cC, .char)] (([(x9, .inr (3, [.ref (q 0), .ref (h9 0), .ref (t9 0)]))] : va_W) ++ wS cI q st ++ wR cR h9 (fr7 ad n8) ol n7 ++ wT cC t9 tx ln po ki rp tg nu ++ wP cI ad sv n8) s s.heap H locs := hw
                                    exact ih_38 (w + 1) (by omega) (by omega) _ _ hw ls hl
                                  refine r_if_neN (tgt := 248) hx hb (by first | exact Nat.lt_of_le_of_lt (cntE_le _ _ _) (by decide) | decide) dL_holds_241 (by decide) (fun c_241 => ?_) (fun c_241 => ?_)
                                  ·
                                    refine lv_iconst (v := nI 0) hx hb dL_holds_248 kc_iconst_0 ?_
                                    have hl : lv_has ls 7 [(3, .int (nI ((cfS st a w) + (if 1 < cntE st.1 (a * 480 + w * 80 + 1 * 4) (cE 1 * 4 - 1 * 4) then 1 else 0)))), (6, .int (nI 5)), (5, .int (nI (smC st a w 5))), (4, .int (nI w)), (1, .int (nI 1)), (2, .int (nI a)), (0, .ref x9)] := lv_sub hl [0, 1, 2, 3, 4, 5, 6] rfl
                                    refine r_top hx (show nI 0 = b2 (cntE st.1 (a * 480 + w * 80 + 4 * 4) (cE 4 * 4 - 4 * 4) = 0) from by first | exact ret1 c_241 | exact ret0 (by omega)) ?_
                                    exact J249_20 ls hl
                                  ·
                                    refine lv_iconst (v := nI 1) hx hb dL_holds_244 kc_iconst_1 ?_
                                    refine lv_goto (tgt := 249) hx hb dL_holds_245 (by decide) ?_
                                    have hl : lv_has ls 7 [(3, .int (nI ((cfS st a w) + (if 1 < cntE st.1 (a * 480 + w * 80 + 1 * 4) (cE 1 * 4 - 1 * 4) then 1 else 0)))), (6, .int (nI 5)), (5, .int (nI (smC st a w 5))), (4, .int (nI w)), (1, .int (nI 1)), (2, .int (nI a)), (0, .ref x9)] := lv_sub hl [0, 1, 2, 3, 4, 5, 6] rfl
                                    refine r_top hx (show nI 1 = b2 (cntE st.1 (a * 480 + w * 80 + 4 * 4) (cE 4 * 4 - 4 * 4) = 0) from by first | exact ret1 c_241 | exact ret0 (by omega)) ?_
                                    exact J249_20 ls hl
                                refine lv_if_ne (tgt := 232) hx hb dL_holds_225 (by decide) (fun c_225 => ?_) (fun c_225 => ?_)
                                ·
                                  refine lv_iconst (v := nI 0) hx hb dL_holds_232 kc_iconst_0 ?_
                                  have hl : lv_has ls 7 [(3, .int (nI ((cfS st a w) + (if 1 < cntE st.1 (a * 480 + w * 80 + 1 * 4) (cE 1 * 4 - 1 * 4) then 1 else 0)))), (6, .int (nI 5)), (5, .int (nI (smC st a w 5))), (4, .int (nI w)), (1, .int (nI 1)), (2, .int (nI a)), (0, .ref x9)] := lv_sub hl [0, 1, 2, 3, 4, 5, 6] rfl
                                  refine r_top hx (show nI 0 = b2 (ebE st (a * 480 + w * 80 + 4 * 4) 64 = 0) from by first | exact ret1 c_225 | exact ret0 c_225) ?_
                                  exact J233_19 ls hl
                                ·
                                  refine lv_iconst (v := nI 1) hx hb dL_holds_228 kc_iconst_1 ?_
                                  refine lv_goto (tgt := 233) hx hb dL_holds_229 (by decide) ?_
                                  have hl : lv_has ls 7 [(3, .int (nI ((cfS st a w) + (if 1 < cntE st.1 (a * 480 + w * 80 + 1 * 4) (cE 1 * 4 - 1 * 4) then 1 else 0)))), (6, .int (nI 5)), (5, .int (nI (smC st a w 5))), (4, .int (nI w)), (1, .int (nI 1)), (2, .int (nI a)), (0, .ref x9)] := lv_sub hl [0, 1, 2, 3, 4, 5, 6] rfl
                                  refine r_top hx (show nI 1 = b2 (ebE st (a * 480 + w * 80 + 4 * 4) 64 = 0) from by first | exact ret1 c_225 | exact ret0 c_225) ?_
                                  exact J233_19 ls hl
                              refine r_if_neN (tgt := 214) hx hb (by first | exact Nat.lt_of_le_of_lt (cntE_le _ _ _) (by decide) | decide) dL_holds_207 (by decide) (fun c_207 => ?_) (fun c_207 => ?_)
                              ·
                                refine lv_iconst (v := nI 0) hx hb dL_holds_214 kc_iconst_0 ?_
                                have hl : lv_has ls 7 [(3, .int (nI ((cfS st a w) + (if 1 < cntE st.1 (a * 480 + w * 80 + 1 * 4) (cE 1 * 4 - 1 * 4) then 1 else 0)))), (6, .int (nI 5)), (5, .int (nI (smC st a w 5))), (4, .int (nI w)), (1, .int (nI 1)), (2, .int (nI a)), (0, .ref x9)] := lv_sub hl [0, 1, 2, 3, 4, 5, 6] rfl
                                refine r_top hx (show nI 0 = b2 (cntE st.1 (a * 480 + w * 80 + 2 * 4) (cE 2 * 4 - 2 * 4) = 0) from by first | exact ret1 c_207 | exact ret0 (by omega)) ?_
                                exact J215_18 ls hl
                              ·
                                refine lv_iconst (v := nI 1) hx hb dL_holds_210 kc_iconst_1 ?_
                                refine lv_goto (tgt := 215) hx hb dL_holds_211 (by decide) ?_
                                have hl : lv_has ls 7 [(3, .int (nI ((cfS st a w) + (if 1 < cntE st.1 (a * 480 + w * 80 + 1 * 4) (cE 1 * 4 - 1 * 4) then 1 else 0)))), (6, .int (nI 5)), (5, .int (nI (smC st a w 5))), (4, .int (nI w)), (1, .int (nI 1)), (2, .int (nI a)), (0, .ref x9)] := lv_sub hl [0, 1, 2, 3, 4, 5, 6] rfl
                                refine r_top hx (show nI 1 = b2 (cntE st.1 (a * 480 + w * 80 + 2 * 4) (cE 2 * 4 - 2 * 4) = 0) from by first | exact ret1 c_207 | exact ret0 (by omega)) ?_
                                exact J215_18 ls hl
                            refine lv_if_ge (tgt := 198) hx hb dL_holds_191 (by decide) (fun c_191 => ?_) (fun c_191 => ?_)
                            ·
                              refine lv_iconst (v := nI 0) hx hb dL_holds_198 kc_iconst_0 ?_
                              have hl : lv_has ls 7 [(3, .int (nI ((cfS st a w) + (if 1 < cntE st.1 (a * 480 + w * 80 + 1 * 4) (cE 1 * 4 - 1 * 4) then 1 else 0)))), (6, .int (nI 5)), (5, .int (nI (smC st a w 5))), (4, .int (nI w)), (1, .int (nI 1)), (2, .int (nI a)), (0, .ref x9)] := lv_sub hl [0, 1, 2, 3, 4, 5, 6] rfl
                              refine r_top hx (show nI 0 = b2 (grE st (a * 480 + w * 80 + 2 * 4) 4 < 0) from by first | exact ret0 (Int32.not_lt.mpr c_191) | exact ret1 (Int32.not_le.mp c_191)) ?_
                              exact J199_17 ls hl
                            ·
                              refine lv_iconst (v := nI 1) hx hb dL_holds_194 kc_iconst_1 ?_
                              refine lv_goto (tgt := 199) hx hb dL_holds_195 (by decide) ?_
                              have hl : lv_has ls 7 [(3, .int (nI ((cfS st a w) + (if 1 < cntE st.1 (a * 480 + w * 80 + 1 * 4) (cE 1 * 4 - 1 * 4) then 1 else 0)))), (6, .int (nI 5)), (5, .int (nI (smC st a w 5))), (4, .int (nI w)), (1, .int (nI 1)), (2, .int (nI a)), (0, .ref x9)] := lv_sub hl [0, 1, 2, 3, 4, 5, 6] rfl
                              refine r_top hx (show nI 1 = b2 (grE st (a * 480 + w * 80 + 2 * 4) 4 < 0) from by first | exact ret0 (Int32.not_lt.mpr c_191) | exact ret1 (Int32.not_le.mp c_191)) ?_
                              exact J199_17 ls hl
                          refine r_if_neN (tgt := 180) hx hb (by first | exact Nat.lt_of_le_of_lt (cntE_le _ _ _) (by decide) | decide) dL_holds_173 (by decide) (fun c_173 => ?_) (fun c_173 => ?_)
                          ·
                            refine lv_iconst (v := nI 0) hx hb dL_holds_180 kc_iconst_0 ?_
                            have hl : lv_has ls 7 [(3, .int (nI ((cfS st a w) + (if 1 < cntE st.1 (a * 480 + w * 80 + 1 * 4) (cE 1 * 4 - 1 * 4) then 1 else 0)))), (6, .int (nI 5)), (5, .int (nI (smC st a w 5))), (4, .int (nI w)), (1, .int (nI 1)), (2, .int (nI a)), (0, .ref x9)] := lv_sub hl [0, 1, 2, 3, 4, 5, 6] rfl
                            refine r_top hx (show nI 0 = b2 (cntE st.1 (a * 480 + w * 80 + 0 * 4) (cE 0 * 4 - 0 * 4) = 0) from by first | exact ret1 c_173 | exact ret0 (by omega)) ?_
                            exact J181_16 ls hl
                          ·
                            refine lv_iconst (v := nI 1) hx hb dL_holds_176 kc_iconst_1 ?_
                            refine lv_goto (tgt := 181) hx hb dL_holds_177 (by decide) ?_
                            have hl : lv_has ls 7 [(3, .int (nI ((cfS st a w) + (if 1 < cntE st.1 (a * 480 + w * 80 + 1 * 4) (cE 1 * 4 - 1 * 4) then 1 else 0)))), (6, .int (nI 5)), (5, .int (nI (smC st a w 5))), (4, .int (nI w)), (1, .int (nI 1)), (2, .int (nI a)), (0, .ref x9)] := lv_sub hl [0, 1, 2, 3, 4, 5, 6] rfl
                            refine r_top hx (show nI 1 = b2 (cntE st.1 (a * 480 + w * 80 + 0 * 4) (cE 0 * 4 - 0 * 4) = 0) from by first | exact ret1 c_173 | exact ret0 (by omega)) ?_
                            exact J181_16 ls hl
                        refine lv_if_ge (tgt := 164) hx hb dL_holds_157 (by decide) (fun c_157 => ?_) (fun c_157 => ?_)
                        ·
                          refine lv_iconst (v := nI 0) hx hb dL_holds_164 kc_iconst_0 ?_
                          have hl : lv_has ls 7 [(3, .int (nI ((cfS st a w) + (if 1 < cntE st.1 (a * 480 + w * 80 + 1 * 4) (cE 1 * 4 - 1 * 4) then 1 else 0)))), (6, .int (nI 5)), (5, .int (nI (smC st a w 5))), (4, .int (nI w)), (1, .int (nI 1)), (2, .int (nI a)), (0, .ref x9)] := lv_sub hl [0, 1, 2, 3, 4, 5, 6] rfl
                          refine r_top hx (show nI 0 = b2 ((ltE st (a * 480 + w * 80 + 0 * 4) 4).2 < 0) from by first | exact ret0 (Int32.not_lt.mpr c_157) | exact ret1 (Int32.not_le.mp c_157)) ?_
                          exact J165_15 ls hl
                        ·
                          refine lv_iconst (v := nI 1) hx hb dL_holds_160 kc_iconst_1 ?_
                          refine lv_goto (tgt := 165) hx hb dL_holds_161 (by decide) ?_
                          have hl : lv_has ls 7 [(3, .int (nI ((cfS st a w) + (if 1 < cntE st.1 (a * 480 + w * 80 + 1 * 4) (cE 1 * 4 - 1 * 4) then 1 else 0)))), (6, .int (nI 5)), (5, .int (nI (smC st a w 5))), (4, .int (nI w)), (1, .int (nI 1)), (2, .int (nI a)), (0, .ref x9)] := lv_sub hl [0, 1, 2, 3, 4, 5, 6] rfl
                          refine r_top hx (show nI 1 = b2 ((ltE st (a * 480 + w * 80 + 0 * 4) 4).2 < 0) from by first | exact ret0 (Int32.not_lt.mpr c_157) | exact ret1 (Int32.not_le.mp c_157)) ?_
                          exact J165_15 ls hl
                      refine r_if_leN (tgt := 146) hx hb (Nat.lt_of_le_of_lt (smC_le st a w 5 (Nat.le_refl 5)) (by decide)) dL_holds_139 (by decide) (fun c_139 => ?_) (fun c_139 => ?_)
                      ·
                        refine lv_iconst (v := nI 0) hx hb dL_holds_146 kc_iconst_0 ?_
                        have hl : lv_has ls 7 [(3, .int (nI ((cfS st a w) + (if 1 < cntE st.1 (a * 480 + w * 80 + 1 * 4) (cE 1 * 4 - 1 * 4) then 1 else 0)))), (6, .int (nI 5)), (5, .int (nI (smC st a w 5))), (4, .int (nI w)), (1, .int (nI 1)), (2, .int (nI a)), (0, .ref x9)] := lv_sub hl [0, 1, 2, 3, 4, 5, 6] rfl
                        refine r_top hx (show nI 0 = b2 (0 < smC st a w 5) from by first | exact ret1 c_139 | exact ret0 (by omega)) ?_
                        exact J147_14 ls hl
                      ·
                        refine lv_iconst (v := nI 1) hx hb dL_holds_142 kc_iconst_1 ?_
                        refine lv_goto (tgt := 147) hx hb dL_holds_143 (by decide) ?_
                        have hl : lv_has ls 7 [(3, .int (nI ((cfS st a w) + (if 1 < cntE st.1 (a * 480 + w * 80 + 1 * 4) (cE 1 * 4 - 1 * 4) then 1 else 0)))), (6, .int (nI 5)), (5, .int (nI (smC st a w 5))), (4, .int (nI w)), (1, .int (nI 1)), (2, .int (nI a)), (0, .ref x9)] := lv_sub hl [0, 1, 2, 3, 4, 5, 6] rfl
                        refine r_top hx (show nI 1 = b2 (0 < smC st a w 5) from by first | exact ret1 c_139 | exact ret0 (by omega)) ?_
                        exact J147_14 ls hl
                    refine r_icmp_leN (tgt := 123) hx hb (by first | exact Nat.lt_of_le_of_lt (cntE_le _ _ _) (by decide) | decide) (by first | exact Nat.lt_of_le_of_lt (cntE_le _ _ _) (by decide) | decide) dL_holds_116 (by decide) (fun c_116 => ?_) (fun c_116 => ?_)
                    ·
                      refine lv_iconst (v := nI 0) hx hb dL_holds_123 kc_iconst_0 ?_
                      have hl : lv_has ls 7 [(6, .int (nI 5)), (5, .int (nI (smC st a w 5))), (4, .int (nI w)), (1, .int (nI 1)), (3, .int (nI (cfS st a w))), (2, .int (nI a)), (0, .ref x9)] := lv_sub hl [0, 1, 2, 3, 4, 5, 6] rfl
                      refine r_top hx (congrArg nI (show 0 = if 1 < cntE st.1 (a * 480 + w * 80 + 1 * 4) (cE 1 * 4 - 1 * 4) then 1 else 0 from by first | exact (if_pos c_116).symm | exact (if_neg (by omega)).symm)) ?_
                      exact J124_13 ls hl
                    ·
                      refine lv_iconst (v := nI 1) hx hb dL_holds_119 kc_iconst_1 ?_
                      refine lv_goto (tgt := 124) hx hb dL_holds_120 (by decide) ?_
                      have hl : lv_has ls 7 [(6, .int (nI 5)), (5, .int (nI (smC st a w 5))), (4, .int (nI w)), (1, .int (nI 1)), (3, .int (nI (cfS st a w))), (2, .int (nI a)), (0, .ref x9)] := lv_sub hl [0, 1, 2, 3, 4, 5, 6] rfl
                      refine r_top hx (congrArg nI (show 1 = if 1 < cntE st.1 (a * 480 + w * 80 + 1 * 4) (cE 1 * 4 - 1 * 4) then 1 else 0 from by first | exact (if_pos c_116).symm | exact (if_neg (by omega)).symm)) ?_
                      exact J124_13 ls hl
                  ·
                    refine lv_iload hx hb dL_holds_57 (lv_at hl 1 rfl) ?_
                    refine lv_aload_n hx hb dL_holds_59 rfl (lv_at hl 6 rfl) ?_
                    refine lv_iload_n hx hb dL_holds_60 rfl (lv_at hl 5 rfl) ?_
                    refine lv_iload hx hb dL_holds_61 (lv_at hl 2 rfl) ?_
                    refine lv_iload hx hb dL_holds_63 (lv_at hl 0 rfl) ?_
                    refine cpx_i (w1 := fun (u9 : Unit) => ([(x9, .inr (3, [.ref (q 0), .ref (h9 0), .ref (t9 0)]))] : va_W) ++ wS cI q st ++ wR cR h9 (fr7 ad n8) ol n7 ++ wT cC t9 tx ln po ki rp tg nu) (pl := fun (u9 : Unit) => wP cI ad sv n8) (As := [.int (nI a), .int (nI w), .int (nI k)]) (rest := [.int (nI (smC st a w k))]) (wc := ([(x9, .inr (3, [.ref (q 0), .ref (h9 0), .ref (t9 0)]))] : va_W) ++ wS cI q st ++ wR cR h9 (fr7 ad n8) ol n7 ++ wT cC t9 tx ln po ki rp tg nu) (wr := []) S hz (c_X3_entries l D (sz := H.size) (cI := cI) (cR := cR) (cC := cC) (x9 := x9) (q := q) (st := st) (h9 := h9) (ad := ad) (sv := sv) (ol := ol) (n7 := n7) (n8 := n8) (t9 := t9) (tx := tx) (ln := ln) (po := po) (ki := ki) (rp := rp) (tg := tg) (nu := nu) (r := a) (w := w) (g := k) (hh := hh) (hr := by omega) (hw5 := by omega) (hg := by omega)) (cwV 3 hts gL_holds_X3_entries rfl rfl rfl (by decide +kernel) ⟨Nat.le_of_ble_eq_true rfl, Nat.le_of_ble_eq_true rfl⟩) hw hA [0, 1, 2, 3, 4, 5, 6, 7, 8, 9, 10, 11] [] [0, 1, 2] rfl rfl (k0 := 12) rfl (by decide) rfl 0 rfl rfl rfl hl.1 (Nat.le_of_ble_eq_true rfl) ⟨Nat.le_of_ble_eq_true rfl, Nat.le_of_ble_eq_true rfl⟩ rfl dL_holds_65 (fun r_65 u_65 H locs e_65 hw => ?_)
                    obtain ⟨⟩ := u_65
                    have hw : Wd D A [(cI, .int), (cR, .object RX1), (cC, .char)] (([(x9, .inr (3, [.ref (q 0), .ref (h9 0), .ref (t9 0)]))] : va_W) ++ wS cI q st ++ wR cR h9 (fr7 ad n8) ol n7 ++ wT cC t9 tx ln po ki rp tg nu ++ wP cI ad sv n8) s s.heap H locs := hw
                    have e_65 : r_65 = nI (cntE st.1 (a * 480 + w * 80 + k * 4) (cE k * 4 - k * 4)) := e_65
                    subst e_65
                    refine r_addN hx hb dL_holds_68 ?_
                    refine lv_istore (lv' := [(5, .int (nI ((smC st a w k) + (cntE st.1 (a * 480 + w * 80 + k * 4) (cE k * 4 - k * 4))))), (6, .int (nI k)), (4, .int (nI w)), (1, .int (nI 1)), (3, .int (nI (cfS st a w))), (2, .int (nI a)), (0, .ref x9)]) hx hb dL_holds_69 hl (by decide) rfl (fun ls hl => ?_)
                    refine lv_iload_n hx hb dL_holds_71 rfl (lv_at hl 3 rfl) ?_
                    refine lv_if_eq (tgt := 98) hx hb dL_holds_72 (by decide) (fun h => absurd h (by decide)) (fun _ => ?_)
                    refine lv_iload hx hb dL_holds_75 (lv_at hl 1 rfl) ?_
                    refine lv_iconst (v := nI 4) hx hb dL_holds_77 kc_iconst_4 ?_
                    refine r_icmp_eqN (tgt := 94) hx hb (by omega) (by omega) dL_holds_78 (by decide) (fun c_78 => ?_) (fun c_78 => ?_)
                    ·
                      refine lv_iconst (v := nI 1) hx hb dL_holds_94 kc_iconst_1 ?_
                      refine lv_goto (tgt := 99) hx hb dL_holds_95 (by decide) ?_
                      refine lv_istore_n (lv' := [(1, .int (nI 1)), (5, .int (nI ((smC st a w k) + (cntE st.1 (a * 480 + w * 80 + k * 4) (cE k * 4 - k * 4))))), (6, .int (nI k)), (4, .int (nI w)), (3, .int (nI (cfS st a w))), (2, .int (nI a)), (0, .ref x9)]) hx hb dL_holds_99 rfl hl (by decide) rfl (fun ls hl => ?_)
                      refine lv_iinc (v := nI (k + 1)) (lv' := [(6, .int (nI (k + 1))), (1, .int (nI 1)), (5, .int (nI ((smC st a w k) + (cntE st.1 (a * 480 + w * 80 + k * 4) (cE k * 4 - k * 4))))), (4, .int (nI w)), (3, .int (nI (cfS st a w))), (2, .int (nI a)), (0, .ref x9)]) hx hb dL_holds_100 hl (k := 2) rfl (nI_add k 1) (by decide) rfl (fun ls hl => ?_)
                      refine lv_goto (tgt := 51) hx hb dL_holds_103 (by decide) ?_
                      have hl : lv_has ls 7 [(6, .int (nI (k + 1))), (5, .int (nI ((smC st a w k) + (cntE st.1 (a * 480 + w * 80 + k * 4) (cE k * 4 - k * 4))))), (4, .int (nI w)), (1, .int (nI 1)), (3, .int (nI (cfS st a w))), (2, .int (nI a)), (0, .ref x9)] := lv_sub hl [0, 2, 3, 1, 4, 5, 6] rfl
                      have hl : lv_has ls 7 [(6, .int (nI (k + 1))), (5, .int (nI (smC st a w (k + 1)))), (4, .int (nI w)), (1, .int (nI 1)), (3, .int (nI (cfS st a w))), (2, .int (nI a)), (0, .ref x9)] := lv_rep hl 1 rfl (congrArg (fun z => Value.int (nI z)) (show (smC st a w k) + (cntE st.1 (a * 480 + w * 80 + k * 4) (cE k * 4 - k * 4)) = smC st a w (k + 1) from rfl))
                      have hw : Wd D A [(cI, .int), (cR, .object RX1), (cC, .char)] (([(x9, .inr (3, [.ref (q 0), .ref (h9 0), .ref (t9 0)]))] : va_W) ++ wS cI q st ++ wR cR h9 (fr7 ad n8) ol n7 ++ wT cC t9 tx ln po ki rp tg nu ++ wP cI ad sv n8) s s.heap H locs := hw
                      exact ih_51 (k + 1) (by omega) (by omega) _ _ hw ls hl
                    ·
                      refine lv_aload_n hx hb dL_holds_81 rfl (lv_at hl 6 rfl) ?_
                      refine lv_iload_n hx hb dL_holds_82 rfl (lv_at hl 5 rfl) ?_
                      refine lv_iload hx hb dL_holds_83 (lv_at hl 2 rfl) ?_
                      refine lv_iload hx hb dL_holds_85 (lv_at hl 1 rfl) ?_
                      refine cpx_i (w1 := fun (u9 : Unit) => ([(x9, .inr (3, [.ref (q 0), .ref (h9 0), .ref (t9 0)]))] : va_W) ++ wS cI q st ++ wR cR h9 (fr7 ad n8) ol n7 ++ wT cC t9 tx ln po ki rp tg nu) (pl := fun (u9 : Unit) => wP cI ad sv n8) (As := [.int (nI a), .int (nI w), .int (nI k)]) (rest := []) (wc := ([(x9, .inr (3, [.ref (q 0), .ref (h9 0), .ref (t9 0)]))] : va_W) ++ wS cI q st ++ wR cR h9 (fr7 ad n8) ol n7 ++ wT cC t9 tx ln po ki rp tg nu) (wr := []) S hz (c_X3_entries l D (sz := H.size) (cI := cI) (cR := cR) (cC := cC) (x9 := x9) (q := q) (st := st) (h9 := h9) (ad := ad) (sv := sv) (ol := ol) (n7 := n7) (n8 := n8) (t9 := t9) (tx := tx) (ln := ln) (po := po) (ki := ki) (rp := rp) (tg := tg) (nu := nu) (r := a) (w := w) (g := k) (hh := hh) (hr := by omega) (hw5 := by omega) (hg := by omega)) (cwV 3 hts gL_holds_X3_entries rfl rfl rfl (by decide +kernel) ⟨Nat.le_of_ble_eq_true rfl, Nat.le_of_ble_eq_true rfl⟩) hw hA [0, 1, 2, 3, 4, 5, 6, 7, 8, 9, 10, 11] [] [0, 1, 2] rfl rfl (k0 := 12) rfl (by decide) rfl 0 rfl rfl rfl hl.1 (Nat.le_of_ble_eq_true rfl) ⟨Nat.le_of_ble_eq_true rfl, Nat.le_of_ble_eq_true rfl⟩ rfl dL_holds_87 (fun r_87 u_87 H locs e_87 hw => ?_)
                      obtain ⟨⟩ := u_87
                      have hw : Wd D A [(cI, .int), (cR, .object RX1), (cC, .char)] (([(x9, .inr (3, [.ref (q 0), .ref (h9 0), .ref (t9 0)]))] : va_W) ++ wS cI q st ++ wR cR h9 (fr7 ad n8) ol n7 ++ wT cC t9 tx ln po ki rp tg nu ++ wP cI ad sv n8) s s.heap H locs := hw
                      have e_87 : r_87 = nI (cntE st.1 (a * 480 + w * 80 + k * 4) (cE k * 4 - k * 4)) := e_87
                      subst e_87
                      refine lv_iconst (v := nI 4) hx hb dL_holds_90 kc_iconst_4 ?_
                      refine lv_icmp_gt (tgt := 98) hx hb dL_holds_91 (by decide) (fun h => absurd h (Int32.not_lt.mpr (nI_le (cnt_c4 (by omega) c_78) (by decide)))) (fun _ => ?_)
                      refine lv_iconst (v := nI 1) hx hb dL_holds_94 kc_iconst_1 ?_
                      refine lv_goto (tgt := 99) hx hb dL_holds_95 (by decide) ?_
                      refine lv_istore_n (lv' := [(1, .int (nI 1)), (5, .int (nI ((smC st a w k) + (cntE st.1 (a * 480 + w * 80 + k * 4) (cE k * 4 - k * 4))))), (6, .int (nI k)), (4, .int (nI w)), (3, .int (nI (cfS st a w))), (2, .int (nI a)), (0, .ref x9)]) hx hb dL_holds_99 rfl hl (by decide) rfl (fun ls hl => ?_)
                      refine lv_iinc (v := nI (k + 1)) (lv' := [(6, .int (nI (k + 1))), (1, .int (nI 1)), (5, .int (nI ((smC st a w k) + (cntE st.1 (a * 480 + w * 80 + k * 4) (cE k * 4 - k * 4))))), (4, .int (nI w)), (3, .int (nI (cfS st a w))), (2, .int (nI a)), (0, .ref x9)]) hx hb dL_holds_100 hl (k := 2) rfl (nI_add k 1) (by decide) rfl (fun ls hl => ?_)
                      refine lv_goto (tgt := 51) hx hb dL_holds_103 (by decide) ?_
                      have hl : lv_has ls 7 [(6, .int (nI (k + 1))), (5, .int (nI ((smC st a w k) + (cntE st.1 (a * 480 + w * 80 + k * 4) (cE k * 4 - k * 4))))), (4, .int (nI w)), (1, .int (nI 1)), (3, .int (nI (cfS st a w))), (2, .int (nI a)), (0, .ref x9)] := lv_sub hl [0, 2, 3, 1, 4, 5, 6] rfl
                      have hl : lv_has ls 7 [(6, .int (nI (k + 1))), (5, .int (nI (smC st a w (k + 1)))), (4, .int (nI w)), (1, .int (nI 1)), (3, .int (nI (cfS st a w))), (2, .int (nI a)), (0, .ref x9)] := lv_rep hl 1 rfl (congrArg (fun z => Value.int (nI z)) (show (smC st a w k) + (cntE st.1 (a * 480 + w * 80 + k * 4) (cE k * 4 - k * 4)) = smC st a w (k + 1) from rfl))
                      have hw : Wd D A [(cI, .int), (cR, .object RX1), (cC, .char)] (([(x9, .inr (3, [.ref (q 0), .ref (h9 0), .ref (t9 0)]))] : va_W) ++ wS cI q st ++ wR cR h9 (fr7 ad n8) ol n7 ++ wT cC t9 tx ln po ki rp tg nu ++ wP cI ad sv n8) s s.heap H locs := hw
                      exact ih_51 (k + 1) (by omega) (by omega) _ _ hw ls hl
              have hl : lv_has ls 7 [(6, .int (nI 0)), (5, .int (nI 0)), (4, .int (nI w)), (1, .int (nI 1)), (3, .int (nI (cfS st a w))), (2, .int (nI a)), (0, .ref x9)] := lv_sub hl [0, 1, 2, 3, 4, 5, 6] rfl
              have hl : lv_has ls 7 [(6, .int (nI 0)), (5, .int (nI (smC st a w 0))), (4, .int (nI w)), (1, .int (nI 1)), (3, .int (nI (cfS st a w))), (2, .int (nI a)), (0, .ref x9)] := lv_rep hl 1 rfl (congrArg (fun z => Value.int (nI z)) (show 0 = smC st a w 0 from rfl))
              have hw : Wd D A [(cI, .int), (cR, .object RX1), (cC, .char)] (([(x9, .inr (3, [.ref (q 0), .ref (h9 0), .ref (t9 0)]))] : va_W) ++ wS cI q st ++ wR cR h9 (fr7 ad n8) ol n7 ++ wT cC t9 tx ln po ki rp tg nu ++ wP cI ad sv n8) s s.heap H locs := hw
              exact L51_11 (5 + 1) (0) (by omega) (by omega) _ _ hw ls hl
        have hl : lv_has ls 7 [(4, .int (nI 0)), (1, .int (nI 1)), (3, .int (nI 0)), (2, .int (nI a)), (0, .ref x9)] := lv_sub hl [0, 1, 2, 3, 4] rfl
        have hl : lv_has ls 7 [(4, .int (nI 0)), (1, .int (nI 1)), (3, .int (nI (cfS st a 0))), (2, .int (nI a)), (0, .ref x9)] := lv_rep hl 2 rfl (congrArg (fun z => Value.int (nI z)) (show 0 = cfS st a 0 from rfl))
        have hw : Wd D A [(cI, .int), (cR, .object RX1), (cC, .char)] (([(x9, .inr (3, [.ref (q 0), .ref (h9 0), .ref (t9 0)]))] : va_W) ++ wS cI q st ++ wR cR h9 (fr7 ad n8) ol n7 ++ wT cC t9 tx ln po ki rp tg nu ++ wP cI ad sv n8) s s.heap H locs := hw
        exact L38_3 (6 + 1) (0) (by omega) (by omega) _ _ hw ls hl
  have hl : lv_has ls 7 [(2, .int (nI 0)), (1, .int (nI 1)), (0, .ref x9)] := lv_sub hl [0, 1, 2] rfl
  have hw : Wd D A [(cI, .int), (cR, .object RX1), (cC, .char)] (([(x9, .inr (3, [.ref (q 0), .ref (h9 0), .ref (t9 0)]))] : va_W) ++ wS cI q st ++ wR cR h9 (fr7 ad n8) ol n7 ++ wT cC t9 tx ln po ki rp tg nu ++ wP cI ad sv n8) s s.heap s.heap [] := hw
  exact L4_1 (4 + 1) (0) (by omega) (by omega) _ _ hw ls hl
