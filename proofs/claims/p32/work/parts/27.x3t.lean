abbrev rmX3_mean : Room := { frames := 3, cells := 0, slots := 0, locals := 70 }
set_option maxHeartbeats 4000000 in
set_option maxRecDepth 100000 in
theorem c_X3_mean (l : Launch) (D : va_G) (sz : Nat) (cI cR cC : ClassId) (x9 : Nat) (q : Nat → Nat) (st : St) (h9 : Nat → Nat) (ad : Nat → Nat → Nat) (sv : Nat → St) (ol n7 n8 : Nat) (t9 : Nat → Nat) (tx : Nat → Nat) (ln po : Nat) (ki rp tg nu : Int32) (r w : Nat) (hh : hI ol n7 n8) (hr : r < 4) (hw5 : w < 6) : MXf l yX3_mean wsX3_mean rmX3_mean [.ref x9, .int (nI r), .int (nI w)] D [(cI, .int), (cR, .object RX1), (cC, .char)] ([(x9, .inr (3, [.ref (q 0), .ref (h9 0), .ref (t9 0)]))] ++ wS cI q st ++ wR cR h9 (fr7 ad n8) ol n7 ++ wT cC t9 tx ln po ki rp tg nu ++ wP cI ad sv n8) sz (fun rz (u9 : Unit) => rz = mnF (cntE st.1 (r * 480 + w * 80 + 1 * 4) (cE 1 * 4 - 1 * 4)) (smE st (r * 480 + w * 80 + 1 * 4) (cE 1 * 4 - 1 * 4))) (fun u9 => []) (fun u9 => [(x9, .inr (3, [.ref (q 0), .ref (h9 0), .ref (t9 0)]))] ++ wS cI q st ++ wR cR h9 (fr7 ad n8) ol n7 ++ wT cC t9 tx ln po ki rp tg nu ++ wP cI ad sv n8) 0 0 := by
  refine met_xf (own := RX3) (cc := cX3_mean) (maxL := 4) (by decide) rfl rfl (Nat.le_of_ble_eq_true rfl) ?_
  intro p e s m args below meth c Q A hsz S hz hw hA hE ls hl
  obtain ⟨hx, hb, hml, hown, hts⟩ := id S
  have k10 := hts (.fieldLink RX3 10 "CausalTable" "state" "LCausalTable$State;") (by decide +kernel)
  have hin3 := (show ∀ w ∈ wsX30, w ∈ wsX3_mean by decide +kernel)
  have hl : lv_has ls 4 [(0, .ref x9), (1, .int (nI r)), (2, .int (nI w))] := hl
  have hcn := cntE_le st.1 (r * 480 + w * 80 + 1 * 4) (cE 1 * 4 - 1 * 4)
  have hce : cE 1 * 4 - 1 * 4 = 4 := rfl
  refine lv_iload_n hx hb dX3_mean_0 rfl (lv_at hl 1 rfl) ?_
  refine cp_Sv (As := [.int (nI r)]) (rest := []) S (c_X3_checkReplica l D (sz := s.heap.size) (r := r) (hr := by omega)) (va_cwS 1 hts gX3_mean_X3_checkReplica rfl rfl rfl (by decide +kernel) ⟨Nat.le_of_ble_eq_true rfl, Nat.le_of_ble_eq_true rfl⟩) hw hA rfl hl.1 (Nat.le_of_ble_eq_true rfl) ⟨Nat.le_of_ble_eq_true rfl, Nat.le_of_ble_eq_true rfl⟩ rfl dX3_mean_1 (fun H locs hw => ?_)
  have hw : Wd D A [(cI, .int), (cR, .object RX1), (cC, .char)] ([(x9, .inr (3, [.ref (q 0), .ref (h9 0), .ref (t9 0)]))] ++ wS cI q st ++ wR cR h9 (fr7 ad n8) ol n7 ++ wT cC t9 tx ln po ki rp tg nu ++ wP cI ad sv n8) s s.heap H locs := hw
  refine lv_iload_n hx hb dX3_mean_4 rfl (lv_at hl 2 rfl) ?_
  refine cp_Sv (As := [.int (nI w)]) (rest := []) S (c_X3_checkRow l D (sz := H.size) (w := w) (hw5 := by omega)) (va_cwS 1 hts gX3_mean_X3_checkRow rfl rfl rfl (by decide +kernel) ⟨Nat.le_of_ble_eq_true rfl, Nat.le_of_ble_eq_true rfl⟩) hw hA rfl hl.1 (Nat.le_of_ble_eq_true rfl) ⟨Nat.le_of_ble_eq_true rfl, Nat.le_of_ble_eq_true rfl⟩ rfl dX3_mean_5 (fun H locs hw => ?_)
  have hw : Wd D A [(cI, .int), (cR, .object RX1), (cC, .char)] ([(x9, .inr (3, [.ref (q 0), .ref (h9 0), .ref (t9 0)]))] ++ wS cI q st ++ wR cR h9 (fr7 ad n8) ol n7 ++ wT cC t9 tx ln po ki rp tg nu ++ wP cI ad sv n8) s s.heap H locs := hw
  refine lv_aload_n hx hb dX3_mean_8 rfl (lv_at hl 0 rfl) ?_
  refine r_get hx hb hts hown hw.q 0 0 hin3 rfl rfl (by decide) k10 rfl dX3_mean_9 ?_
  refine lv_iload_n hx hb dX3_mean_12 rfl (lv_at hl 1 rfl) ?_
  refine lv_iload_n hx hb dX3_mean_13 rfl (lv_at hl 2 rfl) ?_
  refine lv_iconst (v := nI 1) hx hb dX3_mean_14 kc_iconst_1 ?_
  refine cq_V (As := [.int (nI r), .int (nI w), .int (nI 1)]) (rest := []) S (c_X1_countInCell l D (cI := cI) (q := q) (st := st) (r := r) (w := w) (g := 1) (hr := by omega) (hw5 := by omega) (hg := by omega)) (cwV 3 hts gX3_mean_X1_countInCell rfl rfl rfl (by decide +kernel) ⟨Nat.le_of_ble_eq_true rfl, Nat.le_of_ble_eq_true rfl⟩) (hw.q.sub [1, 2, 3, 4, 5, 6, 7] [0] rfl rfl) 0 rfl rfl rfl hl.1 (Nat.le_of_ble_eq_true rfl) ⟨Nat.le_of_ble_eq_true rfl, Nat.le_of_ble_eq_true rfl⟩ rfl dX3_mean_15 (fun r_15 e_15 => ?_)
  have e_15 : r_15 = nI (cntE st.1 (r * 480 + w * 80 + 1 * 4) (cE 1 * 4 - 1 * 4)) := e_15
  subst e_15
  refine lv_istore_n (lv' := [(3, .int (nI (cntE st.1 (r * 480 + w * 80 + 1 * 4) (cE 1 * 4 - 1 * 4)))), (0, .ref x9), (1, .int (nI r)), (2, .int (nI w))]) hx hb dX3_mean_18 rfl hl (by decide) rfl (fun ls hl => ?_)
  refine lv_iload_n hx hb dX3_mean_19 rfl (lv_at hl 0 rfl) ?_
  refine r_if_neN (tgt := 25) hx hb (by omega) dX3_mean_20 (by decide) (fun c_20 => ?_) (fun c_20 => ?_)
  ·
    refine lv_aload_n hx hb dX3_mean_25 rfl (lv_at hl 1 rfl) ?_
    refine r_get hx hb hts hown hw.q 0 0 hin3 rfl rfl (by decide) k10 rfl dX3_mean_26 ?_
    refine lv_iload_n hx hb dX3_mean_29 rfl (lv_at hl 2 rfl) ?_
    refine lv_iload_n hx hb dX3_mean_30 rfl (lv_at hl 3 rfl) ?_
    refine lv_iconst (v := nI 1) hx hb dX3_mean_31 kc_iconst_1 ?_
    refine cq_V (As := [.int (nI r), .int (nI w), .int (nI 1)]) (rest := []) S (c_X1_sumOfCell l D (cI := cI) (q := q) (st := st) (r := r) (w := w) (g := 1) (hr := by omega) (hw5 := by omega) (hg := by omega)) (cwV 3 hts gX3_mean_X1_sumOfCell rfl rfl rfl (by decide +kernel) ⟨Nat.le_of_ble_eq_true rfl, Nat.le_of_ble_eq_true rfl⟩) (hw.q.sub [1, 2, 3, 4, 5, 6, 7] [0] rfl rfl) 0 rfl rfl rfl hl.1 (Nat.le_of_ble_eq_true rfl) ⟨Nat.le_of_ble_eq_true rfl, Nat.le_of_ble_eq_true rfl⟩ rfl dX3_mean_32 (fun r_32 e_32 => ?_)
    have e_32 : r_32 = smE st (r * 480 + w * 80 + 1 * 4) (cE 1 * 4 - 1 * 4) := e_32
    subst e_32
    refine lv_i2f hx hb dX3_mean_35 ?_
    refine lv_iload_n hx hb dX3_mean_36 rfl (lv_at hl 0 rfl) ?_
    refine lv_i2f hx hb dX3_mean_37 ?_
    refine lv_fdiv hx hb dX3_mean_38 (fl_n32 (fl_mean _ c_20 (by omega))) ?_
    exact hE () dX3_mean_39 (Nat.le_of_ble_eq_true rfl) (Nat.le_of_ble_eq_true rfl) ⟨⟨hw.1.1, fun k q hk => by cases hk⟩, hw.2.1, hw.2.2.1, hw.2.2.2⟩ (show FP.fdiv (FP.i2f (smE st (r * 480 + w * 80 + 1 * 4) (cE 1 * 4 - 1 * 4))) (FP.i2f (nI (cntE st.1 (r * 480 + w * 80 + 1 * 4) (cE 1 * 4 - 1 * 4)))) = mnF (cntE st.1 (r * 480 + w * 80 + 1 * 4) (cE 1 * 4 - 1 * 4)) (smE st (r * 480 + w * 80 + 1 * 4) (cE 1 * 4 - 1 * 4)) from mnF_p _ c_20)
  ·
    refine lv_fconst0 hx hb dX3_mean_23 ?_
    exact hE () dX3_mean_24 (Nat.le_of_ble_eq_true rfl) (Nat.le_of_ble_eq_true rfl) ⟨⟨hw.1.1, fun k q hk => by cases hk⟩, hw.2.1, hw.2.2.1, hw.2.2.2⟩ (show FP.fconst0 = mnF (cntE st.1 (r * 480 + w * 80 + 1 * 4) (cE 1 * 4 - 1 * 4)) (smE st (r * 480 + w * 80 + 1 * 4) (cE 1 * 4 - 1 * 4)) from mnF_0 _ c_20)
def agJ (st : St) (w : Nat) : Nat → Nat
  | 0 => 0
  | k + 1 => agJ st w k + if agP st w k then 1 else 0
def agW (st : St) : Nat → Nat
  | 0 => 0
  | k + 1 => agW st k + agJ st k 5
theorem agJ_le (st : St) (w : Nat) : ∀ n, agJ st w n ≤ n
  | 0 => Nat.le_refl 0
  | n + 1 => by
    have := agJ_le st w n
    unfold agJ; split <;> omega
theorem agW_le (st : St) : ∀ n, agW st n ≤ 5 * n
  | 0 => Nat.le_refl 0
  | n + 1 => by
    have h1 := agW_le st n
    have h2 := agJ_le st n 5
    unfold agW; omega
theorem agJ_p {st : St} {w k : Nat} (h : agP st w k) : agJ st w k + 1 = agJ st w (k + 1) := by rw [agJ, if_pos h]
theorem agJ_n {st : St} {w k : Nat} (h : ¬ agP st w k) : agJ st w k = agJ st w (k + 1) := by rw [agJ, if_neg h]; rfl
abbrev rmX3_agreement : Room := { frames := 3, cells := 0, slots := 0, locals := 69 }
set_option maxHeartbeats 4000000 in
set_option maxRecDepth 100000 in
theorem c_X3_agreement (l : Launch) (D : va_G) (sz : Nat) (cI cR cC : ClassId) (x9 : Nat) (q : Nat → Nat) (st : St) (h9 : Nat → Nat) (ad : Nat → Nat → Nat) (sv : Nat → St) (ol n7 n8 : Nat) (t9 : Nat → Nat) (tx : Nat → Nat) (ln po : Nat) (ki rp tg nu : Int32) (hh : hI ol n7 n8) : MXd l yX3_agreement wsX3_agreement rmX3_agreement [.ref x9] D [(cI, .int), (cR, .object RX1), (cC, .char)] ([(x9, .inr (3, [.ref (q 0), .ref (h9 0), .ref (t9 0)]))] ++ wS cI q st ++ wR cR h9 (fr7 ad n8) ol n7 ++ wT cC t9 tx ln po ki rp tg nu ++ wP cI ad sv n8) sz (fun rz (u9 : Unit) => rz = agF (agW st 6)) (fun u9 => []) (fun u9 => [(x9, .inr (3, [.ref (q 0), .ref (h9 0), .ref (t9 0)]))] ++ wS cI q st ++ wR cR h9 (fr7 ad n8) ol n7 ++ wT cC t9 tx ln po ki rp tg nu ++ wP cI ad sv n8) 0 0 := by
  refine met_xd (own := RX3) (cc := cX3_agreement) (maxL := 4) (by decide) rfl rfl (Nat.le_of_ble_eq_true rfl) ?_
  intro p e s m args below meth c Q A hsz S hz hw hA hE ls hl
  obtain ⟨hx, hb, hml, hown, hts⟩ := id S
  have cd162 := hts (.constantDouble RX3 162 (4629137466983448576 : UInt64)) (by decide +kernel)
  have k10 := hts (.fieldLink RX3 10 "CausalTable" "state" "LCausalTable$State;") (by decide +kernel)
  have hin3 := (show ∀ w ∈ wsX30, w ∈ wsX3_agreement by decide +kernel)
  have hl : lv_has ls 4 [(0, .ref x9)] := hl
  refine lv_iconst (v := nI 0) hx hb dX3_agreement_0 kc_iconst_0 ?_
  refine lv_istore_n (lv' := [(1, .int (nI 0)), (0, .ref x9)]) hx hb dX3_agreement_1 rfl hl (by decide) rfl (fun ls hl => ?_)
  refine lv_iconst (v := nI 0) hx hb dX3_agreement_2 kc_iconst_0 ?_
  refine lv_istore_n (lv' := [(2, .int (nI 0)), (1, .int (nI 0)), (0, .ref x9)]) hx hb dX3_agreement_3 rfl hl (by decide) rfl (fun ls hl => ?_)
  have L4_1 : ∀ (fu_2 k : Nat), k ≤ 6 → 6 - k < fu_2 → ∀ ls : Array Slot, lv_has ls 4 [(2, .int (nI k)), (1, .int (nI (agW st k))), (0, .ref x9)] → W p l e rmX3_agreement s m args below meth c s.heap [] 0 0 Q (F0 m 4 ls []) := by
    intro fu_2
    induction fu_2 with
    | zero => intro k _ h9; exact absurd h9 (Nat.not_lt_zero _)
    | succ fu_2 ih_4 =>
      intro k hk_4 hf_4 ls hl
      have h8 := agW_le st k
      refine lv_iload_n hx hb dX3_agreement_4 rfl (lv_at hl 0 rfl) ?_
      refine lv_bipush (v := nI 6) hx hb dX3_agreement_5 kc_bipush_6 ?_
      refine r_icmp_geN (tgt := 44) hx hb (by omega) (by omega) dX3_agreement_7 (by decide) (fun c_7 => ?_) (fun c_7 => ?_)
      ·
        have hk6 : k = 6 := by omega
        refine lv_iload_n hx hb dX3_agreement_44 rfl (lv_at hl 1 rfl) ?_
        refine lv_i2d hx hb dX3_agreement_45 ?_
        refine lv_ldc2d (v := d30) hx hb hown cd162 dX3_agreement_46 ?_
        refine lv_ddiv hx hb dX3_agreement_49 (fl_n64 (fl_agr _)) ?_
        exact hE () dX3_agreement_50 (Nat.le_of_ble_eq_true rfl) (Nat.le_of_ble_eq_true rfl) ⟨⟨hw.1.1, fun k q hk => by cases hk⟩, hw.2.1, hw.2.2.1, hw.2.2.2⟩ (show FP.ddiv (FP.i2d (nI (agW st k))) d30 = agF (agW st 6) from by rw [hk6]; rfl)
      ·
        refine lv_iconst (v := nI 0) hx hb dX3_agreement_10 kc_iconst_0 ?_
        refine lv_istore_n (lv' := [(3, .int (nI 0)), (2, .int (nI k)), (1, .int (nI (agW st k))), (0, .ref x9)]) hx hb dX3_agreement_11 rfl hl (by decide) rfl (fun ls hl => ?_)
        have L12_3 : ∀ (fu_4 j : Nat), j ≤ 5 → 5 - j < fu_4 → ∀ ls : Array Slot, lv_has ls 4 [(3, .int (nI j)), (2, .int (nI k)), (1, .int (nI (agW st k + agJ st k j))), (0, .ref x9)] → W p l e rmX3_agreement s m args below meth c s.heap [] 0 0 Q (F0 m 12 ls []) := by
          intro fu_4
          induction fu_4 with
          | zero => intro j _ h9; exact absurd h9 (Nat.not_lt_zero _)
          | succ fu_4 ih_12 =>
            intro j hk_12 hf_12 ls hl
            have h9 := agJ_le st k j
            refine lv_iload_n hx hb dX3_agreement_12 rfl (lv_at hl 0 rfl) ?_
            refine lv_iconst (v := nI 5) hx hb dX3_agreement_13 kc_iconst_5 ?_
            refine r_icmp_geN (tgt := 38) hx hb (by omega) (by omega) dX3_agreement_14 (by decide) (fun c_14 => ?_) (fun c_14 => ?_)
            ·
              have hj5 : j = 5 := by omega
              have h7 : agW st k + agJ st k j = agW st (k + 1) := by rw [hj5, agW]
              refine lv_iinc (v := nI (k + 1)) (lv' := [(2, .int (nI (k + 1))), (3, .int (nI j)), (1, .int (nI (agW st k + agJ st k j))), (0, .ref x9)]) hx hb dX3_agreement_38 hl (k := 1) rfl (nI_add k 1) (by decide) rfl (fun ls hl => ?_)
              refine lv_goto (tgt := 4) hx hb dX3_agreement_41 (by decide) ?_
              have hl : lv_has ls 4 [(2, .int (nI (k + 1))), (1, .int (nI (agW st k + agJ st k j))), (0, .ref x9)] := lv_sub hl [0, 2, 3] rfl
              have hl : lv_has ls 4 [(2, .int (nI (k + 1))), (1, .int (nI (agW st (k + 1)))), (0, .ref x9)] := lv_rep hl 1 rfl (congrArg (fun z => Value.int (nI z)) (show agW st k + agJ st k j = agW st (k + 1) from by omega))
              exact ih_4 (k + 1) (by omega) (by omega) ls hl
            ·
              refine lv_aload_n hx hb dX3_agreement_17 rfl (lv_at hl 3 rfl) ?_
              refine r_get hx hb hts hown hw.q 0 0 hin3 rfl rfl (by decide) k10 rfl dX3_agreement_18 ?_
              refine lv_iload_n hx hb dX3_agreement_21 rfl (lv_at hl 1 rfl) ?_
              refine lv_iload_n hx hb dX3_agreement_22 rfl (lv_at hl 0 rfl) ?_
              refine cq_V (As := [.int (nI k), .int (nI j)]) (rest := []) S (c_X1_isAgreed l D (cI := cI) (q := q) (st := st) (w := k) (g := j) (hw5 := by omega) (hg := by omega)) (cwV 2 hts gX3_agreement_X1_isAgreed rfl rfl rfl (by decide +kernel) ⟨Nat.le_of_ble_eq_true rfl, Nat.le_of_ble_eq_true rfl⟩) (hw.q.sub [1, 2, 3, 4, 5, 6, 7] [0] rfl rfl) 0 rfl rfl rfl hl.1 (Nat.le_of_ble_eq_true rfl) ⟨Nat.le_of_ble_eq_true rfl, Nat.le_of_ble_eq_true rfl⟩ rfl dX3_agreement_23 (fun r_23 e_23 => ?_)
              have e_23 : r_23 = b2 (agP st k j) := e_23
              subst e_23
              refine r_if_eqB (tgt := 32) hx hb dX3_agreement_26 (by decide) (fun c_26 => ?_) (fun c_26 => ?_)
              ·
                refine lv_iinc (v := nI (j + 1)) (lv' := [(3, .int (nI (j + 1))), (2, .int (nI k)), (1, .int (nI (agW st k + agJ st k j))), (0, .ref x9)]) hx hb dX3_agreement_32 hl (k := 0) rfl (nI_add j 1) (by decide) rfl (fun ls hl => ?_)
                refine lv_goto (tgt := 12) hx hb dX3_agreement_35 (by decide) ?_
                have hl : lv_has ls 4 [(3, .int (nI (j + 1))), (2, .int (nI k)), (1, .int (nI (agW st k + agJ st k j))), (0, .ref x9)] := lv_sub hl [0, 1, 2, 3] rfl
                have hl : lv_has ls 4 [(3, .int (nI (j + 1))), (2, .int (nI k)), (1, .int (nI (agW st k + agJ st k (j + 1)))), (0, .ref x9)] := lv_rep hl 2 rfl (congrArg (fun z => Value.int (nI z)) (show agW st k + agJ st k j = agW st k + agJ st k (j + 1) from by rw [← agJ_n c_26]))
                exact ih_12 (j + 1) (by omega) (by omega) ls hl
              ·
                refine lv_iinc (v := nI ((agW st k + agJ st k j) + 1)) (lv' := [(1, .int (nI ((agW st k + agJ st k j) + 1))), (3, .int (nI j)), (2, .int (nI k)), (0, .ref x9)]) hx hb dX3_agreement_29 hl (k := 2) rfl (nI_add (agW st k + agJ st k j) 1) (by decide) rfl (fun ls hl => ?_)
                refine lv_iinc (v := nI (j + 1)) (lv' := [(3, .int (nI (j + 1))), (1, .int (nI ((agW st k + agJ st k j) + 1))), (2, .int (nI k)), (0, .ref x9)]) hx hb dX3_agreement_32 hl (k := 1) rfl (nI_add j 1) (by decide) rfl (fun ls hl => ?_)
                refine lv_goto (tgt := 12) hx hb dX3_agreement_35 (by decide) ?_
                have hl : lv_has ls 4 [(3, .int (nI (j + 1))), (2, .int (nI k)), (1, .int (nI ((agW st k + agJ st k j) + 1))), (0, .ref x9)] := lv_sub hl [0, 2, 1, 3] rfl
                have hl : lv_has ls 4 [(3, .int (nI (j + 1))), (2, .int (nI k)), (1, .int (nI (agW st k + agJ st k (j + 1)))), (0, .ref x9)] := lv_rep hl 2 rfl (congrArg (fun z => Value.int (nI z)) (show (agW st k + agJ st k j) + 1 = agW st k + agJ st k (j + 1) from by rw [← agJ_p c_26, Nat.add_assoc]))
                exact ih_12 (j + 1) (by omega) (by omega) ls hl
        have hl : lv_has ls 4 [(3, .int (nI 0)), (2, .int (nI k)), (1, .int (nI (agW st k))), (0, .ref x9)] := lv_sub hl [0, 1, 2, 3] rfl
        have hl : lv_has ls 4 [(3, .int (nI 0)), (2, .int (nI k)), (1, .int (nI (agW st k + agJ st k 0))), (0, .ref x9)] := lv_rep hl 2 rfl (congrArg (fun z => Value.int (nI z)) (show agW st k = agW st k + agJ st k 0 from rfl))
        exact L12_3 (5 + 1) (0) (by omega) (by omega) ls hl
  have hl : lv_has ls 4 [(2, .int (nI 0)), (1, .int (nI 0)), (0, .ref x9)] := lv_sub hl [0, 1, 2] rfl
  have hl : lv_has ls 4 [(2, .int (nI 0)), (1, .int (nI (agW st 0))), (0, .ref x9)] := lv_rep hl 1 rfl (congrArg (fun z => Value.int (nI z)) (show 0 = agW st 0 from rfl))
  exact L4_1 (6 + 1) (0) (by omega) (by omega) ls hl
