/-! the class's mergeAll -/
def mgT (x : St × Nat) (f t : Nat) : St × Nat := (mgS x.1 f t, x.2 + (if cntP (fun o => addP x.1 f t o) 480 + cntP (fun o => remP x.1 f t o) 480 = 0 then 0 else 1))
def maA (st : St) : Nat → St × Nat
  | 0 => (st, 0)
  | k + 1 => mgT (maA st k) k (k + 1)
def maAll (st : St) : St × Nat := mgT (mgT (mgT (maA st 3) 3 2) 3 1) 3 0
theorem mgT_1 (x : St × Nat) (f t : Nat) : (mgT x f t).1 = mgS x.1 f t := by rw [mgT]
theorem maA_1 (st : St) (k : Nat) : (maA st (k + 1)).1 = mgS (maA st k).1 k (k + 1) := by rw [maA, mgT_1]
theorem maA_2 (st : St) (k : Nat) : (maA st (k + 1)).2 = (maA st k).2 + (if cntP (fun o => addP (maA st k).1 k (k + 1) o) 480 + cntP (fun o => remP (maA st k).1 k (k + 1) o) 480 = 0 then 0 else 1) := by rw [maA, mgT]
theorem maAll_1 (st : St) : (maAll st).1 = mgS (mgS (mgS (maA st 3).1 3 2) 3 1) 3 0 := by rw [maAll, mgT_1, mgT_1, mgT_1]
theorem maA_p {st : St} {k : Nat} (h : cntP (fun o => addP (maA st k).1 k (k + 1) o) 480 + cntP (fun o => remP (maA st k).1 k (k + 1) o) 480 = 0) : (maA st k).2 = (maA st (k + 1)).2 := by rw [maA_2, if_pos h, Nat.add_zero]
theorem maA_n {st : St} {k : Nat} (h : 0 < cntP (fun o => addP (maA st k).1 k (k + 1) o) 480 + cntP (fun o => remP (maA st k).1 k (k + 1) o) 480) : (maA st k).2 + 1 = (maA st (k + 1)).2 := by rw [maA_2, if_neg (Nat.ne_of_gt h)]
theorem mgT_p {x : St × Nat} {f t : Nat} (h : cntP (fun o => addP x.1 f t o) 480 + cntP (fun o => remP x.1 f t o) 480 = 0) : (mgT x f t).2 = x.2 := by rw [mgT, if_pos h]; rfl
theorem mgT_n {x : St × Nat} {f t : Nat} (h : 0 < cntP (fun o => addP x.1 f t o) 480 + cntP (fun o => remP x.1 f t o) 480) : (mgT x f t).2 = x.2 + 1 := by rw [mgT, if_neg (Nat.ne_of_gt h)]
theorem cnt2 (P Q : Nat → Prop) [DecidablePred P] [DecidablePred Q] : cntP P 480 + cntP Q 480 < 2 ^ 31 := by
  have h1 := cntP_le P 480
  have h2 := cntP_le Q 480
  omega
theorem maA_0 (st : St) : maA st 0 = (st, 0) := by rw [maA]
abbrev rmX3_mergeAll : Room := { frames := 4, cells := 7, slots := 5790, locals := 122 }
set_option maxHeartbeats 4000000 in
set_option maxRecDepth 100000 in
theorem c_X3_mergeAll (l : Launch) (D : va_G) (sz : Nat) (cI cR cC : ClassId) (x9 : Nat) (q : Nat → Nat) (st : St) (h9 : Nat → Nat) (ad : Nat → Nat → Nat) (sv : Nat → St) (ol n7 n8 : Nat) (t9 : Nat → Nat) (tx : Nat → Nat) (ln po : Nat) (ki rp tg nu : Int32) (hh : hI ol n7 n8) : MXi l yX3_mergeAll wsX3_mergeAll rmX3_mergeAll [.ref x9] D [(cI, .int), (cR, .object RX1), (cC, .char)] ([(x9, .inr (3, [.ref (q 0), .ref (h9 0), .ref (t9 0)]))] ++ wS cI q st ++ wR cR h9 (fr7 ad n8) ol n7 ++ wT cC t9 tx ln po ki rp tg nu ++ wP cI ad sv n8) sz (fun rz (u9 : Nat × (Nat → Nat → Nat)) => rz = nI ((maAll st).2) ∧ hI (olN ol n7) (n7N n7) u9.1) (fun u9 => []) (fun u9 => [(x9, .inr (3, [.ref (q 0), .ref (h9 0), .ref (t9 0)]))] ++ wS cI q ((maAll st).1) ++ wR cR h9 (fr7 u9.2 u9.1) (olN ol n7) (n7N n7) ++ wT cC t9 tx ln po ki rp tg nu ++ wP cI u9.2 (va_up sv (slN ol n7) st) u9.1) 7 5790 := by
  refine met_xu (own := RX3) (cc := cX3_mergeAll) (maxL := 3) (ty := .int) (by decide) rfl rfl (Nat.le_of_ble_eq_true rfl) ?_
  intro p e s m args below meth c Q A hsz S hz hw hA hE ls hl
  obtain ⟨hx, hb, hml, hown, hts⟩ := id S
  have k19 := hts (.fieldLink RX3 19 "CausalTable" "history" "LCausalTable$History;") (by decide +kernel)
  have hin3 := (show ∀ w ∈ wsX30, w ∈ wsX3_mergeAll by decide +kernel)
  have k10 := hts (.fieldLink RX3 10 "CausalTable" "state" "LCausalTable$State;") (by decide +kernel)
  have hl : lv_has ls 3 [(0, .ref x9)] := hl
  refine lv_aload_n hx hb dX3_mergeAll_0 rfl (lv_at hl 0 rfl) ?_
  refine r_get hx hb hts hown hw.q 0 1 hin3 rfl rfl (by decide) k19 rfl dX3_mergeAll_1 ?_
  refine lv_aload_n hx hb dX3_mergeAll_4 rfl (lv_at hl 0 rfl) ?_
  refine r_get hx hb hts hown hw.q 0 0 hin3 rfl rfl (by decide) k10 rfl dX3_mergeAll_5 ?_
  refine cp_Vx (w1 := fun (u9 : Nat × (Nat → Nat → Nat)) => wR cR h9 (fr7 u9.2 u9.1) (olN ol n7) (n7N n7) ++ wS cI q st) (pl := fun (u9 : Nat × (Nat → Nat → Nat)) => wP cI u9.2 (va_up sv (slN ol n7) st) u9.1) (As := [.ref (q 0)]) (rest := []) (wc := wR cR h9 (fr7 ad n8) ol n7 ++ wS cI q st) (wr := [(x9, .inr (3, [.ref (q 0), .ref (h9 0), .ref (t9 0)]))] ++ wT cC t9 tx ln po ki rp tg nu) S hz (c_X0_save l D (sz := s.heap.size) (cI := cI) (cR := cR) (h9 := h9) (ad := ad) (sv := sv) (ol := ol) (n7 := n7) (m := n8) (q := q) (st := st) (hh := hh)) (cwV 1 hts gX3_mergeAll_X0_save rfl rfl rfl (by decide +kernel) ⟨Nat.le_of_ble_eq_true rfl, Nat.le_of_ble_eq_true rfl⟩) hw hA [8, 9, 1, 2, 3, 4, 5, 6, 7] [0, 10, 11] [0, 1] rfl rfl (k0 := 12) rfl (by decide) rfl 0 rfl rfl rfl hl.1 (Nat.le_of_ble_eq_true rfl) ⟨Nat.le_of_ble_eq_true rfl, Nat.le_of_ble_eq_true rfl⟩ rfl dX3_mergeAll_8 (fun u_8 H locs e_8 hw => ?_)
  obtain ⟨u0_8, u1_8⟩ := u_8
  have hw : Wd D A [(cI, .int), (cR, .object RX1), (cC, .char)] (wR cR h9 (fr7 u1_8 u0_8) (olN ol n7) (n7N n7) ++ wS cI q st ++ [(x9, .inr (3, [.ref (q 0), .ref (h9 0), .ref (t9 0)]))] ++ wT cC t9 tx ln po ki rp tg nu ++ wP cI u1_8 (va_up sv (slN ol n7) st) u0_8) s s.heap H locs := hw
  have hw : Wd D A [(cI, .int), (cR, .object RX1), (cC, .char)] ([(x9, .inr (3, [.ref (q 0), .ref (h9 0), .ref (t9 0)]))] ++ wS cI q st ++ wR cR h9 (fr7 u1_8 u0_8) (olN ol n7) (n7N n7) ++ wT cC t9 tx ln po ki rp tg nu ++ wP cI u1_8 (va_up sv (slN ol n7) st) u0_8) s s.heap H locs := hw.ord [9, 2, 3, 4, 5, 6, 7, 8, 0, 1, 10, 11] (k0 := 12) rfl rfl (by decide)
  refine lv_iconst (v := nI 0) hx hb dX3_mergeAll_11 kc_iconst_0 ?_
  refine lv_istore_n (lv' := [(1, .int (nI 0)), (0, .ref x9)]) hx hb dX3_mergeAll_12 rfl hl (by decide) rfl (fun ls hl => ?_)
  refine lv_iconst (v := nI 1) hx hb dX3_mergeAll_13 kc_iconst_1 ?_
  refine lv_istore_n (lv' := [(2, .int (nI 1)), (1, .int (nI 0)), (0, .ref x9)]) hx hb dX3_mergeAll_14 rfl hl (by decide) rfl (fun ls hl => ?_)
  have L15_1 : ∀ (fu_2 k : Nat), k ≤ 3 → 3 - k < fu_2 → ∀ (H : Heap) (locs : List Loc), Wd D A [(cI, .int), (cR, .object RX1), (cC, .char)] ([(x9, .inr (3, [.ref (q 0), .ref (h9 0), .ref (t9 0)]))] ++ wS cI q ((maA st k).1) ++ wR cR h9 (fr7 u1_8 u0_8) (olN ol n7) (n7N n7) ++ wT cC t9 tx ln po ki rp tg nu ++ wP cI u1_8 (va_up sv (slN ol n7) st) u0_8) s s.heap H locs → ∀ ls : Array Slot, lv_has ls 3 [(2, .int (nI (k + 1))), (1, .int (nI ((maA st k).2))), (0, .ref x9)] → W p l e rmX3_mergeAll s m args below meth c H locs (0 + 7) (0 + 5790) Q (F0 m 15 ls []) := by
    intro fu_2
    induction fu_2 with
    | zero => intro k _ h9; exact absurd h9 (Nat.not_lt_zero _)
    | succ fu_2 ih_15 =>
      intro k hk_15 hf_15 H locs hw ls hl
      refine lv_iload_n hx hb dX3_mergeAll_15 rfl (lv_at hl 0 rfl) ?_
      refine lv_iconst (v := nI 4) hx hb dX3_mergeAll_16 kc_iconst_4 ?_
      refine r_icmp_geN (tgt := 43) hx hb (by omega) (by omega) dX3_mergeAll_17 (by decide) (fun c_17 => ?_) (fun c_17 => ?_)
      ·
        have hk3 : k = 3 := by omega
        subst hk3
        refine lv_iconst (v := nI 2) hx hb dX3_mergeAll_43 kc_iconst_2 ?_
        refine lv_istore_n (lv' := [(2, .int (nI 2)), (1, .int (nI ((maA st 3).2))), (0, .ref x9)]) hx hb dX3_mergeAll_44 rfl hl (by decide) rfl (fun ls hl => ?_)
        refine lv_iload_n hx hb dX3_mergeAll_45 rfl (lv_at hl 0 rfl) ?_
        refine lv_if_lt (tgt := 70) hx hb dX3_mergeAll_46 (by decide) (fun h => absurd h (by decide)) (fun _ => ?_)
        refine lv_aload_n hx hb dX3_mergeAll_49 rfl (lv_at hl 2 rfl) ?_
        refine r_get hx hb hts hown hw.q 0 0 hin3 rfl rfl (by decide) k10 rfl dX3_mergeAll_50 ?_
        refine lv_iconst (v := nI 3) hx hb dX3_mergeAll_53 kc_iconst_3 ?_
        refine lv_iload_n hx hb dX3_mergeAll_54 rfl (lv_at hl 0 rfl) ?_
        refine cp_Vi (As := [.int (nI 3), .int (nI 2)]) (rest := []) (wc := wS cI q ((maA st 3).1)) (wr := [(x9, .inr (3, [.ref (q 0), .ref (h9 0), .ref (t9 0)]))] ++ wR cR h9 (fr7 u1_8 u0_8) (olN ol n7) (n7N n7) ++ wT cC t9 tx ln po ki rp tg nu) S (c_X1_mergeReplica l D (sz := H.size) (cI := cI) (q := q) (st := ((maA st 3).1)) (f := 3) (t := 2) (hf4 := by omega) (ht4 := by omega)) (cwV 2 hts gX3_mergeAll_X1_mergeReplica rfl rfl rfl (by decide +kernel) ⟨Nat.le_of_ble_eq_true rfl, Nat.le_of_ble_eq_true rfl⟩) hw hA [1, 2, 3, 4, 5, 6, 7] [0, 8, 9, 10, 11] [0] rfl rfl (k0 := 12) rfl (by decide) rfl 0 rfl rfl rfl hl.1 (Nat.le_of_ble_eq_true rfl) ⟨Nat.le_of_ble_eq_true rfl, Nat.le_of_ble_eq_true rfl⟩ rfl dX3_mergeAll_55 (fun r_55 u_55 H locs e_55 hw => ?_)
        have hw : Wd D A [(cI, .int), (cR, .object RX1), (cC, .char)] (wS cI q (mgS ((maA st 3).1) 3 2) ++ [(x9, .inr (3, [.ref (q 0), .ref (h9 0), .ref (t9 0)]))] ++ wR cR h9 (fr7 u1_8 u0_8) (olN ol n7) (n7N n7) ++ wT cC t9 tx ln po ki rp tg nu ++ wP cI u1_8 (va_up sv (slN ol n7) st) u0_8) s s.heap H locs := hw
        have e_55 : r_55 = nI (cntP (fun o => addP ((maA st 3).1) 3 2 o) 480 + cntP (fun o => remP ((maA st 3).1) 3 2 o) 480) := e_55
        subst e_55
        have hw : Wd D A [(cI, .int), (cR, .object RX1), (cC, .char)] ([(x9, .inr (3, [.ref (q 0), .ref (h9 0), .ref (t9 0)]))] ++ wS cI q (mgS ((maA st 3).1) 3 2) ++ wR cR h9 (fr7 u1_8 u0_8) (olN ol n7) (n7N n7) ++ wT cC t9 tx ln po ki rp tg nu ++ wP cI u1_8 (va_up sv (slN ol n7) st) u0_8) s s.heap H locs := hw.ord [7, 0, 1, 2, 3, 4, 5, 6, 8, 9, 10, 11] (k0 := 12) rfl rfl (by decide)
        have J64_3 : ∀ (H : Heap) (locs : List Loc), Wd D A [(cI, .int), (cR, .object RX1), (cC, .char)] ([(x9, .inr (3, [.ref (q 0), .ref (h9 0), .ref (t9 0)]))] ++ wS cI q ((mgT (maA st 3) 3 2).1) ++ wR cR h9 (fr7 u1_8 u0_8) (olN ol n7) (n7N n7) ++ wT cC t9 tx ln po ki rp tg nu ++ wP cI u1_8 (va_up sv (slN ol n7) st) u0_8) s s.heap H locs → ∀ ls : Array Slot, lv_has ls 3 [(2, .int (nI 2)), (1, .int (nI ((mgT (maA st 3) 3 2).2))), (0, .ref x9)] → W p l e rmX3_mergeAll s m args below meth c H locs (0 + 7) (0 + 5790) Q (F0 m 64 ls []) := by
          intro H locs hw ls hl
          refine lv_iinc (v := nI 1) (lv' := [(2, .int (nI 1)), (1, .int (nI ((mgT (maA st 3) 3 2).2))), (0, .ref x9)]) hx hb dX3_mergeAll_64 hl (k := 0) rfl (by decide +kernel) (by decide) rfl (fun ls hl => ?_)
          refine lv_goto (tgt := 45) hx hb dX3_mergeAll_67 (by decide) ?_
          refine lv_iload_n hx hb dX3_mergeAll_45 rfl (lv_at hl 0 rfl) ?_
          refine lv_if_lt (tgt := 70) hx hb dX3_mergeAll_46 (by decide) (fun h => absurd h (by decide)) (fun _ => ?_)
          refine lv_aload_n hx hb dX3_mergeAll_49 rfl (lv_at hl 2 rfl) ?_
          refine r_get hx hb hts hown hw.q 0 0 hin3 rfl rfl (by decide) k10 rfl dX3_mergeAll_50 ?_
          refine lv_iconst (v := nI 3) hx hb dX3_mergeAll_53 kc_iconst_3 ?_
          refine lv_iload_n hx hb dX3_mergeAll_54 rfl (lv_at hl 0 rfl) ?_
          refine cp_Vi (As := [.int (nI 3), .int (nI 1)]) (rest := []) (wc := wS cI q ((mgT (maA st 3) 3 2).1)) (wr := [(x9, .inr (3, [.ref (q 0), .ref (h9 0), .ref (t9 0)]))] ++ wR cR h9 (fr7 u1_8 u0_8) (olN ol n7) (n7N n7) ++ wT cC t9 tx ln po ki rp tg nu) S (c_X1_mergeReplica l D (sz := H.size) (cI := cI) (q := q) (st := ((mgT (maA st 3) 3 2).1)) (f := 3) (t := 1) (hf4 := by omega) (ht4 := by omega)) (cwV 2 hts gX3_mergeAll_X1_mergeReplica rfl rfl rfl (by decide +kernel) ⟨Nat.le_of_ble_eq_true rfl, Nat.le_of_ble_eq_true rfl⟩) hw hA [1, 2, 3, 4, 5, 6, 7] [0, 8, 9, 10, 11] [0] rfl rfl (k0 := 12) rfl (by decide) rfl 0 rfl rfl rfl hl.1 (Nat.le_of_ble_eq_true rfl) ⟨Nat.le_of_ble_eq_true rfl, Nat.le_of_ble_eq_true rfl⟩ rfl dX3_mergeAll_55 (fun r_55 u_55 H locs e_55 hw => ?_)
          have hw : Wd D A [(cI, .int), (cR, .object RX1), (cC, .char)] (wS cI q (mgS ((mgT (maA st 3) 3 2).1) 3 1) ++ [(x9, .inr (3, [.ref (q 0), .ref (h9 0), .ref (t9 0)]))] ++ wR cR h9 (fr7 u1_8 u0_8) (olN ol n7) (n7N n7) ++ wT cC t9 tx ln po ki rp tg nu ++ wP cI u1_8 (va_up sv (slN ol n7) st) u0_8) s s.heap H locs := hw
          have e_55 : r_55 = nI (cntP (fun o => addP ((mgT (maA st 3) 3 2).1) 3 1 o) 480 + cntP (fun o => remP ((mgT (maA st 3) 3 2).1) 3 1 o) 480) := e_55
          subst e_55
          have hw : Wd D A [(cI, .int), (cR, .object RX1), (cC, .char)] ([(x9, .inr (3, [.ref (q 0), .ref (h9 0), .ref (t9 0)]))] ++ wS cI q (mgS ((mgT (maA st 3) 3 2).1) 3 1) ++ wR cR h9 (fr7 u1_8 u0_8) (olN ol n7) (n7N n7) ++ wT cC t9 tx ln po ki rp tg nu ++ wP cI u1_8 (va_up sv (slN ol n7) st) u0_8) s s.heap H locs := hw.ord [7, 0, 1, 2, 3, 4, 5, 6, 8, 9, 10, 11] (k0 := 12) rfl rfl (by decide)
          have J64_4 : ∀ (H : Heap) (locs : List Loc), Wd D A [(cI, .int), (cR, .object RX1), (cC, .char)] ([(x9, .inr (3, [.ref (q 0), .ref (h9 0), .ref (t9 0)]))] ++ wS cI q ((mgT (mgT (maA st 3) 3 2) 3 1).1) ++ wR cR h9 (fr7 u1_8 u0_8) (olN ol n7) (n7N n7) ++ wT cC t9 tx ln po ki rp tg nu ++ wP cI u1_8 (va_up sv (slN ol n7) st) u0_8) s s.heap H locs → ∀ ls : Array Slot, lv_has ls 3 [(2, .int (nI 1)), (1, .int (nI ((mgT (mgT (maA st 3) 3 2) 3 1).2))), (0, .ref x9)] → W p l e rmX3_mergeAll s m args below meth c H locs (0 + 7) (0 + 5790) Q (F0 m 64 ls []) := by
            intro H locs hw ls hl
            refine lv_iinc (v := nI 0) (lv' := [(2, .int (nI 0)), (1, .int (nI ((mgT (mgT (maA st 3) 3 2) 3 1).2))), (0, .ref x9)]) hx hb dX3_mergeAll_64 hl (k := 0) rfl (by decide +kernel) (by decide) rfl (fun ls hl => ?_)
            refine lv_goto (tgt := 45) hx hb dX3_mergeAll_67 (by decide) ?_
            refine lv_iload_n hx hb dX3_mergeAll_45 rfl (lv_at hl 0 rfl) ?_
            refine lv_if_lt (tgt := 70) hx hb dX3_mergeAll_46 (by decide) (fun h => absurd h (by decide)) (fun _ => ?_)
            refine lv_aload_n hx hb dX3_mergeAll_49 rfl (lv_at hl 2 rfl) ?_
            refine r_get hx hb hts hown hw.q 0 0 hin3 rfl rfl (by decide) k10 rfl dX3_mergeAll_50 ?_
            refine lv_iconst (v := nI 3) hx hb dX3_mergeAll_53 kc_iconst_3 ?_
            refine lv_iload_n hx hb dX3_mergeAll_54 rfl (lv_at hl 0 rfl) ?_
            refine cp_Vi (As := [.int (nI 3), .int (nI 0)]) (rest := []) (wc := wS cI q ((mgT (mgT (maA st 3) 3 2) 3 1).1)) (wr := [(x9, .inr (3, [.ref (q 0), .ref (h9 0), .ref (t9 0)]))] ++ wR cR h9 (fr7 u1_8 u0_8) (olN ol n7) (n7N n7) ++ wT cC t9 tx ln po ki rp tg nu) S (c_X1_mergeReplica l D (sz := H.size) (cI := cI) (q := q) (st := ((mgT (mgT (maA st 3) 3 2) 3 1).1)) (f := 3) (t := 0) (hf4 := by omega) (ht4 := by omega)) (cwV 2 hts gX3_mergeAll_X1_mergeReplica rfl rfl rfl (by decide +kernel) ⟨Nat.le_of_ble_eq_true rfl, Nat.le_of_ble_eq_true rfl⟩) hw hA [1, 2, 3, 4, 5, 6, 7] [0, 8, 9, 10, 11] [0] rfl rfl (k0 := 12) rfl (by decide) rfl 0 rfl rfl rfl hl.1 (Nat.le_of_ble_eq_true rfl) ⟨Nat.le_of_ble_eq_true rfl, Nat.le_of_ble_eq_true rfl⟩ rfl dX3_mergeAll_55 (fun r_55 u_55 H locs e_55 hw => ?_)
            have hw : Wd D A [(cI, .int), (cR, .object RX1), (cC, .char)] (wS cI q (mgS ((mgT (mgT (maA st 3) 3 2) 3 1).1) 3 0) ++ [(x9, .inr (3, [.ref (q 0), .ref (h9 0), .ref (t9 0)]))] ++ wR cR h9 (fr7 u1_8 u0_8) (olN ol n7) (n7N n7) ++ wT cC t9 tx ln po ki rp tg nu ++ wP cI u1_8 (va_up sv (slN ol n7) st) u0_8) s s.heap H locs := hw
            have e_55 : r_55 = nI (cntP (fun o => addP ((mgT (mgT (maA st 3) 3 2) 3 1).1) 3 0 o) 480 + cntP (fun o => remP ((mgT (mgT (maA st 3) 3 2) 3 1).1) 3 0 o) 480) := e_55
            subst e_55
            have hw : Wd D A [(cI, .int), (cR, .object RX1), (cC, .char)] ([(x9, .inr (3, [.ref (q 0), .ref (h9 0), .ref (t9 0)]))] ++ wS cI q (mgS ((mgT (mgT (maA st 3) 3 2) 3 1).1) 3 0) ++ wR cR h9 (fr7 u1_8 u0_8) (olN ol n7) (n7N n7) ++ wT cC t9 tx ln po ki rp tg nu ++ wP cI u1_8 (va_up sv (slN ol n7) st) u0_8) s s.heap H locs := hw.ord [7, 0, 1, 2, 3, 4, 5, 6, 8, 9, 10, 11] (k0 := 12) rfl rfl (by decide)
            have J64_5 : ∀ (H : Heap) (locs : List Loc), Wd D A [(cI, .int), (cR, .object RX1), (cC, .char)] ([(x9, .inr (3, [.ref (q 0), .ref (h9 0), .ref (t9 0)]))] ++ wS cI q ((mgT (mgT (mgT (maA st 3) 3 2) 3 1) 3 0).1) ++ wR cR h9 (fr7 u1_8 u0_8) (olN ol n7) (n7N n7) ++ wT cC t9 tx ln po ki rp tg nu ++ wP cI u1_8 (va_up sv (slN ol n7) st) u0_8) s s.heap H locs → ∀ ls : Array Slot, lv_has ls 3 [(2, .int (nI 0)), (1, .int (nI ((mgT (mgT (mgT (maA st 3) 3 2) 3 1) 3 0).2))), (0, .ref x9)] → W p l e rmX3_mergeAll s m args below meth c H locs (0 + 7) (0 + 5790) Q (F0 m 64 ls []) := by
              intro H locs hw ls hl
              refine lv_iinc (v := (-1)) (lv' := [(2, .int (-1)), (1, .int (nI ((mgT (mgT (mgT (maA st 3) 3 2) 3 1) 3 0).2))), (0, .ref x9)]) hx hb dX3_mergeAll_64 hl (k := 0) rfl (by decide +kernel) (by decide) rfl (fun ls hl => ?_)
              refine lv_goto (tgt := 45) hx hb dX3_mergeAll_67 (by decide) ?_
              refine lv_iload_n hx hb dX3_mergeAll_45 rfl (lv_at hl 0 rfl) ?_
              refine lv_if_lt (tgt := 70) hx hb dX3_mergeAll_46 (by decide) (fun _ => ?_) (fun h => absurd (by decide) h)
              refine lv_iload_n hx hb dX3_mergeAll_70 rfl (lv_at hl 1 rfl) ?_
              have hw : Wd D A [(cI, .int), (cR, .object RX1), (cC, .char)] ([(x9, .inr (3, [.ref (q 0), .ref (h9 0), .ref (t9 0)]))] ++ wS cI q ((maAll st).1) ++ wR cR h9 (fr7 u1_8 u0_8) (olN ol n7) (n7N n7) ++ wT cC t9 tx ln po ki rp tg nu ++ wP cI u1_8 (va_up sv (slN ol n7) st) u0_8) s s.heap H locs := by rw [maAll]; exact hw
              exact hE (u0_8, u1_8) dX3_mergeAll_71 rfl (Nat.le_of_ble_eq_true rfl) (Nat.le_of_ble_eq_true rfl) ⟨⟨hw.1.1, fun k q hk => by cases hk⟩, hw.2.1, hw.2.2.1, hw.2.2.2⟩ ⟨congrArg nI (show (mgT (mgT (mgT (maA st 3) 3 2) 3 1) 3 0).2 = (maAll st).2 from by rw [maAll]), e_8⟩
            refine r_if_leN (tgt := 64) hx hb (cnt2 _ _) dX3_mergeAll_58 (by decide) (fun c_58 => ?_) (fun c_58 => ?_)
            ·
              have hl : lv_has ls 3 [(2, .int (nI 0)), (1, .int (nI ((mgT (mgT (maA st 3) 3 2) 3 1).2))), (0, .ref x9)] := lv_sub hl [0, 1, 2] rfl
              have hl : lv_has ls 3 [(2, .int (nI 0)), (1, .int (nI ((mgT (mgT (mgT (maA st 3) 3 2) 3 1) 3 0).2))), (0, .ref x9)] := lv_rep hl 1 rfl (congrArg (fun z => Value.int (nI z)) (show (mgT (mgT (maA st 3) 3 2) 3 1).2 = (mgT (mgT (mgT (maA st 3) 3 2) 3 1) 3 0).2 from (mgT_p (x := mgT (mgT (maA st 3) 3 2) 3 1) c_58).symm))
              have hw : Wd D A [(cI, .int), (cR, .object RX1), (cC, .char)] ([(x9, .inr (3, [.ref (q 0), .ref (h9 0), .ref (t9 0)]))] ++ wS cI q ((mgT (mgT (mgT (maA st 3) 3 2) 3 1) 3 0).1) ++ wR cR h9 (fr7 u1_8 u0_8) (olN ol n7) (n7N n7) ++ wT cC t9 tx ln po ki rp tg nu ++ wP cI u1_8 (va_up sv (slN ol n7) st) u0_8) s s.heap H locs := by rw [mgT_1 (mgT (mgT (maA st 3) 3 2) 3 1) 3 0]; exact hw
              exact J64_5 _ _ hw ls hl
            ·
              refine lv_iinc (v := nI (((mgT (mgT (maA st 3) 3 2) 3 1).2) + 1)) (lv' := [(1, .int (nI (((mgT (mgT (maA st 3) 3 2) 3 1).2) + 1))), (2, .int (nI 0)), (0, .ref x9)]) hx hb dX3_mergeAll_61 hl (k := 1) rfl (nI_add ((mgT (mgT (maA st 3) 3 2) 3 1).2) 1) (by decide) rfl (fun ls hl => ?_)
              have hl : lv_has ls 3 [(2, .int (nI 0)), (1, .int (nI (((mgT (mgT (maA st 3) 3 2) 3 1).2) + 1))), (0, .ref x9)] := lv_sub hl [1, 0, 2] rfl
              have hl : lv_has ls 3 [(2, .int (nI 0)), (1, .int (nI ((mgT (mgT (mgT (maA st 3) 3 2) 3 1) 3 0).2))), (0, .ref x9)] := lv_rep hl 1 rfl (congrArg (fun z => Value.int (nI z)) (show ((mgT (mgT (maA st 3) 3 2) 3 1).2) + 1 = (mgT (mgT (mgT (maA st 3) 3 2) 3 1) 3 0).2 from (mgT_n (x := mgT (mgT (maA st 3) 3 2) 3 1) c_58).symm))
              have hw : Wd D A [(cI, .int), (cR, .object RX1), (cC, .char)] ([(x9, .inr (3, [.ref (q 0), .ref (h9 0), .ref (t9 0)]))] ++ wS cI q ((mgT (mgT (mgT (maA st 3) 3 2) 3 1) 3 0).1) ++ wR cR h9 (fr7 u1_8 u0_8) (olN ol n7) (n7N n7) ++ wT cC t9 tx ln po ki rp tg nu ++ wP cI u1_8 (va_up sv (slN ol n7) st) u0_8) s s.heap H locs := by rw [mgT_1 (mgT (mgT (maA st 3) 3 2) 3 1) 3 0]; exact hw
              exact J64_5 _ _ hw ls hl
          refine r_if_leN (tgt := 64) hx hb (cnt2 _ _) dX3_mergeAll_58 (by decide) (fun c_58 => ?_) (fun c_58 => ?_)
          ·
            have hl : lv_has ls 3 [(2, .int (nI 1)), (1, .int (nI ((mgT (maA st 3) 3 2).2))), (0, .ref x9)] := lv_sub hl [0, 1, 2] rfl
            have hl : lv_has ls 3 [(2, .int (nI 1)), (1, .int (nI ((mgT (mgT (maA st 3) 3 2) 3 1).2))), (0, .ref x9)] := lv_rep hl 1 rfl (congrArg (fun z => Value.int (nI z)) (show (mgT (maA st 3) 3 2).2 = (mgT (mgT (maA st 3) 3 2) 3 1).2 from (mgT_p (x := mgT (maA st 3) 3 2) c_58).symm))
            have hw : Wd D A [(cI, .int), (cR, .object RX1), (cC, .char)] ([(x9, .inr (3, [.ref (q 0), .ref (h9 0), .ref (t9 0)]))] ++ wS cI q ((mgT (mgT (maA st 3) 3 2) 3 1).1) ++ wR cR h9 (fr7 u1_8 u0_8) (olN ol n7) (n7N n7) ++ wT cC t9 tx ln po ki rp tg nu ++ wP cI u1_8 (va_up sv (slN ol n7) st) u0_8) s s.heap H locs := by rw [mgT_1 (mgT (maA st 3) 3 2) 3 1]; exact hw
            exact J64_4 _ _ hw ls hl
          ·
            refine lv_iinc (v := nI (((mgT (maA st 3) 3 2).2) + 1)) (lv' := [(1, .int (nI (((mgT (maA st 3) 3 2).2) + 1))), (2, .int (nI 1)), (0, .ref x9)]) hx hb dX3_mergeAll_61 hl (k := 1) rfl (nI_add ((mgT (maA st 3) 3 2).2) 1) (by decide) rfl (fun ls hl => ?_)
            have hl : lv_has ls 3 [(2, .int (nI 1)), (1, .int (nI (((mgT (maA st 3) 3 2).2) + 1))), (0, .ref x9)] := lv_sub hl [1, 0, 2] rfl
            have hl : lv_has ls 3 [(2, .int (nI 1)), (1, .int (nI ((mgT (mgT (maA st 3) 3 2) 3 1).2))), (0, .ref x9)] := lv_rep hl 1 rfl (congrArg (fun z => Value.int (nI z)) (show ((mgT (maA st 3) 3 2).2) + 1 = (mgT (mgT (maA st 3) 3 2) 3 1).2 from (mgT_n (x := mgT (maA st 3) 3 2) c_58).symm))
            have hw : Wd D A [(cI, .int), (cR, .object RX1), (cC, .char)] ([(x9, .inr (3, [.ref (q 0), .ref (h9 0), .ref (t9 0)]))] ++ wS cI q ((mgT (mgT (maA st 3) 3 2) 3 1).1) ++ wR cR h9 (fr7 u1_8 u0_8) (olN ol n7) (n7N n7) ++ wT cC t9 tx ln po ki rp tg nu ++ wP cI u1_8 (va_up sv (slN ol n7) st) u0_8) s s.heap H locs := by rw [mgT_1 (mgT (maA st 3) 3 2) 3 1]; exact hw
            exact J64_4 _ _ hw ls hl
        refine r_if_leN (tgt := 64) hx hb (cnt2 _ _) dX3_mergeAll_58 (by decide) (fun c_58 => ?_) (fun c_58 => ?_)
        ·
          have hl : lv_has ls 3 [(2, .int (nI 2)), (1, .int (nI ((maA st 3).2))), (0, .ref x9)] := lv_sub hl [0, 1, 2] rfl
          have hl : lv_has ls 3 [(2, .int (nI 2)), (1, .int (nI ((mgT (maA st 3) 3 2).2))), (0, .ref x9)] := lv_rep hl 1 rfl (congrArg (fun z => Value.int (nI z)) (show (maA st 3).2 = (mgT (maA st 3) 3 2).2 from (mgT_p (x := maA st 3) c_58).symm))
          have hw : Wd D A [(cI, .int), (cR, .object RX1), (cC, .char)] ([(x9, .inr (3, [.ref (q 0), .ref (h9 0), .ref (t9 0)]))] ++ wS cI q ((mgT (maA st 3) 3 2).1) ++ wR cR h9 (fr7 u1_8 u0_8) (olN ol n7) (n7N n7) ++ wT cC t9 tx ln po ki rp tg nu ++ wP cI u1_8 (va_up sv (slN ol n7) st) u0_8) s s.heap H locs := by rw [mgT_1 (maA st 3) 3 2]; exact hw
          exact J64_3 _ _ hw ls hl
        ·
          refine lv_iinc (v := nI (((maA st 3).2) + 1)) (lv' := [(1, .int (nI (((maA st 3).2) + 1))), (2, .int (nI 2)), (0, .ref x9)]) hx hb dX3_mergeAll_61 hl (k := 1) rfl (nI_add ((maA st 3).2) 1) (by decide) rfl (fun ls hl => ?_)
          have hl : lv_has ls 3 [(2, .int (nI 2)), (1, .int (nI (((maA st 3).2) + 1))), (0, .ref x9)] := lv_sub hl [1, 0, 2] rfl
          have hl : lv_has ls 3 [(2, .int (nI 2)), (1, .int (nI ((mgT (maA st 3) 3 2).2))), (0, .ref x9)] := lv_rep hl 1 rfl (congrArg (fun z => Value.int (nI z)) (show ((maA st 3).2) + 1 = (mgT (maA st 3) 3 2).2 from (mgT_n (x := maA st 3) c_58).symm))
          have hw : Wd D A [(cI, .int), (cR, .object RX1), (cC, .char)] ([(x9, .inr (3, [.ref (q 0), .ref (h9 0), .ref (t9 0)]))] ++ wS cI q ((mgT (maA st 3) 3 2).1) ++ wR cR h9 (fr7 u1_8 u0_8) (olN ol n7) (n7N n7) ++ wT cC t9 tx ln po ki rp tg nu ++ wP cI u1_8 (va_up sv (slN ol n7) st) u0_8) s s.heap H locs := by rw [mgT_1 (maA st 3) 3 2]; exact hw
          exact J64_3 _ _ hw ls hl
      ·
        refine lv_aload_n hx hb dX3_mergeAll_20 rfl (lv_at hl 2 rfl) ?_
        refine r_get hx hb hts hown hw.q 0 0 hin3 rfl rfl (by decide) k10 rfl dX3_mergeAll_21 ?_
        refine lv_iload_n hx hb dX3_mergeAll_24 rfl (lv_at hl 0 rfl) ?_
        refine lv_iconst (v := nI 1) hx hb dX3_mergeAll_25 kc_iconst_1 ?_
        refine r_subN hx hb (by omega) dX3_mergeAll_26 ?_
        refine r_top hx (show nI ((k + 1) - 1) = nI k from rfl) ?_
        refine lv_iload_n hx hb dX3_mergeAll_27 rfl (lv_at hl 0 rfl) ?_
        refine cp_Vi (As := [.int (nI k), .int (nI (k + 1))]) (rest := []) (wc := wS cI q ((maA st k).1)) (wr := [(x9, .inr (3, [.ref (q 0), .ref (h9 0), .ref (t9 0)]))] ++ wR cR h9 (fr7 u1_8 u0_8) (olN ol n7) (n7N n7) ++ wT cC t9 tx ln po ki rp tg nu) S (c_X1_mergeReplica l D (sz := H.size) (cI := cI) (q := q) (st := ((maA st k).1)) (f := k) (t := k + 1) (hf4 := by omega) (ht4 := by omega)) (cwV 2 hts gX3_mergeAll_X1_mergeReplica rfl rfl rfl (by decide +kernel) ⟨Nat.le_of_ble_eq_true rfl, Nat.le_of_ble_eq_true rfl⟩) hw hA [1, 2, 3, 4, 5, 6, 7] [0, 8, 9, 10, 11] [0] rfl rfl (k0 := 12) rfl (by decide) rfl 0 rfl rfl rfl hl.1 (Nat.le_of_ble_eq_true rfl) ⟨Nat.le_of_ble_eq_true rfl, Nat.le_of_ble_eq_true rfl⟩ rfl dX3_mergeAll_28 (fun r_28 u_28 H locs e_28 hw => ?_)
        have hw : Wd D A [(cI, .int), (cR, .object RX1), (cC, .char)] (wS cI q (mgS ((maA st k).1) k (k + 1)) ++ [(x9, .inr (3, [.ref (q 0), .ref (h9 0), .ref (t9 0)]))] ++ wR cR h9 (fr7 u1_8 u0_8) (olN ol n7) (n7N n7) ++ wT cC t9 tx ln po ki rp tg nu ++ wP cI u1_8 (va_up sv (slN ol n7) st) u0_8) s s.heap H locs := hw
        have e_28 : r_28 = nI (cntP (fun o => addP ((maA st k).1) k (k + 1) o) 480 + cntP (fun o => remP ((maA st k).1) k (k + 1) o) 480) := e_28
        subst e_28
        have hw : Wd D A [(cI, .int), (cR, .object RX1), (cC, .char)] ([(x9, .inr (3, [.ref (q 0), .ref (h9 0), .ref (t9 0)]))] ++ wS cI q (mgS ((maA st k).1) k (k + 1)) ++ wR cR h9 (fr7 u1_8 u0_8) (olN ol n7) (n7N n7) ++ wT cC t9 tx ln po ki rp tg nu ++ wP cI u1_8 (va_up sv (slN ol n7) st) u0_8) s s.heap H locs := hw.ord [7, 0, 1, 2, 3, 4, 5, 6, 8, 9, 10, 11] (k0 := 12) rfl rfl (by decide)
        have J37_6 : ∀ ls : Array Slot, lv_has ls 3 [(2, .int (nI (k + 1))), (1, .int (nI ((maA st (k + 1)).2))), (0, .ref x9)] → W p l e rmX3_mergeAll s m args below meth c H locs (0 + 7) (0 + 5790) Q (F0 m 37 ls []) := by
          intro ls hl
          refine lv_iinc (v := nI ((k + 1) + 1)) (lv' := [(2, .int (nI ((k + 1) + 1))), (1, .int (nI ((maA st (k + 1)).2))), (0, .ref x9)]) hx hb dX3_mergeAll_37 hl (k := 0) rfl (nI_add (k + 1) 1) (by decide) rfl (fun ls hl => ?_)
          refine lv_goto (tgt := 15) hx hb dX3_mergeAll_40 (by decide) ?_
          have hl : lv_has ls 3 [(2, .int (nI ((k + 1) + 1))), (1, .int (nI ((maA st (k + 1)).2))), (0, .ref x9)] := lv_sub hl [0, 1, 2] rfl
          have hw : Wd D A [(cI, .int), (cR, .object RX1), (cC, .char)] ([(x9, .inr (3, [.ref (q 0), .ref (h9 0), .ref (t9 0)]))] ++ wS cI q ((maA st (k + 1)).1) ++ wR cR h9 (fr7 u1_8 u0_8) (olN ol n7) (n7N n7) ++ wT cC t9 tx ln po ki rp tg nu ++ wP cI u1_8 (va_up sv (slN ol n7) st) u0_8) s s.heap H locs := by rw [maA_1]; exact hw
          exact ih_15 (k + 1) (by omega) (by omega) _ _ hw ls hl
        refine r_if_leN (tgt := 37) hx hb (cnt2 _ _) dX3_mergeAll_31 (by decide) (fun c_31 => ?_) (fun c_31 => ?_)
        ·
          have hl : lv_has ls 3 [(2, .int (nI (k + 1))), (1, .int (nI ((maA st k).2))), (0, .ref x9)] := lv_sub hl [0, 1, 2] rfl
          have hl : lv_has ls 3 [(2, .int (nI (k + 1))), (1, .int (nI ((maA st (k + 1)).2))), (0, .ref x9)] := lv_rep hl 1 rfl (congrArg (fun z => Value.int (nI z)) (show (maA st k).2 = (maA st (k + 1)).2 from maA_p c_31))
          exact J37_6 ls hl
        ·
          refine lv_iinc (v := nI (((maA st k).2) + 1)) (lv' := [(1, .int (nI (((maA st k).2) + 1))), (2, .int (nI (k + 1))), (0, .ref x9)]) hx hb dX3_mergeAll_34 hl (k := 1) rfl (nI_add ((maA st k).2) 1) (by decide) rfl (fun ls hl => ?_)
          have hl : lv_has ls 3 [(2, .int (nI (k + 1))), (1, .int (nI (((maA st k).2) + 1))), (0, .ref x9)] := lv_sub hl [1, 0, 2] rfl
          have hl : lv_has ls 3 [(2, .int (nI (k + 1))), (1, .int (nI ((maA st (k + 1)).2))), (0, .ref x9)] := lv_rep hl 1 rfl (congrArg (fun z => Value.int (nI z)) (show ((maA st k).2) + 1 = (maA st (k + 1)).2 from maA_n c_31))
          exact J37_6 ls hl
  have hl : lv_has ls 3 [(2, .int (nI 1)), (1, .int (nI 0)), (0, .ref x9)] := lv_sub hl [0, 1, 2] rfl
  have hl : lv_has ls 3 [(2, .int (nI (0 + 1))), (1, .int (nI 0)), (0, .ref x9)] := lv_rep hl 0 rfl (congrArg (fun z => Value.int (nI z)) (show 1 = 0 + 1 from rfl))
  have hl : lv_has ls 3 [(2, .int (nI (0 + 1))), (1, .int (nI ((maA st 0).2))), (0, .ref x9)] := lv_rep hl 1 rfl (congrArg (fun z => Value.int (nI z)) (show 0 = (maA st 0).2 from by rw [maA_0]))
  have hw : Wd D A [(cI, .int), (cR, .object RX1), (cC, .char)] ([(x9, .inr (3, [.ref (q 0), .ref (h9 0), .ref (t9 0)]))] ++ wS cI q ((maA st 0).1) ++ wR cR h9 (fr7 u1_8 u0_8) (olN ol n7) (n7N n7) ++ wT cC t9 tx ln po ki rp tg nu ++ wP cI u1_8 (va_up sv (slN ol n7) st) u0_8) s s.heap H locs := by rw [maA_0]; exact hw
  exact L15_1 (3 + 1) (0) (by omega) (by omega) _ _ hw ls hl
