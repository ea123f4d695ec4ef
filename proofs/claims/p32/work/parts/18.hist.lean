/-! the history: its object and its ring of states -/
abbrev wR (cR : ClassId) (h9 : Nat → Nat) (f7 : Nat → Option Nat) (ol n7 : Nat) : va_W := [(h9 0, .inr (0, [.ref (h9 1), .int (nI ol), .int (nI n7)])), (h9 1, .inl (cR, 6, .inr (.inr (.inr (.inr f7)))))]
abbrev rmX0_init : Room := { frames := 1, cells := 1, slots := 6, locals := 12 }
set_option maxHeartbeats 4000000 in
set_option maxRecDepth 100000 in
theorem c_X0_init (l : Launch) (D : va_G) (sz : Nat) (a9 : Nat) : MXv l yX0_init wsX0_init rmX0_init [.ref a9] D [] ([(a9, .inr (0, [.null, .int (nI 0), .int (nI 0)]))]) sz (fun (u9 : ClassId × Nat) => True) (fun u9 => [(u9.1, .object RX1)]) (fun u9 => wR u9.1 (ad7 a9 u9.2 0 0 0 0 0) (fun _ => none) 0 0) 1 6 := by
  refine met_xv (own := RX0) (cc := cX0_init) (maxL := 1) (by decide) rfl rfl (Nat.le_of_ble_eq_true rfl) ?_
  intro p e s m args below meth c Q A hsz S hmn hz hw hA hE ls hl
  obtain ⟨hx, hb, hml, hown, hts⟩ := id S
  have ob0 := hts (.methodLink RX0 3 objectInit) (by decide +kernel)
  have ob1 := hts (.instanceMethod objectInit) (by decide +kernel)
  have ob2 := hts (.code objectInit ⟨#[0xb1]⟩ 1 none) (by decide +kernel)
  have cl9 := hts (.classLink RX0 9 RX1) (by decide +kernel)
  have k11 := hts (.fieldLink RX0 11 "CausalTable$History" "ring" "[LCausalTable$State;") (by decide +kernel)
  have hin0 := (show ∀ w ∈ wsX00, w ∈ wsX0_init by decide +kernel)
  have k17 := hts (.fieldLink RX0 17 "CausalTable$History" "oldest" "I") (by decide +kernel)
  have k21 := hts (.fieldLink RX0 21 "CausalTable$History" "size" "I") (by decide +kernel)
  have hl : lv_has ls 1 [(0, .ref a9)] := hl
  refine lv_aload_n hx hb dX0_init_0 rfl (lv_at hl 0 rfl) ?_
  refine W.objInit hx hb hown ob0 ob1 ob2 rfl (hml.trans hl.1.symm).symm rfl dX0_init_1 (Nat.le_of_ble_eq_true rfl) (Nat.le_of_ble_eq_true rfl) ?_
  refine lv_aload_n hx hb dX0_init_4 rfl (lv_at hl 0 rfl) ?_
  refine lv_bipush (v := nI 6) hx hb dX0_init_5 kc_bipush_6 ?_
  refine r_newQ hx hb hown cl9 hz.1 hw hA (n := 6) (by decide) (Nat.le_of_ble_eq_true rfl) (Nat.le_of_ble_eq_true rfl) dX0_init_7 (fun q_7 cR H locs hw => ?_)
  have hw : Wd D A [(cR, .object RX1)] ([(a9, .inr (0, [.null, .int (nI 0), .int (nI 0)]))] ++ [(q_7, .inl (cR, 6, .inr (.inr (.inr (.inr (fun _ => none))))))]) s s.heap H locs := hw
  refine r_putF hx hb hts hown hw 0 0 (ty := tyX0 0) tyX0 tyX0_ok nmX0 hin0 rfl rfl (by decide) k11 rfl (hmn.trans rfl) rfl (by decide +kernel) rfl rfl (Nat.le_of_ble_eq_true rfl) dX0_init_10 (fun H locs hw => ?_)
  have hw : Wd D A [(cR, .object RX1)] ([(a9, .inr (0, [.ref q_7, .int (nI 0), .int (nI 0)]))] ++ [(q_7, .inl (cR, 6, .inr (.inr (.inr (.inr (fun _ => none))))))]) s s.heap H locs := hw
  refine lv_aload_n hx hb dX0_init_13 rfl (lv_at hl 0 rfl) ?_
  refine lv_iconst (v := nI 0) hx hb dX0_init_14 kc_iconst_0 ?_
  refine r_put hx hb hts hown hw 0 1 (ty := .int) tyX0 tyX0_ok nmX0 hin0 rfl rfl (by decide) k17 rfl (by decide +kernel) rfl rfl (Nat.le_of_ble_eq_true rfl) dX0_init_15 (fun H locs hw => ?_)
  have hw : Wd D A [(cR, .object RX1)] ([(a9, .inr (0, [.ref q_7, .int (nI 0), .int (nI 0)]))] ++ [(q_7, .inl (cR, 6, .inr (.inr (.inr (.inr (fun _ => none))))))]) s s.heap H locs := hw
  refine lv_aload_n hx hb dX0_init_18 rfl (lv_at hl 0 rfl) ?_
  refine lv_iconst (v := nI 0) hx hb dX0_init_19 kc_iconst_0 ?_
  refine r_put hx hb hts hown hw 0 2 (ty := .int) tyX0 tyX0_ok nmX0 hin0 rfl rfl (by decide) k21 rfl (by decide +kernel) rfl rfl (Nat.le_of_ble_eq_true rfl) dX0_init_20 (fun H locs hw => ?_)
  have hw : Wd D A [(cR, .object RX1)] ([(a9, .inr (0, [.ref q_7, .int (nI 0), .int (nI 0)]))] ++ [(q_7, .inl (cR, 6, .inr (.inr (.inr (.inr (fun _ => none))))))]) s s.heap H locs := hw
  exact hE (cR, q_7) dX0_init_23 (Nat.le_of_ble_eq_true rfl) (Nat.le_of_ble_eq_true rfl) (hw.sub [0, 1] [0] (by decide) rfl rfl) trivial
abbrev rmX0_save_f : Room := { frames := 2, cells := 7, slots := 5790, locals := 99 }
set_option maxHeartbeats 4000000 in
set_option maxRecDepth 100000 in
theorem c_X0_save_f (l : Launch) (D : va_G) (sz : Nat) (cI cR : ClassId) (h9 : Nat → Nat) (f7 : Nat → Option Nat) (ol : Nat) (q q2 : Nat → Nat) (st st2 : St) (hol : ol < 6) (hf7 : f7 ol = some (q2 0)) : MXv l yX0_save wsX0_save rmX0_save_f [.ref (h9 0), .ref (q 0)] D [(cI, .int), (cR, .object RX1)] (wR cR h9 f7 ol 6 ++ wS cI q st ++ wS cI q2 st2) sz (fun (u9 : Unit) => True) (fun u9 => []) (fun u9 => wR cR h9 f7 ((ol + 1) % 6) 6 ++ wS cI q st ++ wS cI q2 st) 7 5790 := by
  refine met_xv (own := RX0) (cc := cX0_save) (maxL := 4) (by decide) rfl rfl (Nat.le_of_ble_eq_true rfl) ?_
  intro p e s m args below meth c Q A hsz S hmn hz hw hA hE ls hl
  obtain ⟨hx, hb, hml, hown, hts⟩ := id S
  have k21 := hts (.fieldLink RX0 21 "CausalTable$History" "size" "I") (by decide +kernel)
  have hin0 := (show ∀ w ∈ wsX00, w ∈ wsX0_save by decide +kernel)
  have k17 := hts (.fieldLink RX0 17 "CausalTable$History" "oldest" "I") (by decide +kernel)
  have k11 := hts (.fieldLink RX0 11 "CausalTable$History" "ring" "[LCausalTable$State;") (by decide +kernel)
  have hl : lv_has ls 4 [(0, .ref (h9 0)), (1, .ref (q 0))] := hl
  refine lv_aload_n hx hb dX0_save_0 rfl (lv_at hl 0 rfl) ?_
  refine r_get hx hb hts hown hw.q 0 2 hin0 rfl rfl (by decide) k21 rfl dX0_save_1 ?_
  refine lv_bipush (v := nI 6) hx hb dX0_save_4 kc_bipush_6 ?_
  refine r_icmp_neN (tgt := 32) hx hb (by decide) (by decide) dX0_save_6 (by decide) (fun h => absurd h (by decide)) (fun _ => ?_)
  refine lv_aload_n hx hb dX0_save_9 rfl (lv_at hl 0 rfl) ?_
  refine lv_aload_n hx hb dX0_save_10 rfl (lv_at hl 0 rfl) ?_
  refine r_get hx hb hts hown hw.q 0 1 hin0 rfl rfl (by decide) k17 rfl dX0_save_11 ?_
  refine lv_iconst (v := nI 1) hx hb dX0_save_14 kc_iconst_1 ?_
  refine r_addN hx hb dX0_save_15 ?_
  refine lv_bipush (v := nI 6) hx hb dX0_save_16 kc_bipush_6 ?_
  refine r_remN hx hb (by omega) (by omega) (by omega) dX0_save_18 ?_
  refine r_put hx hb hts hown hw 0 1 (ty := .int) tyX0 tyX0_ok nmX0 hin0 rfl rfl (by decide) k17 rfl (by decide +kernel) rfl rfl (Nat.le_of_ble_eq_true rfl) dX0_save_19 (fun H locs hw => ?_)
  have hw : Wd D A [(cI, .int), (cR, .object RX1)] (wR cR h9 f7 ((ol + 1) % 6) 6 ++ wS cI q st ++ wS cI q2 st2) s s.heap H locs := hw
  refine lv_aload_n hx hb dX0_save_22 rfl (lv_at hl 0 rfl) ?_
  refine lv_dup hx hb dX0_save_23 rfl ?_
  refine r_get hx hb hts hown hw.q 0 2 hin0 rfl rfl (by decide) k21 rfl dX0_save_24 ?_
  refine lv_iconst (v := nI 1) hx hb dX0_save_27 kc_iconst_1 ?_
  refine r_subN hx hb (by omega) dX0_save_28 ?_
  refine r_top hx (show nI (6 - 1) = nI 5 from rfl) ?_
  refine r_put hx hb hts hown hw 0 2 (ty := .int) tyX0 tyX0_ok nmX0 hin0 rfl rfl (by decide) k21 rfl (by decide +kernel) rfl rfl (Nat.le_of_ble_eq_true rfl) dX0_save_29 (fun H locs hw => ?_)
  have hw : Wd D A [(cI, .int), (cR, .object RX1)] (wR cR h9 f7 ((ol + 1) % 6) 5 ++ wS cI q st ++ wS cI q2 st2) s s.heap H locs := hw
  refine lv_aload_n hx hb dX0_save_32 rfl (lv_at hl 0 rfl) ?_
  refine r_get hx hb hts hown hw.q 0 1 hin0 rfl rfl (by decide) k17 rfl dX0_save_33 ?_
  refine lv_aload_n hx hb dX0_save_36 rfl (lv_at hl 0 rfl) ?_
  refine r_get hx hb hts hown hw.q 0 2 hin0 rfl rfl (by decide) k21 rfl dX0_save_37 ?_
  refine r_addN hx hb dX0_save_40 ?_
  refine lv_bipush (v := nI 6) hx hb dX0_save_41 kc_bipush_6 ?_
  refine r_remN hx hb (by omega) (by omega) (by omega) dX0_save_43 ?_
  refine lv_istore_n (lv' := [(2, .int (nI ((((ol + 1) % 6) + 5) % 6))), (0, .ref (h9 0)), (1, .ref (q 0))]) hx hb dX0_save_44 rfl hl (by decide) rfl (fun ls hl => ?_)
  refine lv_aload_n hx hb dX0_save_45 rfl (lv_at hl 1 rfl) ?_
  refine r_get hx hb hts hown hw.q 0 0 hin0 rfl rfl (by decide) k11 rfl dX0_save_46 ?_
  refine lv_iload_n hx hb dX0_save_49 rfl (lv_at hl 0 rfl) ?_
  refine r_aldq (C := RX1) hx hb hw.q 1 1 rfl rfl (i := (((ol + 1) % 6) + 5) % 6) (by omega) (by decide) dX0_save_50 (v := .ref (q2 0)) (by rw [show ((ol + 1) % 6 + 5) % 6 = ol by omega, hf7]; rfl) ?_
  refine lv_astore_n (lv' := [(3, .ref (q2 0)), (2, .int (nI ((((ol + 1) % 6) + 5) % 6))), (0, .ref (h9 0)), (1, .ref (q 0))]) hx hb dX0_save_51 rfl hl (by decide) rfl (fun ls hl => ?_)
  refine lv_aload_n hx hb dX0_save_52 rfl (lv_at hl 0 rfl) ?_
  refine lv_ifnonnull (tgt := 71) hx hb dX0_save_53 (by decide) ?_
  refine lv_aload_n hx hb dX0_save_71 rfl (lv_at hl 0 rfl) ?_
  refine lv_aload_n hx hb dX0_save_72 rfl (lv_at hl 3 rfl) ?_
  refine cu_Vv (As := [.ref (q 0)]) (rest := []) (wc := wS cI q2 st2 ++ wS cI q st) (wr := wR cR h9 f7 ((ol + 1) % 6) 5) S (c_X1_copyFrom l D (sz := H.size) (cI := cI) (q := q2) (q2 := q) (st := st2) (st2 := st)) (cwV 1 hts gX0_save_X1_copyFrom rfl rfl rfl (by decide +kernel) ⟨Nat.le_of_ble_eq_true rfl, Nat.le_of_ble_eq_true rfl⟩) hw hA [9, 10, 11, 12, 13, 14, 15, 2, 3, 4, 5, 6, 7, 8] [0, 1] [0] rfl rfl rfl (by decide) (by decide) (by decide) 0 rfl rfl rfl hl.1 (Nat.le_of_ble_eq_true rfl) ⟨Nat.le_of_ble_eq_true rfl, Nat.le_of_ble_eq_true rfl⟩ rfl dX0_save_73 (fun u_73 H locs e_73 hw => ?_)
  have hw : Wd D A [(cI, .int), (cR, .object RX1)] (wR cR h9 f7 ((ol + 1) % 6) 5 ++ wS cI q2 st ++ wS cI q st) s s.heap H locs := hw
  refine lv_aload_n hx hb dX0_save_76 rfl (lv_at hl 2 rfl) ?_
  refine lv_dup hx hb dX0_save_77 rfl ?_
  refine r_get hx hb hts hown hw.q 0 2 hin0 rfl rfl (by decide) k21 rfl dX0_save_78 ?_
  refine lv_iconst (v := nI 1) hx hb dX0_save_81 kc_iconst_1 ?_
  refine r_addN hx hb dX0_save_82 ?_
  refine r_top hx (show nI (5 + 1) = nI 6 from rfl) ?_
  refine r_put hx hb hts hown hw 0 2 (ty := .int) tyX0 tyX0_ok nmX0 hin0 rfl rfl (by decide) k21 rfl (by decide +kernel) rfl rfl (Nat.le_of_ble_eq_true rfl) dX0_save_83 (fun H locs hw => ?_)
  have hw : Wd D A [(cI, .int), (cR, .object RX1)] (wR cR h9 f7 ((ol + 1) % 6) 6 ++ wS cI q2 st ++ wS cI q st) s s.heap H locs := hw
  have hw : Wd D A [(cI, .int), (cR, .object RX1)] (wR cR h9 f7 ((ol + 1) % 6) 6 ++ wS cI q st ++ wS cI q2 st) s s.heap H locs := hw.sub [0, 1, 9, 10, 11, 12, 13, 14, 15, 2, 3, 4, 5, 6, 7, 8] [0, 1] (by decide) rfl rfl
  exact hE () dX0_save_86 (Nat.le_of_ble_eq_true rfl) (Nat.le_of_ble_eq_true rfl) (hw.sub [0, 1, 2, 3, 4, 5, 6, 7, 8, 9, 10, 11, 12, 13, 14, 15] [] (by decide) rfl rfl) trivial
abbrev rmX0_save_p : Room := { frames := 2, cells := 7, slots := 5790, locals := 99 }
set_option maxHeartbeats 4000000 in
set_option maxRecDepth 100000 in
theorem c_X0_save_p (l : Launch) (D : va_G) (sz : Nat) (cI cR : ClassId) (h9 : Nat → Nat) (f7 : Nat → Option Nat) (ol n7 : Nat) (q q2 : Nat → Nat) (st st2 : St) (hol : ol < 6) (hn7 : n7 < 6) (hf7 : f7 ((ol + n7) % 6) = some (q2 0)) : MXv l yX0_save wsX0_save rmX0_save_p [.ref (h9 0), .ref (q 0)] D [(cI, .int), (cR, .object RX1)] (wR cR h9 f7 ol n7 ++ wS cI q st ++ wS cI q2 st2) sz (fun (u9 : Unit) => True) (fun u9 => []) (fun u9 => wR cR h9 f7 ol (n7 + 1) ++ wS cI q st ++ wS cI q2 st) 7 5790 := by
  refine met_xv (own := RX0) (cc := cX0_save) (maxL := 4) (by decide) rfl rfl (Nat.le_of_ble_eq_true rfl) ?_
  intro p e s m args below meth c Q A hsz S hmn hz hw hA hE ls hl
  obtain ⟨hx, hb, hml, hown, hts⟩ := id S
  have k21 := hts (.fieldLink RX0 21 "CausalTable$History" "size" "I") (by decide +kernel)
  have hin0 := (show ∀ w ∈ wsX00, w ∈ wsX0_save by decide +kernel)
  have k17 := hts (.fieldLink RX0 17 "CausalTable$History" "oldest" "I") (by decide +kernel)
  have k11 := hts (.fieldLink RX0 11 "CausalTable$History" "ring" "[LCausalTable$State;") (by decide +kernel)
  have hl : lv_has ls 4 [(0, .ref (h9 0)), (1, .ref (q 0))] := hl
  refine lv_aload_n hx hb dX0_save_0 rfl (lv_at hl 0 rfl) ?_
  refine r_get hx hb hts hown hw.q 0 2 hin0 rfl rfl (by decide) k21 rfl dX0_save_1 ?_
  refine lv_bipush (v := nI 6) hx hb dX0_save_4 kc_bipush_6 ?_
  refine r_icmp_neN (tgt := 32) hx hb (by omega) (by omega) dX0_save_6 (by decide) (fun c_6 => ?_) (fun c_6 => ?_)
  ·
    refine lv_aload_n hx hb dX0_save_32 rfl (lv_at hl 0 rfl) ?_
    refine r_get hx hb hts hown hw.q 0 1 hin0 rfl rfl (by decide) k17 rfl dX0_save_33 ?_
    refine lv_aload_n hx hb dX0_save_36 rfl (lv_at hl 0 rfl) ?_
    refine r_get hx hb hts hown hw.q 0 2 hin0 rfl rfl (by decide) k21 rfl dX0_save_37 ?_
    refine r_addN hx hb dX0_save_40 ?_
    refine lv_bipush (v := nI 6) hx hb dX0_save_41 kc_bipush_6 ?_
    refine r_remN hx hb (by omega) (by omega) (by omega) dX0_save_43 ?_
    refine lv_istore_n (lv' := [(2, .int (nI ((ol + n7) % 6))), (0, .ref (h9 0)), (1, .ref (q 0))]) hx hb dX0_save_44 rfl hl (by decide) rfl (fun ls hl => ?_)
    refine lv_aload_n hx hb dX0_save_45 rfl (lv_at hl 1 rfl) ?_
    refine r_get hx hb hts hown hw.q 0 0 hin0 rfl rfl (by decide) k11 rfl dX0_save_46 ?_
    refine lv_iload_n hx hb dX0_save_49 rfl (lv_at hl 0 rfl) ?_
    refine r_aldq (C := RX1) hx hb hw.q 1 1 rfl rfl (i := (ol + n7) % 6) (by omega) (by decide) dX0_save_50 (v := .ref (q2 0)) (by rw [hf7]; rfl) ?_
    refine lv_astore_n (lv' := [(3, .ref (q2 0)), (2, .int (nI ((ol + n7) % 6))), (0, .ref (h9 0)), (1, .ref (q 0))]) hx hb dX0_save_51 rfl hl (by decide) rfl (fun ls hl => ?_)
    refine lv_aload_n hx hb dX0_save_52 rfl (lv_at hl 0 rfl) ?_
    refine lv_ifnonnull (tgt := 71) hx hb dX0_save_53 (by decide) ?_
    refine lv_aload_n hx hb dX0_save_71 rfl (lv_at hl 0 rfl) ?_
    refine lv_aload_n hx hb dX0_save_72 rfl (lv_at hl 3 rfl) ?_
    refine cu_Vv (As := [.ref (q 0)]) (rest := []) (wc := wS cI q2 st2 ++ wS cI q st) (wr := wR cR h9 f7 ol n7) S (c_X1_copyFrom l D (sz := s.heap.size) (cI := cI) (q := q2) (q2 := q) (st := st2) (st2 := st)) (cwV 1 hts gX0_save_X1_copyFrom rfl rfl rfl (by decide +kernel) ⟨Nat.le_of_ble_eq_true rfl, Nat.le_of_ble_eq_true rfl⟩) hw hA [9, 10, 11, 12, 13, 14, 15, 2, 3, 4, 5, 6, 7, 8] [0, 1] [0] rfl rfl rfl (by decide) (by decide) (by decide) 0 rfl rfl rfl hl.1 (Nat.le_of_ble_eq_true rfl) ⟨Nat.le_of_ble_eq_true rfl, Nat.le_of_ble_eq_true rfl⟩ rfl dX0_save_73 (fun u_73 H locs e_73 hw => ?_)
    have hw : Wd D A [(cI, .int), (cR, .object RX1)] (wR cR h9 f7 ol n7 ++ wS cI q2 st ++ wS cI q st) s s.heap H locs := hw
    refine lv_aload_n hx hb dX0_save_76 rfl (lv_at hl 2 rfl) ?_
    refine lv_dup hx hb dX0_save_77 rfl ?_
    refine r_get hx hb hts hown hw.q 0 2 hin0 rfl rfl (by decide) k21 rfl dX0_save_78 ?_
    refine lv_iconst (v := nI 1) hx hb dX0_save_81 kc_iconst_1 ?_
    refine r_addN hx hb dX0_save_82 ?_
    refine r_put hx hb hts hown hw 0 2 (ty := .int) tyX0 tyX0_ok nmX0 hin0 rfl rfl (by decide) k21 rfl (by decide +kernel) rfl rfl (Nat.le_of_ble_eq_true rfl) dX0_save_83 (fun H locs hw => ?_)
    have hw : Wd D A [(cI, .int), (cR, .object RX1)] (wR cR h9 f7 ol (n7 + 1) ++ wS cI q2 st ++ wS cI q st) s s.heap H locs := hw
    have hw : Wd D A [(cI, .int), (cR, .object RX1)] (wR cR h9 f7 ol (n7 + 1) ++ wS cI q st ++ wS cI q2 st) s s.heap H locs := hw.sub [0, 1, 9, 10, 11, 12, 13, 14, 15, 2, 3, 4, 5, 6, 7, 8] [0, 1] (by decide) rfl rfl
    exact hE () dX0_save_86 (Nat.le_of_ble_eq_true rfl) (Nat.le_of_ble_eq_true rfl) (hw.sub [0, 1, 2, 3, 4, 5, 6, 7, 8, 9, 10, 11, 12, 13, 14, 15] [] (by decide) rfl rfl) trivial
  ·
    exact absurd c_6 (by omega)
abbrev rmX0_save_n : Room := { frames := 2, cells := 7, slots := 5790, locals := 99 }
set_option maxHeartbeats 4000000 in
set_option maxRecDepth 100000 in
theorem c_X0_save_n (l : Launch) (D : va_G) (sz : Nat) (cI cR : ClassId) (h9 : Nat → Nat) (f7 : Nat → Option Nat) (ol n7 : Nat) (q : Nat → Nat) (st : St) (hol : ol < 6) (hn7 : n7 < 6) (hf7 : f7 ((ol + n7) % 6) = none) : MXv l yX0_save wsX0_save rmX0_save_n [.ref (h9 0), .ref (q 0)] D [(cI, .int), (cR, .object RX1)] (wR cR h9 f7 ol n7 ++ wS cI q st) sz (fun (u9 : Nat × Nat × Nat × Nat × Nat × Nat × Nat) => True) (fun u9 => []) (fun u9 => wR cR h9 (va_up f7 ((ol + n7) % 6) (some u9.1)) ol (n7 + 1) ++ wS cI q st ++ wS cI (ad7 u9.1 u9.2.1 u9.2.2.1 u9.2.2.2.1 u9.2.2.2.2.1 u9.2.2.2.2.2.1 u9.2.2.2.2.2.2) st) 7 5790 := by
  refine met_xv (own := RX0) (cc := cX0_save) (maxL := 4) (by decide) rfl rfl (Nat.le_of_ble_eq_true rfl) ?_
  intro p e s m args below meth c Q A hsz S hmn hz hw hA hE ls hl
  obtain ⟨hx, hb, hml, hown, hts⟩ := id S
  have k21 := hts (.fieldLink RX0 21 "CausalTable$History" "size" "I") (by decide +kernel)
  have hin0 := (show ∀ w ∈ wsX00, w ∈ wsX0_save by decide +kernel)
  have k17 := hts (.fieldLink RX0 17 "CausalTable$History" "oldest" "I") (by decide +kernel)
  have k11 := hts (.fieldLink RX0 11 "CausalTable$History" "ring" "[LCausalTable$State;") (by decide +kernel)
  have nwl9 := hts (.classLink RX0 9 RX1) (by decide +kernel)
  have nwa9 := hts (.instantiable RX1 6) (by decide +kernel)
  have nwn9 := hts (.initialized RX1) (by decide +kernel)
  have hin1 := (show ∀ w ∈ wsX10, w ∈ wsX0_save by decide +kernel)
  have ni0_24 := hts (.initialized RX1) (by decide +kernel)
  have ni1_24 := hts (.instanceMethod yX1_init) (by decide +kernel)
  have hl : lv_has ls 4 [(0, .ref (h9 0)), (1, .ref (q 0))] := hl
  refine lv_aload_n hx hb dX0_save_0 rfl (lv_at hl 0 rfl) ?_
  refine r_get hx hb hts hown hw.q 0 2 hin0 rfl rfl (by decide) k21 rfl dX0_save_1 ?_
  refine lv_bipush (v := nI 6) hx hb dX0_save_4 kc_bipush_6 ?_
  refine r_icmp_neN (tgt := 32) hx hb (by omega) (by omega) dX0_save_6 (by decide) (fun c_6 => ?_) (fun c_6 => ?_)
  ·
    refine lv_aload_n hx hb dX0_save_32 rfl (lv_at hl 0 rfl) ?_
    refine r_get hx hb hts hown hw.q 0 1 hin0 rfl rfl (by decide) k17 rfl dX0_save_33 ?_
    refine lv_aload_n hx hb dX0_save_36 rfl (lv_at hl 0 rfl) ?_
    refine r_get hx hb hts hown hw.q 0 2 hin0 rfl rfl (by decide) k21 rfl dX0_save_37 ?_
    refine r_addN hx hb dX0_save_40 ?_
    refine lv_bipush (v := nI 6) hx hb dX0_save_41 kc_bipush_6 ?_
    refine r_remN hx hb (by omega) (by omega) (by omega) dX0_save_43 ?_
    refine lv_istore_n (lv' := [(2, .int (nI ((ol + n7) % 6))), (0, .ref (h9 0)), (1, .ref (q 0))]) hx hb dX0_save_44 rfl hl (by decide) rfl (fun ls hl => ?_)
    refine lv_aload_n hx hb dX0_save_45 rfl (lv_at hl 1 rfl) ?_
    refine r_get hx hb hts hown hw.q 0 0 hin0 rfl rfl (by decide) k11 rfl dX0_save_46 ?_
    refine lv_iload_n hx hb dX0_save_49 rfl (lv_at hl 0 rfl) ?_
    refine r_aldq (C := RX1) hx hb hw.q 1 1 rfl rfl (i := (ol + n7) % 6) (by omega) (by decide) dX0_save_50 (v := .null) (by rw [hf7]; rfl) ?_
    refine lv_astore_nN (lv' := [(3, .null), (2, .int (nI ((ol + n7) % 6))), (0, .ref (h9 0)), (1, .ref (q 0))]) hx hb dX0_save_51 rfl hl (by decide) rfl (fun ls hl => ?_)
    refine lv_aload_nN hx hb dX0_save_52 rfl (lv_at hl 0 rfl) ?_
    refine lv_ifnonnullN hx hb dX0_save_53 ?_
    refine r_new hx hb hts hin1 tyX1 tyX1_ok hown nwl9 nwa9 nwn9 hw hA (ci := 1) rfl (fs := [.null, .null, .null, .null, .null, .null]) (by decide +kernel) (Nat.le_of_ble_eq_true rfl) (Nat.le_of_ble_eq_true rfl) dX0_save_56 (fun q_56 H locs hw => ?_)
    have hw : Wd D A [(cI, .int), (cR, .object RX1)] (wR cR h9 f7 ol n7 ++ wS cI q st ++ [(q_56, .inr (1, [.null, .null, .null, .null, .null, .null]))]) s s.heap H locs := hw
    refine lv_dup hx hb dX0_save_59 rfl ?_
    refine cx_In (As := []) (rest := [.ref q_56]) (wc := [(q_56, .inr (1, [.null, .null, .null, .null, .null, .null]))]) (wr := wR cR h9 f7 ol n7 ++ wS cI q st) S (c_X1_init l D (sz := H.size) (a9 := q_56) (cI := cI)) ⟨va_cnB (host := "CausalTable") 0 hts gX0_save_X1_init_n24 rfl rfl rfl (hz.2 _ (List.mem_of_getElem? (i := 11) rfl)) ni0_24 (by decide +kernel) ⟨Nat.le_of_ble_eq_true rfl, Nat.le_of_ble_eq_true rfl⟩, rfl, ni1_24⟩ hw hA [9] [0, 1, 2, 3, 4, 5, 6, 7, 8] [0] rfl rfl rfl (by decide) (by decide) (by decide) rfl hl.1 (Nat.le_of_ble_eq_true rfl) ⟨Nat.le_of_ble_eq_true rfl, Nat.le_of_ble_eq_true rfl⟩ rfl dX0_save_60 (fun u_60 H locs e_60 hw => ?_)
    obtain ⟨u0_60, u1_60, u2_60, u3_60, u4_60, u5_60⟩ := u_60
    have hw : Wd D A [(cI, .int), (cR, .object RX1)] (wR cR h9 f7 ol n7 ++ wS cI q st ++ wS cI (ad7 q_56 u0_60 u1_60 u2_60 u3_60 u4_60 u5_60) st0) s s.heap H locs := hw
    have hl : lv_has ls 4 [(3, .null), (2, .int (nI ((ol + n7) % 6))), (0, .ref (h9 0)), (1, .ref (q 0))] := hl
    refine W.eq (g2 := F0 m 63 ls [.ref ((ad7 q_56 u0_60 u1_60 u2_60 u3_60 u4_60 u5_60) 0)]) rfl ?_
    refine lv_astore_n (lv' := [(3, .ref ((ad7 q_56 u0_60 u1_60 u2_60 u3_60 u4_60 u5_60) 0)), (2, .int (nI ((ol + n7) % 6))), (0, .ref (h9 0)), (1, .ref (q 0))]) hx hb dX0_save_63 rfl hl (by decide) rfl (fun ls hl => ?_)
    refine lv_aload_n hx hb dX0_save_64 rfl (lv_at hl 2 rfl) ?_
    refine r_get hx hb hts hown hw.q 0 0 hin0 rfl rfl (by decide) k11 rfl dX0_save_65 ?_
    refine lv_iload_n hx hb dX0_save_68 rfl (lv_at hl 1 rfl) ?_
    refine lv_aload_n hx hb dX0_save_69 rfl (lv_at hl 0 rfl) ?_
    refine r_astq hx hb hw 1 1 9 1 rfl rfl rfl rfl (i := (ol + n7) % 6) (by omega) (by decide) dX0_save_70 (fun H locs hw => ?_)
    have hw : Wd D A [(cI, .int), (cR, .object RX1)] (wR cR h9 (va_up f7 ((ol + n7) % 6) (some ((ad7 q_56 u0_60 u1_60 u2_60 u3_60 u4_60 u5_60) 0))) ol n7 ++ wS cI q st ++ wS cI (ad7 q_56 u0_60 u1_60 u2_60 u3_60 u4_60 u5_60) st0) s s.heap H locs := hw
    refine lv_aload_n hx hb dX0_save_71 rfl (lv_at hl 0 rfl) ?_
    refine lv_aload_n hx hb dX0_save_72 rfl (lv_at hl 3 rfl) ?_
    refine cu_Vv (As := [.ref (q 0)]) (rest := []) (wc := wS cI (ad7 q_56 u0_60 u1_60 u2_60 u3_60 u4_60 u5_60) st0 ++ wS cI q st) (wr := wR cR h9 (va_up f7 ((ol + n7) % 6) (some ((ad7 q_56 u0_60 u1_60 u2_60 u3_60 u4_60 u5_60) 0))) ol n7) S (c_X1_copyFrom l D (sz := H.size) (cI := cI) (q := ad7 q_56 u0_60 u1_60 u2_60 u3_60 u4_60 u5_60) (q2 := q) (st := st0) (st2 := st)) (cwV 1 hts gX0_save_X1_copyFrom rfl rfl rfl (by decide +kernel) ⟨Nat.le_of_ble_eq_true rfl, Nat.le_of_ble_eq_true rfl⟩) hw hA [9, 10, 11, 12, 13, 14, 15, 2, 3, 4, 5, 6, 7, 8] [0, 1] [0] rfl rfl rfl (by decide) (by decide) (by decide) 0 rfl rfl rfl hl.1 (Nat.le_of_ble_eq_true rfl) ⟨Nat.le_of_ble_eq_true rfl, Nat.le_of_ble_eq_true rfl⟩ rfl dX0_save_73 (fun u_73 H locs e_73 hw => ?_)
    have hw : Wd D A [(cI, .int), (cR, .object RX1)] (wR cR h9 (va_up f7 ((ol + n7) % 6) (some ((ad7 q_56 u0_60 u1_60 u2_60 u3_60 u4_60 u5_60) 0))) ol n7 ++ wS cI (ad7 q_56 u0_60 u1_60 u2_60 u3_60 u4_60 u5_60) st ++ wS cI q st) s s.heap H locs := hw
    refine lv_aload_n hx hb dX0_save_76 rfl (lv_at hl 2 rfl) ?_
    refine lv_dup hx hb dX0_save_77 rfl ?_
    refine r_get hx hb hts hown hw.q 0 2 hin0 rfl rfl (by decide) k21 rfl dX0_save_78 ?_
    refine lv_iconst (v := nI 1) hx hb dX0_save_81 kc_iconst_1 ?_
    refine r_addN hx hb dX0_save_82 ?_
    refine r_put hx hb hts hown hw 0 2 (ty := .int) tyX0 tyX0_ok nmX0 hin0 rfl rfl (by decide) k21 rfl (by decide +kernel) rfl rfl (Nat.le_of_ble_eq_true rfl) dX0_save_83 (fun H locs hw => ?_)
    have hw : Wd D A [(cI, .int), (cR, .object RX1)] (wR cR h9 (va_up f7 ((ol + n7) % 6) (some ((ad7 q_56 u0_60 u1_60 u2_60 u3_60 u4_60 u5_60) 0))) ol (n7 + 1) ++ wS cI (ad7 q_56 u0_60 u1_60 u2_60 u3_60 u4_60 u5_60) st ++ wS cI q st) s s.heap H locs := hw
    exact hE (q_56, u0_60, u1_60, u2_60, u3_60, u4_60, u5_60) dX0_save_86 (Nat.le_of_ble_eq_true rfl) (Nat.le_of_ble_eq_true rfl) (hw.sub [0, 1, 9, 10, 11, 12, 13, 14, 15, 2, 3, 4, 5, 6, 7, 8] [] (by decide) rfl rfl) trivial
  ·
    exact absurd c_6 (by omega)
abbrev rmX0_restore_z : Room := { frames := 2, cells := 0, slots := 0, locals := 99 }
set_option maxHeartbeats 4000000 in
set_option maxRecDepth 100000 in
theorem c_X0_restore_z (l : Launch) (D : va_G) (sz : Nat) (cI cR : ClassId) (h9 : Nat → Nat) (f7 : Nat → Option Nat) (ol : Nat) (q : Nat → Nat) (st : St) : MXv l yX0_restore wsX0_restore rmX0_restore_z [.ref (h9 0), .ref (q 0)] D [(cI, .int), (cR, .object RX1)] (wR cR h9 f7 ol 0 ++ wS cI q st) sz (fun (u9 : Unit) => True) (fun u9 => []) (fun u9 => wR cR h9 f7 ol 0 ++ wS cI q st) 0 0 := by
  refine met_xv (own := RX0) (cc := cX0_restore) (maxL := 3) (by decide) rfl rfl (Nat.le_of_ble_eq_true rfl) ?_
  intro p e s m args below meth c Q A hsz S hmn hz hw hA hE ls hl
  obtain ⟨hx, hb, hml, hown, hts⟩ := id S
  have k21 := hts (.fieldLink RX0 21 "CausalTable$History" "size" "I") (by decide +kernel)
  have hin0 := (show ∀ w ∈ wsX00, w ∈ wsX0_restore by decide +kernel)
  have hl : lv_has ls 3 [(0, .ref (h9 0)), (1, .ref (q 0))] := hl
  refine lv_aload_n hx hb dX0_restore_0 rfl (lv_at hl 0 rfl) ?_
  refine r_get hx hb hts hown hw.q 0 2 hin0 rfl rfl (by decide) k21 rfl dX0_restore_1 ?_
  refine lv_if_ne (tgt := 8) hx hb dX0_restore_4 (by decide) (fun h => absurd h (by decide)) (fun _ => ?_)
  exact hE () dX0_restore_7 (Nat.le_of_ble_eq_true rfl) (Nat.le_of_ble_eq_true rfl) (hw.sub [0, 1, 2, 3, 4, 5, 6, 7, 8] [] (by decide) rfl rfl) trivial
abbrev rmX0_restore_p : Room := { frames := 2, cells := 0, slots := 0, locals := 99 }
set_option maxHeartbeats 4000000 in
set_option maxRecDepth 100000 in
theorem c_X0_restore_p (l : Launch) (D : va_G) (sz : Nat) (cI cR : ClassId) (h9 : Nat → Nat) (f7 : Nat → Option Nat) (ol n7 : Nat) (q q2 : Nat → Nat) (st st2 : St) (hol : ol < 6) (hn7 : n7 ≤ 6) (h0 : 0 < n7) (hf7 : f7 ((ol + (n7 - 1)) % 6) = some (q2 0)) : MXv l yX0_restore wsX0_restore rmX0_restore_p [.ref (h9 0), .ref (q 0)] D [(cI, .int), (cR, .object RX1)] (wR cR h9 f7 ol n7 ++ wS cI q st ++ wS cI q2 st2) sz (fun (u9 : Unit) => True) (fun u9 => []) (fun u9 => wR cR h9 f7 ol (n7 - 1) ++ wS cI q st2 ++ wS cI q2 st2) 0 0 := by
  refine met_xv (own := RX0) (cc := cX0_restore) (maxL := 3) (by decide) rfl rfl (Nat.le_of_ble_eq_true rfl) ?_
  intro p e s m args below meth c Q A hsz S hmn hz hw hA hE ls hl
  obtain ⟨hx, hb, hml, hown, hts⟩ := id S
  have k21 := hts (.fieldLink RX0 21 "CausalTable$History" "size" "I") (by decide +kernel)
  have hin0 := (show ∀ w ∈ wsX00, w ∈ wsX0_restore by decide +kernel)
  have k11 := hts (.fieldLink RX0 11 "CausalTable$History" "ring" "[LCausalTable$State;") (by decide +kernel)
  have k17 := hts (.fieldLink RX0 17 "CausalTable$History" "oldest" "I") (by decide +kernel)
  have hl : lv_has ls 3 [(0, .ref (h9 0)), (1, .ref (q 0))] := hl
  refine lv_aload_n hx hb dX0_restore_0 rfl (lv_at hl 0 rfl) ?_
  refine r_get hx hb hts hown hw.q 0 2 hin0 rfl rfl (by decide) k21 rfl dX0_restore_1 ?_
  refine r_if_neN (tgt := 8) hx hb (by omega) dX0_restore_4 (by decide) (fun c_4 => ?_) (fun c_4 => ?_)
  ·
    refine lv_aload_n hx hb dX0_restore_8 rfl (lv_at hl 0 rfl) ?_
    refine lv_dup hx hb dX0_restore_9 rfl ?_
    refine r_get hx hb hts hown hw.q 0 2 hin0 rfl rfl (by decide) k21 rfl dX0_restore_10 ?_
    refine lv_iconst (v := nI 1) hx hb dX0_restore_13 kc_iconst_1 ?_
    refine r_subN hx hb (by omega) dX0_restore_14 ?_
    refine r_put hx hb hts hown hw 0 2 (ty := .int) tyX0 tyX0_ok nmX0 hin0 rfl rfl (by decide) k21 rfl (by decide +kernel) rfl rfl (Nat.le_of_ble_eq_true rfl) dX0_restore_15 (fun H locs hw => ?_)
    have hw : Wd D A [(cI, .int), (cR, .object RX1)] (wR cR h9 f7 ol (n7 - 1) ++ wS cI q st ++ wS cI q2 st2) s s.heap H locs := hw
    refine lv_aload_n hx hb dX0_restore_18 rfl (lv_at hl 0 rfl) ?_
    refine r_get hx hb hts hown hw.q 0 0 hin0 rfl rfl (by decide) k11 rfl dX0_restore_19 ?_
    refine lv_aload_n hx hb dX0_restore_22 rfl (lv_at hl 0 rfl) ?_
    refine r_get hx hb hts hown hw.q 0 1 hin0 rfl rfl (by decide) k17 rfl dX0_restore_23 ?_
    refine lv_aload_n hx hb dX0_restore_26 rfl (lv_at hl 0 rfl) ?_
    refine r_get hx hb hts hown hw.q 0 2 hin0 rfl rfl (by decide) k21 rfl dX0_restore_27 ?_
    refine r_addN hx hb dX0_restore_30 ?_
    refine lv_bipush (v := nI 6) hx hb dX0_restore_31 kc_bipush_6 ?_
    refine r_remN hx hb (by omega) (by omega) (by omega) dX0_restore_33 ?_
    refine r_aldq (C := RX1) hx hb hw.q 1 1 rfl rfl (i := (ol + (n7 - 1)) % 6) (by omega) (by decide) dX0_restore_34 (v := .ref (q2 0)) (by rw [hf7]; rfl) ?_
    refine lv_astore_n (lv' := [(2, .ref (q2 0)), (0, .ref (h9 0)), (1, .ref (q 0))]) hx hb dX0_restore_35 rfl hl (by decide) rfl (fun ls hl => ?_)
    refine lv_aload_n hx hb dX0_restore_36 rfl (lv_at hl 0 rfl) ?_
    refine lv_ifnull hx hb dX0_restore_37 ?_
    refine lv_aload_n hx hb dX0_restore_40 rfl (lv_at hl 2 rfl) ?_
    refine lv_aload_n hx hb dX0_restore_41 rfl (lv_at hl 0 rfl) ?_
    refine cu_Vv (As := [.ref (q2 0)]) (rest := []) (wc := wS cI q st ++ wS cI q2 st2) (wr := wR cR h9 f7 ol (n7 - 1)) S (c_X1_copyFrom l D (sz := H.size) (cI := cI) (q := q) (q2 := q2) (st := st) (st2 := st2)) (cwV 1 hts gX0_restore_X1_copyFrom rfl rfl rfl (by decide +kernel) ⟨Nat.le_of_ble_eq_true rfl, Nat.le_of_ble_eq_true rfl⟩) hw hA [2, 3, 4, 5, 6, 7, 8, 9, 10, 11, 12, 13, 14, 15] [0, 1] [0] rfl rfl rfl (by decide) (by decide) (by decide) 0 rfl rfl rfl hl.1 (Nat.le_of_ble_eq_true rfl) ⟨Nat.le_of_ble_eq_true rfl, Nat.le_of_ble_eq_true rfl⟩ rfl dX0_restore_42 (fun u_42 H locs e_42 hw => ?_)
    have hw : Wd D A [(cI, .int), (cR, .object RX1)] (wR cR h9 f7 ol (n7 - 1) ++ wS cI q st2 ++ wS cI q2 st2) s s.heap H locs := hw
    exact hE () dX0_restore_45 (Nat.le_of_ble_eq_true rfl) (Nat.le_of_ble_eq_true rfl) (hw.sub [0, 1, 2, 3, 4, 5, 6, 7, 8, 9, 10, 11, 12, 13, 14, 15] [] (by decide) rfl rfl) trivial
  ·
    exact absurd c_4 (by omega)
