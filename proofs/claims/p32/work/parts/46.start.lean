/-! from the law's entry to its loop -/
theorem law_XN {args : Array Value} {s : State} (hts : ∀ w ∈ lw_tbl, w.before args s = true) : XN s := by
  have h1 : ∀ w ∈ XL, w ∈ lw_tbl := by decide +kernel
  exact ⟨va_AO.of (hts (.arrayOver (.object "CausalTable$State")) (by decide +kernel)), fun w hw => va_Nw.of (XL_on w hw) (hts w (h1 w hw))⟩
theorem law_cls {args : Array Value} {s : State} (hts : ∀ w ∈ lw_tbl, w.before args s = true) : ∃ (D : va_G) (cI : ClassId), va_K D vwCl [(cI, .int)] s := by
  obtain ⟨c0, i0, k0⟩ := u_known (C := RX0) (T := TX0) (N := 3) (n := 3) hts inX0 (hts (.instantiable RX0 3) (by decide +kernel))
  obtain ⟨c1, i1, k1⟩ := u_known (C := RX1) (T := TX1) (N := 6) (n := 6) hts inX1 (hts (.instantiable RX1 6) (by decide +kernel))
  obtain ⟨c2, i2, k2⟩ := u_known (C := RX2) (T := TX2) (N := 7) (n := 7) hts inX2 (hts (.instantiable RX2 7) (by decide +kernel))
  obtain ⟨c3, i3, k3⟩ := u_known (C := RX3) (T := TX3) (N := 3) (n := 3) hts inX3 (hts (.instantiable RX3 3) (by decide +kernel))
  obtain ⟨cA, kA, comp, h1, h2, h3⟩ := Cond.arrayClass_spec (hts (.arrayClass .int) (by decide +kernel))
  refine ⟨(fun k => if k = 0 then c0 else if k = 1 then c1 else if k = 2 then c2 else c3, fun k => if k = 0 then i0 else if k = 1 then i1 else if k = 2 then i2 else i3), cA, fun k q hq => ?_, fun k q hq => ?_⟩
  · match k, hq with
    | 0, hq => cases hq; exact k0
    | 1, hq => cases hq; exact k1
    | 2, hq => cases hq; exact k2
    | 3, hq => cases hq; exact k3
    | k + 4, hq => simp [vwCl] at hq
  · match k, hq with
    | 0, hq => cases hq; exact ⟨fun n z => ⟨fun k h => (by cases h), kA, h2, comp, h3⟩, h1⟩
    | k + 1, hq => simp at hq
theorem fr7_0 (ad : Nat → Nat → Nat) : fr7 ad 0 = fun _ => none := by
  funext j
  exact if_neg (Nat.not_lt_zero j)
theorem Iv_0 : Iv st0 0 := by
  refine ⟨fun _ _ => 0, fun _ _ => 0, fun _ => 0, fun _ _ _ => 0, fun _ _ _ _ => False, fun _ _ => False, fun _ _ => 0, fun _ _ => 0, ⟨fun a o _ _ => nI_0.symm, fun a b _ _ => nI_0.symm, fun a _ => nI_0.symm, fun _ _ => Nat.le_refl 0, fun _ _ => Nat.le_refl 0, fun _ _ _ _ => Nat.le_refl 0⟩, ⟨fun a r k j _ _ _ _ _ => Nat.zero_le 0, fun a o _ _ h => absurd rfl h, fun a o n _ _ h => h.elim, fun r k o n _ _ _ _ h => h.elim, fun o n _ h => h.elim⟩, fun a o _ _ h => absurd rfl h, fun o n _ h => h.elim⟩
theorem kn_0 : ∀ a b, a < 4 → b < 4 → knP st0 a b := fun _ _ _ _ _ _ h => Int32.lt_irrefl h
set_option maxHeartbeats 4000000 in
set_option maxRecDepth 100000 in
/-- behind the object's making -/
theorem law_go {p : Program} {l : Launch} {e : Env} {s : State} {m : MethodId} {args : Array Value} {below : List Frame} {meth : Method} {c : Code} {Q : State → Prop} {D : va_G} {A : Nat → Prop} {b L : Nat} {xs : Nat → Int32} {cI cR cC : ClassId} {x9 : Nat} {q h9 t9 : Nat → Nat} {cells slots : Nat} (F : LF p s m c args A b L xs) (hc : cells ≤ 20) (hs : slots ≤ 6000) (hend : ∀ (H : Heap) (locs : List Loc) (cells slots : Nat) (ls : Array Slot), va_S A s.heap H locs → cells ≤ room_1.cells → slots ≤ room_1.slots → W p l e room_1 s m args below meth c H locs cells slots Q (F0 m 362 ls [.int (nI 1)])) {H : Heap} {locs : List Loc} (hw : Wd D A [(cI, .int), (cR, .object RX1), (cC, .char)] ([(x9, .inr (3, [.ref (q 0), .ref (h9 0), .ref (t9 0)]))] ++ wS cI q st0 ++ wR cR h9 (fr7 (fun _ _ => 0) 0) 0 0 ++ wT cC t9 (fun _ => 0) 0 0 (nI 0) (nI 0) (nI 0) (nI 0) ++ wP cI (fun _ _ => 0) (fun _ => st0) 0) s s.heap H locs) {ls : Array Slot} (hl : lv_has ls 13 [(1, .ref x9), (0, .ref b)]) : W p l e room_1 s m args below meth c H locs cells slots Q (F0 m 8 ls []) := by
  obtain ⟨S, hz, hA, hX, hbl, hbA, hL⟩ := id F
  obtain ⟨hx, hb, hml, hown, hts⟩ := id S
  have r1 : 60000 ≤ room_1.cells := Nat.le_of_ble_eq_true rfl
  have r2 : 6000000 ≤ room_1.slots := Nat.le_of_ble_eq_true rfl
  have hh : hI 0 0 0 := ⟨by decide, Nat.le_refl _, by decide, fun _ => rfl⟩
  refine lv_aload_n hx hb dL_law_8 rfl (lv_at hl 0 rfl) ?_
  refine cps_i (w1 := fun (u9 : Unit) => ([(x9, .inr (3, [.ref (q 0), .ref (h9 0), .ref (t9 0)]))] : va_W) ++ wS cI q st0 ++ wR cR h9 (fr7 (fun _ _ => 0) 0) 0 0 ++ wT cC t9 (fun _ => 0) 0 0 (nI 0) (nI 0) (nI 0) (nI 0)) (pl := fun (u9 : Unit) => wP cI (fun _ _ => 0) (fun _ => st0) 0) (As := [.ref x9]) (rest := []) (wc := ([(x9, .inr (3, [.ref (q 0), .ref (h9 0), .ref (t9 0)]))] : va_W) ++ wS cI q st0 ++ wR cR h9 (fr7 (fun _ _ => 0) 0) 0 0 ++ wT cC t9 (fun _ => 0) 0 0 (nI 0) (nI 0) (nI 0) (nI 0)) (wr := []) S hz (c_L_holds l D (sz := H.size) (cI := cI) (cR := cR) (cC := cC) (x9 := x9) (q := q) (st := st0) (h9 := h9) (ad := (fun _ _ => 0)) (sv := (fun _ => st0)) (ol := 0) (n7 := 0) (n8 := 0) (t9 := t9) (tx := (fun _ => 0)) (ln := 0) (po := 0) (ki := nI 0) (rp := nI 0) (tg := nI 0) (nu := nI 0) (B := 0) (hh := hh) (hiv := Iv_0) (hB := (show 0 + 1 < 2 ^ 31 by decide))) (va_cwS 1 hts gL_law_L_holds rfl rfl rfl (by decide +kernel) ⟨Nat.le_of_ble_eq_true rfl, Nat.le_of_ble_eq_true rfl⟩) hw hA [0, 1, 2, 3, 4, 5, 6, 7, 8, 9, 10, 11] [] [0, 1, 2] rfl rfl (k0 := 12) rfl (by decide) rfl rfl hl.1 (Nat.le_of_ble_eq_true rfl) ⟨(show cells + 0 ≤ room_1.cells by omega), (show slots + 0 ≤ room_1.slots by omega)⟩ rfl dL_law_9 (fun r_9 u_9 H locs e_9 hw => ?_)
  obtain ⟨⟩ := u_9
  have hw : Wd D A [(cI, .int), (cR, .object RX1), (cC, .char)] (([(x9, .inr (3, [.ref (q 0), .ref (h9 0), .ref (t9 0)]))] : va_W) ++ wS cI q st0 ++ wR cR h9 (fr7 (fun _ _ => 0) 0) 0 0 ++ wT cC t9 (fun _ => 0) 0 0 (nI 0) (nI 0) (nI 0) (nI 0) ++ wP cI (fun _ _ => 0) (fun _ => st0) 0) s s.heap H locs := hw
  have e_9 : r_9 = nI 1 := e_9
  refine r_topV hx (congrArg Value.int e_9) ?_
  refine lv_if_eq (tgt := 28) hx hb dL_law_12 (by decide) (fun h => absurd h (by decide)) (fun _ => ?_)
  refine lv_aload_n hx hb dL_law_15 rfl (lv_at hl 0 rfl) ?_
  refine cpx_d (w1 := fun (u9 : Unit) => ([(x9, .inr (3, [.ref (q 0), .ref (h9 0), .ref (t9 0)]))] : va_W) ++ wS cI q st0 ++ wR cR h9 (fr7 (fun _ _ => 0) 0) 0 0 ++ wT cC t9 (fun _ => 0) 0 0 (nI 0) (nI 0) (nI 0) (nI 0)) (pl := fun (u9 : Unit) => wP cI (fun _ _ => 0) (fun _ => st0) 0) (As := []) (rest := []) (wc := ([(x9, .inr (3, [.ref (q 0), .ref (h9 0), .ref (t9 0)]))] : va_W) ++ wS cI q st0 ++ wR cR h9 (fr7 (fun _ _ => 0) 0) 0 0 ++ wT cC t9 (fun _ => 0) 0 0 (nI 0) (nI 0) (nI 0) (nI 0)) (wr := []) S hz (c_X3_agreement l D (sz := H.size) (cI := cI) (cR := cR) (cC := cC) (x9 := x9) (q := q) (st := st0) (h9 := h9) (ad := (fun _ _ => 0)) (sv := (fun _ => st0)) (ol := 0) (n7 := 0) (n8 := 0) (t9 := t9) (tx := (fun _ => 0)) (ln := 0) (po := 0) (ki := (nI 0)) (rp := (nI 0)) (tg := (nI 0)) (nu := (nI 0)) (hh := hh)) (cwV 0 hts gL_law_X3_agreement rfl rfl rfl (by decide +kernel) ⟨Nat.le_of_ble_eq_true rfl, Nat.le_of_ble_eq_true rfl⟩) hw hA [0, 1, 2, 3, 4, 5, 6, 7, 8, 9, 10, 11] [] [0, 1, 2] rfl rfl (k0 := 12) rfl (by decide) rfl 0 rfl rfl rfl hl.1 (Nat.le_of_ble_eq_true rfl) ⟨(show cells + 0 ≤ room_1.cells by omega), (show slots + 0 ≤ room_1.slots by omega)⟩ rfl dL_law_16 (fun r_16 u_16 H locs e_16 hw => ?_)
  obtain ⟨⟩ := u_16
  have hw : Wd D A [(cI, .int), (cR, .object RX1), (cC, .char)] (([(x9, .inr (3, [.ref (q 0), .ref (h9 0), .ref (t9 0)]))] : va_W) ++ wS cI q st0 ++ wR cR h9 (fr7 (fun _ _ => 0) 0) 0 0 ++ wT cC t9 (fun _ => 0) 0 0 (nI 0) (nI 0) (nI 0) (nI 0) ++ wP cI (fun _ _ => 0) (fun _ => st0) 0) s s.heap H locs := hw
  have e_16 : r_16 = agF (agW st0 6) := e_16
  refine r_topV hx (congrArg Value.double e_16) ?_
  refine lv_dconst1 hx hb dL_law_19 ?_
  refine lv_dcmp hx hb dL_law_20 ?_
  refine lv_if_ne (tgt := 28) hx hb dL_law_21 (by decide) (fun h => absurd (by rw [ag_all (by decide) Iv_0 kn_0]; exact ag_1) h) (fun _ => ?_)
  refine lv_iconst (v := nI 1) hx hb dL_law_24 kc_iconst_1 ?_
  refine lv_goto (tgt := 29) hx hb dL_law_25 (by decide) ?_
  refine lv_istore_n (lv' := [(2, .int (nI 1)), (1, .ref x9), (0, .ref b)]) hx hb dL_law_29 rfl hl (by decide) rfl (fun ls hl => ?_)
  refine lv_iconst (v := nI 0) hx hb dL_law_30 kc_iconst_0 ?_
  refine lv_istore_n (lv' := [(3, .int (nI 0)), (2, .int (nI 1)), (1, .ref x9), (0, .ref b)]) hx hb dL_law_31 rfl hl (by decide) rfl (fun ls hl => ?_)
  refine law_loop F hend 41 0 (Nat.zero_le _) (by omega) _ _ _ _ (by omega) (by omega) ⟨st0, fun _ _ => 0, fun _ => st0, 0, 0, 0, fun _ => 0, 0, 0, nI 0, nI 0, nI 0, nI 0, hw, hh, Iv_0⟩ ls (lv_sub hl [3, 2, 1, 0] rfl)
set_option maxHeartbeats 4000000 in
set_option maxRecDepth 100000 in
/-- from the entry -/
theorem law_start {p : Program} {l : Launch} {e : Env} {s : State} {m : MethodId} {below : List Frame} {meth : Method} {c : Code} {Q : State → Prop} {b L : Nat} {xs : Nat → Int32} (hL : L ≤ 260) (hx : p.tables.exec = Jvm.exec) (hb : c.code = cL_law) (hml : c.maxLocals = 13) (hown : s.vm.findClass RL = some m.cls) (hts0 : ∀ w ∈ lw_tbl, w.before #[Value.ref b] s = true) (hX : va_X b L xs s s.heap) (hbl : b < s.heap.size) (hend : ∀ (H : Heap) (locs : List Loc) (cells slots : Nat) (ls : Array Slot), va_S (fun q : Nat => s.heap.size ≤ q) s.heap H locs → cells ≤ room_1.cells → slots ≤ room_1.slots → W p l e room_1 s m #[Value.ref b] below meth c H locs cells slots Q (F0 m 362 ls [.int (nI 1)])) {ls : Array Slot} (hl : lv_has ls 13 [(0, .ref b)]) : W p l e room_1 s m #[Value.ref b] below meth c s.heap [] 0 0 Q (F0 m 0 ls []) := by
  have hts : ∀ w ∈ wsL_law, w.before #[Value.ref b] s = true := fun w h => hts0 w (wsL_law_in w h)
  have hA : ∀ q : Nat, s.heap.size ≤ q → (fun q : Nat => s.heap.size ≤ q) q := fun _ h => h
  have hbA : ¬ (fun q : Nat => s.heap.size ≤ q) b := Nat.not_le.mpr hbl
  have S : CallFix p m c cL_law 13 s #[Value.ref b] wsL_law RL := ⟨hx, hb, hml, hown, hts⟩
  have hz : XN s := law_XN hts0
  have F : LF p s m c #[Value.ref b] (fun q : Nat => s.heap.size ≤ q) b L xs := ⟨S, hz, hA, hX, hbl, hbA, hL⟩
  obtain ⟨D, cI, hK⟩ := law_cls hts0
  have hw : Wd D (fun q : Nat => s.heap.size ≤ q) [(cI, .int)] [] s s.heap s.heap [] := ⟨hK, fun k q h => by simp at h, ⟨fun i j p q h => by simp at h, fun k q h => by simp at h⟩, va_S.rf⟩
  refine r_new hx hb hts inlX3 tyX3 tyX3_ok hown (hts (.classLink RL 14 RX3) (by decide +kernel)) (hts (.instantiable RX3 3) (by decide +kernel)) (hts (.initialized RX3) (by decide +kernel)) hw hA (ci := 3) rfl (fs := [.null, .null, .null]) (by decide +kernel) (Nat.le_of_ble_eq_true rfl) (Nat.le_of_ble_eq_true rfl) dL_law_0 (fun x9 H locs hw => ?_)
  have hw : Wd D (fun q : Nat => s.heap.size ≤ q) [(cI, .int)] ([(x9, .inr (3, [.null, .null, .null]))]) s s.heap H locs := hw
  refine lv_dup hx hb dL_law_3 rfl ?_
  refine cx_Iv (As := []) (rest := [.ref x9]) (wc := [(x9, .inr (3, [.null, .null, .null]))]) (wr := []) S hz (c_X3_init l D (sz := H.size) (cI := cI) (x9 := x9)) ⟨callB_of 0 hts gL_law_X3_init rfl rfl rfl (hts (.initialized RX3) (by decide +kernel)) (hts (.methodLink RL 112 yX3_init) (by decide +kernel)) (by decide +kernel) ⟨(Nat.le_of_ble_eq_true rfl), (Nat.le_of_ble_eq_true rfl)⟩, rfl, hts (.instanceMethod yX3_init) (by decide +kernel)⟩ hw hA [0] [] [0] rfl rfl rfl (by decide) (by decide) (by decide) rfl hl.1 (Nat.le_of_ble_eq_true rfl) ⟨(Nat.le_of_ble_eq_true rfl), (Nat.le_of_ble_eq_true rfl)⟩ rfl dL_law_4 (fun u H locs _ hw => ?_)
  obtain ⟨u1, u2, u3, u4, u5, u6, u7, cR, u9, u10, cC, u12, u13⟩ := u
  have hw : Wd D (fun q : Nat => s.heap.size ≤ q) [(cI, .int), (cR, .object RX1), (cC, .char)] ([(x9, .inr (3, [.ref ((ad7 u1 u2 u3 u4 u5 u6 u7) 0), .ref ((ad7 u9 u10 0 0 0 0 0) 0), .ref ((ad7 u12 u13 0 0 0 0 0) 0)]))] ++ wS cI (ad7 u1 u2 u3 u4 u5 u6 u7) st0 ++ wR cR (ad7 u9 u10 0 0 0 0 0) (fun _ => none) 0 0 ++ wT cC (ad7 u12 u13 0 0 0 0 0) (fun _ => 0) 0 0 (nI 0) (nI 0) (nI 0) (nI 0)) s s.heap H locs := hw
  refine lv_astore_n (lv' := [(1, .ref x9), (0, .ref b)]) hx hb dL_law_7 rfl hl (by decide) rfl (fun ls hl => ?_)
  have hw : Wd D (fun q : Nat => s.heap.size ≤ q) [(cI, .int), (cR, .object RX1), (cC, .char)] ([(x9, .inr (3, [.ref ((ad7 u1 u2 u3 u4 u5 u6 u7) 0), .ref ((ad7 u9 u10 0 0 0 0 0) 0), .ref ((ad7 u12 u13 0 0 0 0 0) 0)]))] ++ wS cI (ad7 u1 u2 u3 u4 u5 u6 u7) st0 ++ wR cR (ad7 u9 u10 0 0 0 0 0) (fun _ => none) 0 0 ++ wT cC (ad7 u12 u13 0 0 0 0 0) (fun _ => 0) 0 0 (nI 0) (nI 0) (nI 0) (nI 0) ++ wP cI (fun _ _ => 0) (fun _ => st0) 0) s s.heap H locs := by rw [show wP cI (fun _ _ => 0) (fun _ => st0) 0 = [] from rfl, List.append_nil]; exact hw
  rw [← fr7_0 (fun _ _ => 0)] at hw
  exact law_go (q := (ad7 u1 u2 u3 u4 u5 u6 u7)) (h9 := (ad7 u9 u10 0 0 0 0 0)) (t9 := (ad7 u12 u13 0 0 0 0 0)) F (Nat.le_of_ble_eq_true rfl) (Nat.le_of_ble_eq_true rfl) hend hw hl
