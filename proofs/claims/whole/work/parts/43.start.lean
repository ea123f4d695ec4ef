/-! from the law's entry to its loop -/
theorem law_strs {args : Array Value} {s : State} (hts : ∀ w ∈ lw_tbl, w.before args s = true) (hgv : ∀ w ∈ flatC (Jvm.Cond.and given_1 narrow_1), w.before args s = true) : ∀ q ∈ SLs, ∃ sa : Nat, vk_R "CausalTable" q.1 q.2 sa s := by
  intro q hq
  have h1 : ∀ q ∈ SLs, Cond.stringRef "CausalTable" q.1 q.2 ∈ lw_tbl := by decide +kernel
  have h2 : ∀ q ∈ SLs, Cond.exactly (Term.string "CausalTable" q.1) "java/lang/String" ∈ flatC (Jvm.Cond.and given_1 narrow_1) := by decide +kernel
  obtain ⟨a, c, cell, k, he, -⟩ := Cond.exactly_spec (hgv _ (h2 q hq))
  exact ⟨a, vk_R.of (hts _ (h1 q hq)) he⟩
theorem law_XE {args : Array Value} {s : State} (hts : ∀ w ∈ lw_tbl, w.before args s = true) (hgv : ∀ w ∈ flatC (Jvm.Cond.and given_1 narrow_1), w.before args s = true) : XE s := by
  have h1 : ∀ w ∈ XW, w ∈ lw_tbl := by decide +kernel
  exact ⟨fun w hw => va_Nw.of (XW_on w hw) (hts w (h1 w hw)), va_Nc.of (hgv (.not (.castable "java/lang/IllegalArgumentException" "java/lang/IndexOutOfBoundsException")) (by decide +kernel)), va_Nc.of (hgv (.not (.castable "java/lang/IllegalStateException" "java/lang/IllegalArgumentException")) (by decide +kernel)), law_strs hts hgv⟩
theorem law_XN {args : Array Value} {s : State} (hts : ∀ w ∈ lw_tbl, w.before args s = true) : XN s := by
  have h1 : ∀ w ∈ XL, w ∈ lw_tbl := by decide +kernel
  exact ⟨va_AO.of (hts (.arrayOver (.object "CausalTable$State")) (by decide +kernel)), fun w hw => va_Nw.of (XL_on w hw) (hts w (h1 w hw))⟩
theorem law_ZQ {args : Array Value} {s : State} (hts : ∀ w ∈ lw_tbl, w.before args s = true) (hgv : ∀ w ∈ flatC (Jvm.Cond.and given_1 narrow_1), w.before args s = true) : ZQ (fun q : Nat => s.heap.size ≤ q) s s.heap :=
  ⟨vx_Zqof (hts (.laysStatic Bundle.tN "UNASSIGNED_STACK" Bundle.steD) (by decide +kernel)) (hts (.initialized Bundle.tN) (by decide +kernel)) (hgv (.isRef (.static Bundle.tN "UNASSIGNED_STACK" Bundle.steD)) (by decide +kernel)) (fun _ h => Nat.not_le.mpr h),
   vx_Zqof (hts (.laysStatic Bundle.tN "SUPPRESSED_SENTINEL" Bundle.listD) (by decide +kernel)) (hts (.initialized Bundle.tN) (by decide +kernel)) (hgv (.isRef (.static Bundle.tN "SUPPRESSED_SENTINEL" Bundle.listD)) (by decide +kernel)) (fun _ h => Nat.not_le.mpr h)⟩
theorem law_cls {args : Array Value} {s : State} (hts : ∀ w ∈ lw_tbl, w.before args s = true) : ∃ (D : va_G) (cI : ClassId), va_K D vwCl [(cI, .int)] s := by
  obtain ⟨c0, i0, k0⟩ := u_known (C := RX0) (T := TX0) (N := 3) (n := 3) hts inX0 (hts (.instantiable RX0 3) (by decide +kernel))
  obtain ⟨c1, i1, k1⟩ := u_known (C := RX1) (T := TX1) (N := 6) (n := 6) hts inX1 (hts (.instantiable RX1 6) (by decide +kernel))
  obtain ⟨c2, i2, k2⟩ := u_known (C := RX2) (T := TX2) (N := 7) (n := 7) hts inX2 (hts (.instantiable RX2 7) (by decide +kernel))
  obtain ⟨c3, i3, k3⟩ := u_known (C := RX3) (T := TX3) (N := 3) (n := 3) hts inX3 (hts (.instantiable RX3 3) (by decide +kernel))
  obtain ⟨c4, i4, k4⟩ := u_known (C := RX4) (T := TX4) (N := 12) (n := 12) hts inX4 (hts (.instantiable RX4 12) (by decide +kernel))
  obtain ⟨cA, kA, comp, h1, h2, h3⟩ := Cond.arrayClass_spec (hts (.arrayClass .int) (by decide +kernel))
  refine ⟨(fun k => if k = 0 then c0 else if k = 1 then c1 else if k = 2 then c2 else if k = 3 then c3 else c4, fun k => if k = 0 then i0 else if k = 1 then i1 else if k = 2 then i2 else if k = 3 then i3 else i4), cA, fun k q hq => ?_, fun k q hq => ?_⟩
  · match k, hq with
    | 0, hq => cases hq; exact k0
    | 1, hq => cases hq; exact k1
    | 2, hq => cases hq; exact k2
    | 3, hq => cases hq; exact k3
    | 4, hq => cases hq; exact k4
    | k + 5, hq => simp [vwCl] at hq
  · match k, hq with
    | 0, hq => cases hq; exact ⟨fun n z => ⟨fun k h => (by cases h), kA, h2, comp, h3⟩, h1⟩
    | k + 1, hq => simp at hq
theorem fr7_0 (ad : Nat → Nat → Nat) : fr7 ad 0 = fun _ => none := by
  funext j
  exact if_neg (Nat.not_lt_zero j)
set_option maxHeartbeats 4000000 in
set_option maxRecDepth 100000 in
/-- from the entry -/
theorem law_start {p : Program} {l : Launch} {e : Env} {s : State} {m : MethodId} {below : List Frame} {meth : Method} {c : Code} {Q : State → Prop} {b L : Nat} {xs : Nat → Int32} (hl9 : l.stackTraces = false) (hL : L ≤ 2560) (hx : p.tables.exec = Jvm.exec) (hb : c.code = cL_law) (hml : c.maxLocals = 10) (hown : s.vm.findClass RL = some m.cls) (hts0 : ∀ w ∈ lw_tbl, w.before #[Value.ref b] s = true) (hgv : ∀ w ∈ flatC (Jvm.Cond.and given_1 narrow_1), w.before #[Value.ref b] s = true) (hX : va_X b L xs s s.heap) (hbl : b < s.heap.size) (hend : ∀ (H : Heap) (locs : List Loc) (cells slots : Nat) (ls : Array Slot), va_S (fun q : Nat => s.heap.size ≤ q) s.heap H locs → cells ≤ room_1.cells → slots ≤ room_1.slots → W p l e room_1 s m #[Value.ref b] below meth c H locs cells slots Q (F0 m 1881 ls [])) {ls : Array Slot} (hl : lv_has ls 10 [(0, .ref b)]) : W p l e room_1 s m #[Value.ref b] below meth c s.heap [] 0 0 Q (F0 m 0 ls []) := by
  have hts : ∀ w ∈ wsL_law, w.before #[Value.ref b] s = true := fun w h => hts0 w (wsL_law_in w h)
  have hA : ∀ q : Nat, s.heap.size ≤ q → (fun q : Nat => s.heap.size ≤ q) q := fun _ h => h
  have hbA : ¬ (fun q : Nat => s.heap.size ≤ q) b := Nat.not_le.mpr hbl
  have S : CallFix p m c cL_law 10 s #[Value.ref b] wsL_law RL := ⟨hx, hb, hml, hown, hts⟩
  have hz : XN s := law_XN hts0
  have F : LF p l s m c #[Value.ref b] (fun q : Nat => s.heap.size ≤ q) b L xs := ⟨S, hz, law_XE hts0 hgv, law_ZQ hts0 hgv, hl9, hA, hX, hbl, hbA, hL⟩
  obtain ⟨D, cI, hK⟩ := law_cls hts0
  have hw : Wd D (fun q : Nat => s.heap.size ≤ q) [(cI, .int)] [] s s.heap s.heap [] := ⟨hK, fun k q h => by simp at h, ⟨fun i j p q h => by simp at h, fun k q h => by simp at h⟩, va_S.rf⟩
  refine r_new hx hb hts inlX3 tyX3 tyX3_ok hown (hts (.classLink RL 8 RX3) (by decide +kernel)) (hts (.instantiable RX3 3) (by decide +kernel)) (hts (.initialized RX3) (by decide +kernel)) hw hA (ci := 3) rfl (fs := [.null, .null, .null]) (by decide +kernel) (Nat.le_of_ble_eq_true rfl) (Nat.le_of_ble_eq_true rfl) dL_law_0 (fun x9 H locs hw => ?_)
  have hw : Wd D (fun q : Nat => s.heap.size ≤ q) [(cI, .int)] ([(x9, .inr (3, [.null, .null, .null]))]) s s.heap H locs := hw
  refine lv_dup hx hb dL_law_3 rfl ?_
  refine cx_Iv (As := []) (rest := [.ref x9]) (wc := [(x9, .inr (3, [.null, .null, .null]))]) (wr := []) S hz (c_X3_init l D (sz := H.size) (cI := cI) (x9 := x9)) ⟨callB_of 0 hts gL_law_X3_init rfl rfl rfl (hts (.initialized RX3) (by decide +kernel)) (hts (.methodLink RL 91 yX3_init) (by decide +kernel)) (by decide +kernel) ⟨(Nat.le_of_ble_eq_true rfl), (Nat.le_of_ble_eq_true rfl)⟩, rfl, hts (.instanceMethod yX3_init) (by decide +kernel)⟩ hw hA [0] [] [0] rfl rfl rfl (by decide) (by decide) (by decide) rfl hl.1 (Nat.le_of_ble_eq_true rfl) ⟨(Nat.le_of_ble_eq_true rfl), (Nat.le_of_ble_eq_true rfl)⟩ rfl dL_law_4 (fun u H locs _ hw => ?_)
  obtain ⟨u1, u2, u3, u4, u5, u6, u7, cR, u9, u10, cC, u12, u13⟩ := u
  have hw : Wd D (fun q : Nat => s.heap.size ≤ q) [(cI, .int), (cR, .object RX1), (cC, .char)] ([(x9, .inr (3, [.ref ((ad7 u1 u2 u3 u4 u5 u6 u7) 0), .ref ((ad7 u9 u10 0 0 0 0 0) 0), .ref ((ad7 u12 u13 0 0 0 0 0) 0)]))] ++ wS cI (ad7 u1 u2 u3 u4 u5 u6 u7) st0 ++ wR cR (ad7 u9 u10 0 0 0 0 0) (fun _ => none) 0 0 ++ wT cC (ad7 u12 u13 0 0 0 0 0) (fun _ => 0) 0 0 (nI 0) (nI 0) (nI 0) (nI 0)) s s.heap H locs := hw
  refine lv_astore_n (lv' := [(1, .ref x9), (0, .ref b)]) hx hb dL_law_7 rfl hl (by decide) rfl (fun ls hl => ?_)
  refine r_new hx hb hts inlX4 tyX4 tyX4_ok hown (hts (.classLink RL 92 RX4) (by decide +kernel)) (hts (.instantiable RX4 12) (by decide +kernel)) (hts (.initialized RX4) (by decide +kernel)) hw hA (ci := 4) rfl (fs := [.int (nI 0), .null, .int (nI 0), .null, .int (nI 0), .int (nI 0), .int (nI 0), .int (nI 0), .int (nI 0), .int (nI 0), .int (nI 0), .int (nI 0)]) (by decide +kernel) (Nat.le_of_ble_eq_true rfl) (Nat.le_of_ble_eq_true rfl) dL_law_8 (fun a9 H locs hw => ?_)
  have hw : Wd D (fun q : Nat => s.heap.size ≤ q) [(cI, .int), (cR, .object RX1), (cC, .char)] ([(x9, .inr (3, [.ref ((ad7 u1 u2 u3 u4 u5 u6 u7) 0), .ref ((ad7 u9 u10 0 0 0 0 0) 0), .ref ((ad7 u12 u13 0 0 0 0 0) 0)]))] ++ wS cI (ad7 u1 u2 u3 u4 u5 u6 u7) st0 ++ wR cR (ad7 u9 u10 0 0 0 0 0) (fun _ => none) 0 0 ++ wT cC (ad7 u12 u13 0 0 0 0 0) (fun _ => 0) 0 0 (nI 0) (nI 0) (nI 0) (nI 0) ++ [(a9, .inr (4, [.int (nI 0), .null, .int (nI 0), .null, .int (nI 0), .int (nI 0), .int (nI 0), .int (nI 0), .int (nI 0), .int (nI 0), .int (nI 0), .int (nI 0)]))]) s s.heap H locs := hw
  refine lv_dup hx hb dL_law_11 rfl ?_
  refine cu_Iv (As := []) (rest := [.ref a9]) (wc := [(a9, .inr (4, [.int (nI 0), .null, .int (nI 0), .null, .int (nI 0), .int (nI 0), .int (nI 0), .int (nI 0), .int (nI 0), .int (nI 0), .int (nI 0), .int (nI 0)]))]) (wr := [(x9, .inr (3, [.ref ((ad7 u1 u2 u3 u4 u5 u6 u7) 0), .ref ((ad7 u9 u10 0 0 0 0 0) 0), .ref ((ad7 u12 u13 0 0 0 0 0) 0)]))] ++ wS cI (ad7 u1 u2 u3 u4 u5 u6 u7) st0 ++ wR cR (ad7 u9 u10 0 0 0 0 0) (fun _ => none) 0 0 ++ wT cC (ad7 u12 u13 0 0 0 0 0) (fun _ => 0) 0 0 (nI 0) (nI 0) (nI 0) (nI 0)) S (c_X4_init l D (sz := H.size) (cI := cI) (a9 := a9)) ⟨callB_of 0 hts gL_law_X4_init rfl rfl rfl (hts (.initialized RX4) (by decide +kernel)) (hts (.methodLink RL 94 yX4_init) (by decide +kernel)) (by decide +kernel) ⟨(Nat.le_of_ble_eq_true rfl), (Nat.le_of_ble_eq_true rfl)⟩, rfl, hts (.instanceMethod yX4_init) (by decide +kernel)⟩ hw hA [12] [0, 1, 2, 3, 4, 5, 6, 7, 8, 9, 10, 11] [0] rfl rfl rfl (by decide) (by decide) (by decide) rfl hl.1 (Nat.le_of_ble_eq_true rfl) ⟨(Nat.le_of_ble_eq_true rfl), (Nat.le_of_ble_eq_true rfl)⟩ rfl dL_law_12 (fun u H locs _ hw => ?_)
  obtain ⟨v1, v2⟩ := u
  have hw : Wd D (fun q : Nat => s.heap.size ≤ q) [(cI, .int), (cR, .object RX1), (cC, .char)] ([(x9, .inr (3, [.ref ((ad7 u1 u2 u3 u4 u5 u6 u7) 0), .ref ((ad7 u9 u10 0 0 0 0 0) 0), .ref ((ad7 u12 u13 0 0 0 0 0) 0)]))] ++ wS cI (ad7 u1 u2 u3 u4 u5 u6 u7) st0 ++ wR cR (ad7 u9 u10 0 0 0 0 0) (fun _ => none) 0 0 ++ wT cC (ad7 u12 u13 0 0 0 0 0) (fun _ => 0) 0 0 (nI 0) (nI 0) (nI 0) (nI 0) ++ wM cI (ad7 a9 v1 v2 0 0 0 0) (iniM 4) (fun _ => 0) (nI 0) 0 0 0 (nI 0) (nI 0) (nI 0) (nI 0) 0 0) s s.heap H locs := hw
  refine lv_astore_n (lv' := [(2, .ref a9), (1, .ref x9), (0, .ref b)]) hx hb dL_law_15 rfl hl (by decide) rfl (fun ls hl => ?_)
  refine lv_iconst (v := nI 1) hx hb dL_law_16 kc_iconst_1 ?_
  refine r_newL hx hb (hts (.arrayClass .long) (by decide +kernel)) hw hA (n := 1) (by decide) (Nat.le_of_ble_eq_true rfl) (Nat.le_of_ble_eq_true rfl) dL_law_17 (fun o9 cJ H locs hw => ?_)
  refine lv_astore_n (lv' := [(3, .ref o9), (2, .ref a9), (1, .ref x9), (0, .ref b)]) hx hb dL_law_19 rfl hl (by decide) rfl (fun ls hl => ?_)
  refine lv_iconst (v := nI 1) hx hb dL_law_20 kc_iconst_1 ?_
  refine r_newD hx hb (hts (.arrayClass .double) (by decide +kernel)) hw hA (n := 1) (by decide) (Nat.le_of_ble_eq_true rfl) (Nat.le_of_ble_eq_true rfl) dL_law_21 (fun p9 cD H locs hw => ?_)
  refine lv_astore (lv' := [(4, .ref p9), (3, .ref o9), (2, .ref a9), (1, .ref x9), (0, .ref b)]) hx hb dL_law_23 hl (by decide) rfl (fun ls hl => ?_)
  refine lv_iconst (v := nI 0) hx hb dL_law_25 kc_iconst_0 ?_
  refine lv_istore (lv' := [(5, .int (nI 0)), (4, .ref p9), (3, .ref o9), (2, .ref a9), (1, .ref x9), (0, .ref b)]) hx hb dL_law_26 hl (by decide) rfl (fun ls hl => ?_)
  have hw : Wd D (fun q : Nat => s.heap.size ≤ q) [(cI, .int), (cR, .object RX1), (cC, .char), (cJ, .long), (cD, .double)] ([(x9, .inr (3, [.ref ((ad7 u1 u2 u3 u4 u5 u6 u7) 0), .ref ((ad7 u9 u10 0 0 0 0 0) 0), .ref ((ad7 u12 u13 0 0 0 0 0) 0)]))] ++ wS cI (ad7 u1 u2 u3 u4 u5 u6 u7) st0 ++ wR cR (ad7 u9 u10 0 0 0 0 0) (fun _ => none) 0 0 ++ wT cC (ad7 u12 u13 0 0 0 0 0) (fun _ => 0) 0 0 (nI 0) (nI 0) (nI 0) (nI 0) ++ wM cI (ad7 a9 v1 v2 0 0 0 0) (iniM 4) (fun _ => 0) (nI 0) 0 0 0 (nI 0) (nI 0) (nI 0) (nI 0) 0 0 ++ [(o9, .inl (cJ, 1, .inr (.inl (fun _ => 0))))] ++ [(p9, .inl (cD, 1, .inr (.inr (.inr (.inl (fun _ => 0))))))]) s s.heap H locs := hw
  have hw : Wd D (fun q : Nat => s.heap.size ≤ q) [(cI, .int), (cR, .object RX1), (cC, .char), (cJ, .long), (cD, .double)] ([(x9, .inr (3, [.ref ((ad7 u1 u2 u3 u4 u5 u6 u7) 0), .ref ((ad7 u9 u10 0 0 0 0 0) 0), .ref ((ad7 u12 u13 0 0 0 0 0) 0)]))] ++ wS cI (ad7 u1 u2 u3 u4 u5 u6 u7) st0 ++ wR cR (ad7 u9 u10 0 0 0 0 0) (fun _ => none) 0 0 ++ wT cC (ad7 u12 u13 0 0 0 0 0) (fun _ => 0) 0 0 (nI 0) (nI 0) (nI 0) (nI 0) ++ wM cI (ad7 a9 v1 v2 0 0 0 0) (iniM 4) (fun _ => 0) (nI 0) 0 0 0 (nI 0) (nI 0) (nI 0) (nI 0) 0 0 ++ [(o9, .inl (cJ, 1, .inr (.inl (fun _ => 0))))] ++ [(p9, .inl (cD, 1, .inr (.inr (.inr (.inl (fun _ => 0))))))] ++ wP cI (fun _ _ => 0) (fun _ => st0) 0) s s.heap H locs := by rw [show wP cI (fun _ _ => 0) (fun _ => st0) 0 = [] from rfl, List.append_nil]; exact hw
  have hw : Wd D (fun q : Nat => s.heap.size ≤ q) [(cI, .int), (cR, .object RX1), (cC, .char), (cJ, .long), (cD, .double)] ([(x9, .inr (3, [.ref ((ad7 u1 u2 u3 u4 u5 u6 u7) 0), .ref ((ad7 u9 u10 0 0 0 0 0) 0), .ref ((ad7 u12 u13 0 0 0 0 0) 0)]))] ++ wS cI (ad7 u1 u2 u3 u4 u5 u6 u7) st0 ++ wR cR (ad7 u9 u10 0 0 0 0 0) (fun _ => none) 0 0 ++ wT cC (ad7 u12 u13 0 0 0 0 0) (fun _ => 0) 0 0 (nI 0) (nI 0) (nI 0) (nI 0) ++ [(o9, .inl (cJ, 1, .inr (.inl (fun _ => 0))))] ++ [(p9, .inl (cD, 1, .inr (.inr (.inr (.inl (fun _ => 0))))))] ++ wM cI (ad7 a9 v1 v2 0 0 0 0) (iniM 4) (fun _ => 0) (nI 0) 0 0 0 (nI 0) (nI 0) (nI 0) (nI 0) 0 0 ++ wP cI (fun _ _ => 0) (fun _ => st0) 0) s s.heap H locs := hw.ord [0, 1, 2, 3, 4, 5, 6, 7, 8, 9, 10, 11, 15, 16, 12, 13, 14] (k0 := 17) rfl rfl (by decide)
  rw [← fr7_0 (fun _ _ => 0)] at hw
  refine law_loop F hend 513 0 (by omega) (Nat.zero_le _) _ _ H locs (Nat.le_of_ble_eq_true rfl) (Nat.le_of_ble_eq_true rfl) ⟨st0, fun _ _ => 0, fun _ => st0, 0, 0, 0, fun _ => 0, 0, 0, nI 0, nI 0, nI 0, nI 0, fun _ => 0, fun _ => 0, iniM 4, nI 0, 0, nI 0, nI 0, nI 0, nI 0, 0, 0, hw, ?_⟩ ls (lv_sub hl [5, 4, 3, 2, 1, 0] rfl)
  exact ⟨⟨by decide, Nat.le_refl _, by decide, fun _ => rfl⟩, Rl_st0, fun i hi => absurd hi (Nat.not_lt_zero i), fun _ => (show 0 < 127 by decide), by decide, by decide, by decide⟩
