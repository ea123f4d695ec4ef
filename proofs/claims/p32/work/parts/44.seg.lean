/-! the law: one turn of its loop -/
/-- the object's world, with a past -/
def LW (D : va_G) (A : Nat → Prop) (s : State) (cI cR cC : ClassId) (x9 : Nat) (q h9 t9 : Nat → Nat) (B : Nat) (H : Heap) (locs : List Loc) : Prop := ∃ (st : St) (ad : Nat → Nat → Nat) (sv : Nat → St) (ol n7 n8 : Nat) (tx : Nat → Nat) (ln po : Nat) (ki rp tg nu : Int32), Wd D A [(cI, .int), (cR, .object RX1), (cC, .char)] ([(x9, .inr (3, [.ref (q 0), .ref (h9 0), .ref (t9 0)]))] ++ wS cI q st ++ wR cR h9 (fr7 ad n8) ol n7 ++ wT cC t9 tx ln po ki rp tg nu ++ wP cI ad sv n8) s s.heap H locs ∧ hI ol n7 n8 ∧ Iv st B
/-- what the whole walk of the law stands on -/
def LF (p : Program) (s : State) (m : MethodId) (c : Code) (args : Array Value) (A : Nat → Prop) (b L : Nat) (xs : Nat → Int32) : Prop := CallFix p m c cL_law 13 s args wsL_law RL ∧ XN s ∧ (∀ q, s.heap.size ≤ q → A q) ∧ va_X b L xs s s.heap ∧ b < s.heap.size ∧ ¬ A b ∧ L ≤ 260
theorem olN_lt {ol : Nat} (n : Nat) (h : ol < 6) : olN ol n < 6 := by unfold olN; split <;> omega
theorem n7N_le {n : Nat} (h : n ≤ 6) : n7N n ≤ 6 := by unfold n7N; split <;> omega
theorem Hn_sv {sv F : Nat → St} {ol n7 : Nat} (ho : ol < 6) (hn : n7 ≤ 6) (h : Hn sv ol n7 F) (st : St) : Hn (va_up sv (slN ol n7) st) (olN ol n7) (n7N n7) (cnS st F) := by
  intro i hi
  have e0 : (olN ol n7 + (n7N n7 - 1 - 0)) % 6 = slN ol n7 := by
    unfold olN n7N slN
    by_cases c : n7 = 6
    · rw [if_pos c, if_pos c, if_pos c]; omega
    · rw [if_neg c, if_neg c, if_neg c]; congr 1
  match i, hi with
  | 0, _ => rw [e0]; exact va_up_self sv _ st
  | i + 1, hi =>
    have h2 := n7N_le hn
    have h3 := olN_lt n7 ho
    rw [va_up_ne sv st (fun z => by rw [← e0] at z; omega)]
    have hi' : i < n7 := by unfold n7N at hi; split at hi <;> omega
    refine Eq.trans (congrArg sv ?_) (h i hi')
    unfold olN n7N
    by_cases c : n7 = 6
    · rw [if_pos c, if_pos c]; omega
    · rw [if_neg c, if_neg c]; congr 1; omega
theorem maA_le (st : St) : ∀ k, (maA st k).2 ≤ k
  | 0 => by rw [maA_0]; exact Nat.le_refl 0
  | k + 1 => by
    have := maA_le st k
    rw [maA_2]; split <;> omega
theorem mgT_le (x : St × Nat) (f t : Nat) : (mgT x f t).2 ≤ x.2 + 1 := by
  rw [mgT]
  show x.2 + (if _ then 0 else 1) ≤ x.2 + 1
  split <;> omega
theorem ma_le (st : St) : (maAll st).2 ≤ 6 := by
  rw [maAll]
  have h1 := mgT_le (mgT (mgT (maA st 3) 3 2) 3 1) 3 0
  have h2 := mgT_le (mgT (maA st 3) 3 2) 3 1
  have h3 := mgT_le (maA st 3) 3 2
  have h4 := maA_le st 3
  omega
theorem Iv_up1 {st : St} {B : Nat} (h : Iv st B) : Iv st (B + 1) := by
  obtain ⟨N, V, C, dp, kl, ex, ev, es, ⟨n1, n2, n3, n4, n5, n6⟩, hK, hV⟩ := h
  exact ⟨N, V, C, dp, kl, ex, ev, es, ⟨n1, n2, n3, fun a ha => Nat.le_trans (n4 a ha) (Nat.le_succ B), n5, n6⟩, hK, hV⟩
theorem kc_bipush_11 : (Int8.ofInt (11)).toInt32 = nI 11 := by decide +kernel
theorem kc_bipush_13 : (Int8.ofInt (13)).toInt32 = nI 13 := by decide +kernel
theorem kc_bipush_40 : (Int8.ofInt (40)).toInt32 = nI 40 := by decide +kernel
set_option maxHeartbeats 8000000 in
set_option maxRecDepth 100000 in
theorem law_turn {p : Program} {l : Launch} {e : Env} {s : State} {m : MethodId} {args : Array Value} {below : List Frame} {meth : Method} {c : Code} {Q : State → Prop} {D : va_G} {A : Nat → Prop} {b L : Nat} {xs : Nat → Int32} {cells slots : Nat} {cI cR cC : ClassId} {x9 : Nat} {q h9 t9 : Nat → Nat} {B turn : Nat}  (F : LF p s m c args A b L xs) (hturn : turn < 40) (hB : B + 100 < 2 ^ 31) (hR : cells + 34 ≤ room_1.cells ∧ slots + 24000 ≤ room_1.slots) {H : Heap} {locs : List Loc} (hW : LW D A s cI cR cC x9 q h9 t9 B H locs) {ls : Array Slot} (hl : lv_has ls 13 [(0, .ref b), (1, .ref x9), (2, .int (nI 1)), (3, .int (nI turn))]) (kk : ∀ (y5 : Int32) (r t : Nat), r < 4 → t < 4 → r ≠ t → ∀ (H : Heap) (locs : List Loc) (ls : Array Slot), LW D A s cI cR cC x9 q h9 t9 (B + 1) H locs → lv_has ls 13 [(0, .ref b), (1, .ref x9), (2, .int (nI 1)), (3, .int (nI turn)), (5, .int y5), (6, .int (nI r)), (7, .int (nI t))] → W p l e room_1 s m args below meth c H locs (cells + 34) (slots + 24000) Q (F0 m 237 ls [])) : W p l e room_1 s m args below meth c H locs cells slots Q (F0 m 32 ls []) := by
  obtain ⟨st, ad, sv, ol, n7, n8, tx, ln, po, ki, rp, tg, nu, hw, hh, hiv⟩ := hW
  obtain ⟨S, hz, hA, hX, hbl, hbA, hL⟩ := id F
  obtain ⟨hx, hb, hml, hown, hts⟩ := id S
  have h6 : n7 ≤ 6 := Nat.le_trans hh.2.1 hh.2.2.1
  have h61 := n7N_le h6
  have h62 := n7N_le h61
  have h2 : 1 < n7N (n7N n7) := n7N_2 n7 (by omega)
  have h1 := n7N_p n7
  have ho := hh.1
  have hn1 := fun x => Hn_sv ho h6 (Hn_rf sv ol n7) x
  have hn2 := fun x y => Hn_sv (olN_lt n7 ho) h61 (hn1 x) y
  refine lv_iload_n hx hb dL_law_32 rfl (lv_at hl 3 rfl) ?_
  refine lv_bipush (v := nI 40) hx hb dL_law_33 kc_bipush_40 ?_
  refine lv_icmp_ge (tgt := 361) hx hb dL_law_35 (by decide) (fun h => absurd h (nI_ge hturn (by decide))) (fun _ => ?_)
  refine lv_iload_n hx hb dL_law_38 rfl (lv_at hl 2 rfl) ?_
  refine lv_if_eq (tgt := 361) hx hb dL_law_39 (by decide) (fun h => absurd h (by decide)) (fun _ => ?_)
  refine lv_aload_n hx hb dL_law_42 rfl (lv_at hl 0 rfl) ?_
  refine lv_iconst (v := nI 2) hx hb dL_law_43 kc_iconst_2 ?_
  refine lv_iload_n hx hb dL_law_44 rfl (lv_at hl 3 rfl) ?_
  refine r_mulN hx hb dL_law_45 ?_
  refine cs_S (As := [.ref b, .int (nI (2 * turn))]) (rest := []) S (c_L_cell l b L xs (2 * turn) hL (by omega)) (va_cwS 2 hts gL_law_L_cell rfl rfl rfl (by decide +kernel) ⟨Nat.le_of_ble_eq_true rfl, Nat.le_of_ble_eq_true rfl⟩) hX hbl hbA hw.2.2.2 rfl hl.1 (Nat.le_of_ble_eq_true rfl) ⟨(show cells ≤ room_1.cells by omega), (show slots ≤ room_1.slots by omega)⟩ rfl dL_law_46 (fun x4 _ => ?_)
  refine lv_istore (lv' := [(4, .int x4), (0, .ref b), (1, .ref x9), (2, .int (nI 1)), (3, .int (nI turn))]) hx hb dL_law_49 hl (by decide) rfl (fun ls hl => ?_)
  refine lv_aload_n hx hb dL_law_51 rfl (lv_at hl 1 rfl) ?_
  refine lv_iconst (v := nI 2) hx hb dL_law_52 kc_iconst_2 ?_
  refine lv_iload_n hx hb dL_law_53 rfl (lv_at hl 4 rfl) ?_
  refine r_mulN hx hb dL_law_54 ?_
  refine lv_iconst (v := nI 1) hx hb dL_law_55 kc_iconst_1 ?_
  refine r_addN hx hb dL_law_56 ?_
  refine cs_S (As := [.ref b, .int (nI ((2 * turn) + 1))]) (rest := []) S (c_L_cell l b L xs ((2 * turn) + 1) hL (by omega)) (va_cwS 2 hts gL_law_L_cell rfl rfl rfl (by decide +kernel) ⟨Nat.le_of_ble_eq_true rfl, Nat.le_of_ble_eq_true rfl⟩) hX hbl hbA hw.2.2.2 rfl hl.1 (Nat.le_of_ble_eq_true rfl) ⟨(show cells ≤ room_1.cells by omega), (show slots ≤ room_1.slots by omega)⟩ rfl dL_law_57 (fun y5 _ => ?_)
  refine lv_istore (lv' := [(5, .int y5), (4, .int x4), (0, .ref b), (1, .ref x9), (2, .int (nI 1)), (3, .int (nI turn))]) hx hb dL_law_60 hl (by decide) rfl (fun ls hl => ?_)
  refine lv_iload hx hb dL_law_62 (lv_at hl 1 rfl) ?_
  refine lv_iconst (v := nI 4) hx hb dL_law_64 kc_iconst_4 ?_
  refine lv_ishr hx hb dL_law_65 ?_
  refine lv_iconst (v := nI 4) hx hb dL_law_66 kc_iconst_4 ?_
  refine cq_S (As := [.int (x4 >>> ((nI 4) &&& 31)), .int (nI 4)]) (rest := []) S (c_L_up l D (v := x4 >>> ((nI 4) &&& 31)) (n := 4) (hn0 := by decide) (hn1 := by decide)) (va_cwS 2 hts gL_law_L_up rfl rfl rfl (by decide +kernel) ⟨Nat.le_of_ble_eq_true rfl, Nat.le_of_ble_eq_true rfl⟩) (hw.q.sub [] [] rfl rfl) rfl hl.1 (Nat.le_of_ble_eq_true rfl) ⟨(show cells ≤ room_1.cells by omega), (show slots ≤ room_1.slots by omega)⟩ rfl dL_law_67 (fun r_67 e_67 => ?_)
  have e_67 : r_67 = nI (uvN (x4 >>> ((nI 4) &&& 31)) 4) := e_67
  refine r_topV hx (congrArg Value.int e_67) ?_
  obtain ⟨r, hr4, er⟩ : ∃ z9, z9 < 4 ∧ uvN (x4 >>> ((nI 4) &&& 31)) 4 = z9 := ⟨_, uvN_lt _ (by decide), rfl⟩
  refine r_top hx (congrArg nI er) ?_
  refine lv_istore (lv' := [(6, .int (nI r)), (5, .int y5), (4, .int x4), (0, .ref b), (1, .ref x9), (2, .int (nI 1)), (3, .int (nI turn))]) hx hb dL_law_70 hl (by decide) rfl (fun ls hl => ?_)
  refine lv_iload hx hb dL_law_72 (lv_at hl 0 rfl) ?_
  refine lv_iconst (v := nI 1) hx hb dL_law_74 kc_iconst_1 ?_
  refine r_addN hx hb dL_law_75 ?_
  refine lv_iload hx hb dL_law_76 (lv_at hl 2 rfl) ?_
  refine lv_bipush (v := nI 6) hx hb dL_law_78 kc_bipush_6 ?_
  refine lv_ishr hx hb dL_law_80 ?_
  refine lv_iconst (v := nI 3) hx hb dL_law_81 kc_iconst_3 ?_
  refine cq_S (As := [.int (x4 >>> ((nI 6) &&& 31)), .int (nI 3)]) (rest := [.int (nI (r + 1))]) S (c_L_up l D (v := x4 >>> ((nI 6) &&& 31)) (n := 3) (hn0 := by decide) (hn1 := by decide)) (va_cwS 2 hts gL_law_L_up rfl rfl rfl (by decide +kernel) ⟨Nat.le_of_ble_eq_true rfl, Nat.le_of_ble_eq_true rfl⟩) (hw.q.sub [] [] rfl rfl) rfl hl.1 (Nat.le_of_ble_eq_true rfl) ⟨(show cells ≤ room_1.cells by omega), (show slots ≤ room_1.slots by omega)⟩ rfl dL_law_82 (fun r_82 e_82 => ?_)
  have e_82 : r_82 = nI (uvN (x4 >>> ((nI 6) &&& 31)) 3) := e_82
  refine r_topV hx (congrArg Value.int e_82) ?_
  obtain ⟨u, hu3, eu⟩ : ∃ z9, z9 < 3 ∧ uvN (x4 >>> ((nI 6) &&& 31)) 3 = z9 := ⟨_, uvN_lt _ (by decide), rfl⟩
  refine r_top hx (congrArg nI eu) ?_
  refine r_addN hx hb dL_law_85 ?_
  refine lv_iconst (v := nI 4) hx hb dL_law_86 kc_iconst_4 ?_
  refine r_remN hx hb (by omega) (by omega) (by omega) dL_law_87 ?_
  obtain ⟨t, ht4, hne, et⟩ : ∃ z9, z9 < 4 ∧ r ≠ z9 ∧ ((r + 1) + u) % 4 = z9 := ⟨_, Nat.mod_lt _ (by decide), by omega, rfl⟩
  refine r_top hx (congrArg nI et) ?_
  refine lv_istore (lv' := [(7, .int (nI t)), (6, .int (nI r)), (5, .int y5), (4, .int x4), (0, .ref b), (1, .ref x9), (2, .int (nI 1)), (3, .int (nI turn))]) hx hb dL_law_88 hl (by decide) rfl (fun ls hl => ?_)
  refine lv_iload hx hb dL_law_90 (lv_at hl 3 rfl) ?_
  refine lv_bipush (v := nI 8) hx hb dL_law_92 kc_bipush_8 ?_
  refine lv_ishr hx hb dL_law_94 ?_
  refine lv_iconst (v := nI 3) hx hb dL_law_95 kc_iconst_3 ?_
  refine lv_iand hx hb dL_law_96 ?_
  refine lv_if_ne (tgt := 104) hx hb dL_law_97 (by decide) (fun c_97 => ?_) (fun c_97 => ?_)
  ·
    refine lv_iconst (v := nI 0) hx hb dL_law_104 kc_iconst_0 ?_
    refine lv_istore (lv' := [(8, .int (nI 0)), (7, .int (nI t)), (6, .int (nI r)), (5, .int y5), (4, .int x4), (0, .ref b), (1, .ref x9), (2, .int (nI 1)), (3, .int (nI turn))]) hx hb dL_law_105 hl (by decide) rfl (fun ls hl => ?_)
    refine lv_aload_n hx hb dL_law_107 rfl (lv_at hl 6 rfl) ?_
    refine cps_l (w1 := fun (u9 : Unit) => ([(x9, .inr (3, [.ref (q 0), .ref (h9 0), .ref (t9 0)]))] : va_W) ++ wS cI q st ++ wR cR h9 (fr7 ad n8) ol n7 ++ wT cC t9 tx ln po ki rp tg nu) (pl := fun (u9 : Unit) => wP cI ad sv n8) (As := [.ref x9]) (rest := []) (wc := ([(x9, .inr (3, [.ref (q 0), .ref (h9 0), .ref (t9 0)]))] : va_W) ++ wS cI q st ++ wR cR h9 (fr7 ad n8) ol n7 ++ wT cC t9 tx ln po ki rp tg nu) (wr := []) S hz (c_L_told l D (sz := H.size) (cI := cI) (cR := cR) (cC := cC) (x9 := x9) (q := q) (st := st) (h9 := h9) (ad := ad) (sv := sv) (ol := ol) (n7 := n7) (n8 := n8) (t9 := t9) (tx := tx) (ln := ln) (po := po) (ki := ki) (rp := rp) (tg := tg) (nu := nu) (hh := hh)) (va_cwS 1 hts gL_law_L_told rfl rfl rfl (by decide +kernel) ⟨Nat.le_of_ble_eq_true rfl, Nat.le_of_ble_eq_true rfl⟩) hw hA [0, 1, 2, 3, 4, 5, 6, 7, 8, 9, 10, 11] [] [0, 1, 2] rfl rfl (k0 := 12) rfl (by decide) rfl rfl hl.1 (Nat.le_of_ble_eq_true rfl) ⟨(show cells + 0 ≤ room_1.cells by omega), (show slots + 0 ≤ room_1.slots by omega)⟩ rfl dL_law_108 (fun r_108 u_108 H locs e_108 hw => ?_)
    obtain ⟨⟩ := u_108
    have hw : Wd D A [(cI, .int), (cR, .object RX1), (cC, .char)] (([(x9, .inr (3, [.ref (q 0), .ref (h9 0), .ref (t9 0)]))] : va_W) ++ wS cI q st ++ wR cR h9 (fr7 ad n8) ol n7 ++ wT cC t9 tx ln po ki rp tg nu ++ wP cI ad sv n8) s s.heap H locs := hw
    have e_108 : r_108 = toldV st := e_108
    refine r_topV hx (congrArg Value.long e_108) ?_
    refine lv_lstore (lv' := [(9, .long (toldV st)), (8, .int (nI 0)), (7, .int (nI t)), (6, .int (nI r)), (5, .int y5), (4, .int x4), (0, .ref b), (1, .ref x9), (2, .int (nI 1)), (3, .int (nI turn))]) hx hb dL_law_111 hl (by decide) rfl (fun ls hl => ?_)
    refine lv_iload hx hb dL_law_113 (lv_at hl 1 rfl) ?_
    refine lv_if_eq (tgt := 129) hx hb dL_law_115 (by decide) (fun _ => ?_) (fun h => absurd h (by decide))
    refine lv_aload_n hx hb dL_law_129 rfl (lv_at hl 7 rfl) ?_
    refine lv_iload hx hb dL_law_130 (lv_at hl 3 rfl) ?_
    refine lv_iload hx hb dL_law_132 (lv_at hl 5 rfl) ?_
    refine lv_iload hx hb dL_law_134 (lv_at hl 4 rfl) ?_
    refine cps_i (w1 := fun (u9 : Nat × (Nat → Nat → Nat)) => ([(x9, .inr (3, [.ref (q 0), .ref (h9 0), .ref (t9 0)]))] : va_W) ++ wS cI q (updF st r x4 y5) ++ wR cR h9 (fr7 u9.2 u9.1) (olN ol n7) (n7N n7) ++ wT cC t9 tx ln po ki rp tg nu) (pl := fun (u9 : Nat × (Nat → Nat → Nat)) => wP cI u9.2 (va_up sv (slN ol n7) st) u9.1) (As := [.ref x9, .int (nI r), .int x4, .int y5]) (rest := []) (wc := ([(x9, .inr (3, [.ref (q 0), .ref (h9 0), .ref (t9 0)]))] : va_W) ++ wS cI q st ++ wR cR h9 (fr7 ad n8) ol n7 ++ wT cC t9 tx ln po ki rp tg nu) (wr := []) S hz (c_L_updates l D (sz := H.size) (cI := cI) (cR := cR) (cC := cC) (x9 := x9) (q := q) (st := st) (h9 := h9) (ad := ad) (sv := sv) (ol := ol) (n7 := n7) (n8 := n8) (t9 := t9) (tx := tx) (ln := ln) (po := po) (ki := ki) (rp := rp) (tg := tg) (nu := nu) (B := B) (r := r) (x := x4) (y := y5) (hh := hh) (hr := hr4) (hiv := hiv) (hB := by omega)) (va_cwS 4 hts gL_law_L_updates rfl rfl rfl (by decide +kernel) ⟨Nat.le_of_ble_eq_true rfl, Nat.le_of_ble_eq_true rfl⟩) hw hA [0, 1, 2, 3, 4, 5, 6, 7, 8, 9, 10, 11] [] [0, 1, 2] rfl rfl (k0 := 12) rfl (by decide) rfl rfl hl.1 (Nat.le_of_ble_eq_true rfl) ⟨(show cells + 7 ≤ room_1.cells by omega), (show slots + 5790 ≤ room_1.slots by omega)⟩ rfl dL_law_136 (fun r_136 u_136 H locs e_136 hw => ?_)
    obtain ⟨u0_136, u1_136⟩ := u_136
    have hw : Wd D A [(cI, .int), (cR, .object RX1), (cC, .char)] (([(x9, .inr (3, [.ref (q 0), .ref (h9 0), .ref (t9 0)]))] : va_W) ++ wS cI q (updF st r x4 y5) ++ wR cR h9 (fr7 u1_136 u0_136) (olN ol n7) (n7N n7) ++ wT cC t9 tx ln po ki rp tg nu ++ wP cI u1_136 (va_up sv (slN ol n7) st) u0_136) s s.heap H locs := hw
    obtain ⟨e_136, x_136⟩ := e_136
    have e_136 : r_136 = nI 1 := e_136
    refine r_topV hx (congrArg Value.int e_136) ?_
    have hh := x_136
    refine lv_istore_n (lv' := [(2, .int (nI 1)), (9, .long (toldV st)), (8, .int (nI 0)), (7, .int (nI t)), (6, .int (nI r)), (5, .int y5), (4, .int x4), (0, .ref b), (1, .ref x9), (3, .int (nI turn))]) hx hb dL_law_139 rfl hl (by decide) rfl (fun ls hl => ?_)
    refine lv_iload_n hx hb dL_law_140 rfl (lv_at hl 0 rfl) ?_
    refine lv_if_eq (tgt := 237) hx hb dL_law_141 (by decide) (fun h => absurd h (by decide)) (fun _ => ?_)
    refine lv_iload hx hb dL_law_144 (lv_at hl 6 rfl) ?_
    refine lv_bipush (v := nI 10) hx hb dL_law_146 kc_bipush_10 ?_
    refine lv_ishr hx hb dL_law_148 ?_
    refine lv_iconst (v := nI 3) hx hb dL_law_149 kc_iconst_3 ?_
    refine lv_iand hx hb dL_law_150 ?_
    refine lv_if_ne (tgt := 237) hx hb dL_law_151 (by decide) (fun c_151 => ?_) (fun c_151 => ?_)
    ·
      have hl : lv_has ls 13 [(0, .ref b), (1, .ref x9), (2, .int (nI 1)), (3, .int (nI turn)), (5, .int y5), (6, .int (nI r)), (7, .int (nI t))] := lv_sub hl [7, 8, 0, 9, 5, 4, 3] rfl
      refine W.widen (k := cells + 34) (n := slots + 24000) (by omega) (by omega) ?_
      exact kk y5 r t hr4 ht4 hne H locs ls ⟨(updF st r x4 y5), u1_136, (va_up sv (slN ol n7) st), (olN ol n7), (n7N n7), u0_136, tx, ln, po, ki, rp, tg, nu, hw, hh, Iv_updF x4 y5 hr4 (by omega) hiv⟩ hl
    ·
      refine lv_aload_n hx hb dL_law_154 rfl (lv_at hl 8 rfl) ?_
      refine cps_l (w1 := fun (u9 : Unit) => ([(x9, .inr (3, [.ref (q 0), .ref (h9 0), .ref (t9 0)]))] : va_W) ++ wS cI q (updF st r x4 y5) ++ wR cR h9 (fr7 u1_136 u0_136) (olN ol n7) (n7N n7) ++ wT cC t9 tx ln po ki rp tg nu) (pl := fun (u9 : Unit) => wP cI u1_136 (va_up sv (slN ol n7) st) u0_136) (As := [.ref x9]) (rest := []) (wc := ([(x9, .inr (3, [.ref (q 0), .ref (h9 0), .ref (t9 0)]))] : va_W) ++ wS cI q (updF st r x4 y5) ++ wR cR h9 (fr7 u1_136 u0_136) (olN ol n7) (n7N n7) ++ wT cC t9 tx ln po ki rp tg nu) (wr := []) S hz (c_L_told l D (sz := H.size) (cI := cI) (cR := cR) (cC := cC) (x9 := x9) (q := q) (st := (updF st r x4 y5)) (h9 := h9) (ad := u1_136) (sv := va_up sv (slN ol n7) st) (ol := olN ol n7) (n7 := n7N n7) (n8 := u0_136) (t9 := t9) (tx := tx) (ln := ln) (po := po) (ki := ki) (rp := rp) (tg := tg) (nu := nu) (hh := hh)) (va_cwS 1 hts gL_law_L_told rfl rfl rfl (by decide +kernel) ⟨Nat.le_of_ble_eq_true rfl, Nat.le_of_ble_eq_true rfl⟩) hw hA [0, 1, 2, 3, 4, 5, 6, 7, 8, 9, 10, 11] [] [0, 1, 2] rfl rfl (k0 := 12) rfl (by decide) rfl rfl hl.1 (Nat.le_of_ble_eq_true rfl) ⟨(show (cells + 7) + 0 ≤ room_1.cells by omega), (show (slots + 5790) + 0 ≤ room_1.slots by omega)⟩ rfl dL_law_155 (fun r_155 u_155 H locs e_155 hw => ?_)
      obtain ⟨⟩ := u_155
      have hw : Wd D A [(cI, .int), (cR, .object RX1), (cC, .char)] (([(x9, .inr (3, [.ref (q 0), .ref (h9 0), .ref (t9 0)]))] : va_W) ++ wS cI q (updF st r x4 y5) ++ wR cR h9 (fr7 u1_136 u0_136) (olN ol n7) (n7N n7) ++ wT cC t9 tx ln po ki rp tg nu ++ wP cI u1_136 (va_up sv (slN ol n7) st) u0_136) s s.heap H locs := hw
      have e_155 : r_155 = toldV (updF st r x4 y5) := e_155
      refine r_topV hx (congrArg Value.long e_155) ?_
      refine lv_lstore (lv' := [(11, .long (toldV (updF st r x4 y5))), (2, .int (nI 1)), (9, .long (toldV st)), (8, .int (nI 0)), (7, .int (nI t)), (6, .int (nI r)), (5, .int y5), (4, .int x4), (0, .ref b), (1, .ref x9), (3, .int (nI turn))]) hx hb dL_law_158 hl (by decide) rfl (fun ls hl => ?_)
      refine lv_aload_n hx hb dL_law_160 rfl (lv_at hl 9 rfl) ?_
      refine cpx_i (w1 := fun (u9 : Unit) => ([(x9, .inr (3, [.ref (q 0), .ref (h9 0), .ref (t9 0)]))] : va_W) ++ wS cI q (if (n7N n7) = 0 then (updF st r x4 y5) else (va_up sv (slN ol n7) st) (((olN ol n7) + ((n7N n7) - 1)) % 6)) ++ wR cR h9 (fr7 u1_136 u0_136) (olN ol n7) ((n7N n7) - 1) ++ wT cC t9 tx ln po ki rp tg nu) (pl := fun (u9 : Unit) => wP cI u1_136 (va_up sv (slN ol n7) st) u0_136) (As := []) (rest := []) (wc := ([(x9, .inr (3, [.ref (q 0), .ref (h9 0), .ref (t9 0)]))] : va_W) ++ wS cI q (updF st r x4 y5) ++ wR cR h9 (fr7 u1_136 u0_136) (olN ol n7) (n7N n7) ++ wT cC t9 tx ln po ki rp tg nu) (wr := []) S hz (c_X3_undo l D (sz := H.size) (cI := cI) (cR := cR) (cC := cC) (x9 := x9) (q := q) (st := (updF st r x4 y5)) (h9 := h9) (ad := u1_136) (sv := (va_up sv (slN ol n7) st)) (ol := (olN ol n7)) (n7 := (n7N n7)) (n8 := u0_136) (t9 := t9) (tx := tx) (ln := ln) (po := po) (ki := ki) (rp := rp) (tg := tg) (nu := nu) (hh := hh) (h0n := by omega)) (cwV 0 hts gL_law_X3_undo rfl rfl rfl (by decide +kernel) ⟨Nat.le_of_ble_eq_true rfl, Nat.le_of_ble_eq_true rfl⟩) hw hA [0, 1, 2, 3, 4, 5, 6, 7, 8, 9, 10, 11] [] [0, 1, 2] rfl rfl (k0 := 12) rfl (by decide) rfl 0 rfl rfl rfl hl.1 (Nat.le_of_ble_eq_true rfl) ⟨(show (cells + 7) + 0 ≤ room_1.cells by omega), (show (slots + 5790) + 0 ≤ room_1.slots by omega)⟩ rfl dL_law_161 (fun r_161 u_161 H locs e_161 hw => ?_)
      obtain ⟨⟩ := u_161
      have hw : Wd D A [(cI, .int), (cR, .object RX1), (cC, .char)] (([(x9, .inr (3, [.ref (q 0), .ref (h9 0), .ref (t9 0)]))] : va_W) ++ wS cI q (if (n7N n7) = 0 then (updF st r x4 y5) else (va_up sv (slN ol n7) st) (((olN ol n7) + ((n7N n7) - 1)) % 6)) ++ wR cR h9 (fr7 u1_136 u0_136) (olN ol n7) ((n7N n7) - 1) ++ wT cC t9 tx ln po ki rp tg nu ++ wP cI u1_136 (va_up sv (slN ol n7) st) u0_136) s s.heap H locs := hw
      have e_161 : r_161 = nI ((n7N n7) - 1) := e_161
      refine r_topV hx (congrArg Value.int e_161) ?_
      have hw : Wd D A [(cI, .int), (cR, .object RX1), (cC, .char)] (([(x9, .inr (3, [.ref (q 0), .ref (h9 0), .ref (t9 0)]))] : va_W) ++ wS cI q st ++ wR cR h9 (fr7 u1_136 u0_136) (olN ol n7) ((n7N n7) - 1) ++ wT cC t9 tx ln po ki rp tg nu ++ wP cI u1_136 (va_up sv (slN ol n7) st) u0_136) s s.heap H locs := Eq.mp (congrArg (fun z9 => Wd D A [(cI, .int), (cR, .object RX1), (cC, .char)] (([(x9, .inr (3, [.ref (q 0), .ref (h9 0), .ref (t9 0)]))] : va_W) ++ wS cI q z9 ++ wR cR h9 (fr7 u1_136 u0_136) (olN ol n7) ((n7N n7) - 1) ++ wT cC t9 tx ln po ki rp tg nu ++ wP cI u1_136 (va_up sv (slN ol n7) st) u0_136) s s.heap H locs) (show (if (n7N n7) = 0 then (updF st r x4 y5) else (va_up sv (slN ol n7) st) (((olN ol n7) + ((n7N n7) - 1)) % 6)) = st from Hn_get (hn1 st) h1 _)) hw
      have hh := hI_le hh (Nat.sub_le _ 1)
      refine lv_if_lt (tgt := 235) hx hb dL_law_164 (by decide) (fun h => absurd h (nI_pos (by omega))) (fun _ => ?_)
      refine lv_iload hx hb dL_law_167 (lv_at hl 3 rfl) ?_
      refine lv_if_eq (tgt := 179) hx hb dL_law_169 (by decide) (fun _ => ?_) (fun h => absurd h (by decide))
      refine lv_aload_n hx hb dL_law_179 rfl (lv_at hl 9 rfl) ?_
      refine cps_l (w1 := fun (u9 : Unit) => ([(x9, .inr (3, [.ref (q 0), .ref (h9 0), .ref (t9 0)]))] : va_W) ++ wS cI q st ++ wR cR h9 (fr7 u1_136 u0_136) (olN ol n7) ((n7N n7) - 1) ++ wT cC t9 tx ln po ki rp tg nu) (pl := fun (u9 : Unit) => wP cI u1_136 (va_up sv (slN ol n7) st) u0_136) (As := [.ref x9]) (rest := []) (wc := ([(x9, .inr (3, [.ref (q 0), .ref (h9 0), .ref (t9 0)]))] : va_W) ++ wS cI q st ++ wR cR h9 (fr7 u1_136 u0_136) (olN ol n7) ((n7N n7) - 1) ++ wT cC t9 tx ln po ki rp tg nu) (wr := []) S hz (c_L_told l D (sz := H.size) (cI := cI) (cR := cR) (cC := cC) (x9 := x9) (q := q) (st := st) (h9 := h9) (ad := u1_136) (sv := (va_up sv (slN ol n7) st)) (ol := (olN ol n7)) (n7 := (n7N n7) - 1) (n8 := u0_136) (t9 := t9) (tx := tx) (ln := ln) (po := po) (ki := ki) (rp := rp) (tg := tg) (nu := nu) (hh := hh)) (va_cwS 1 hts gL_law_L_told rfl rfl rfl (by decide +kernel) ⟨Nat.le_of_ble_eq_true rfl, Nat.le_of_ble_eq_true rfl⟩) hw hA [0, 1, 2, 3, 4, 5, 6, 7, 8, 9, 10, 11] [] [0, 1, 2] rfl rfl (k0 := 12) rfl (by decide) rfl rfl hl.1 (Nat.le_of_ble_eq_true rfl) ⟨(show (cells + 7) + 0 ≤ room_1.cells by omega), (show (slots + 5790) + 0 ≤ room_1.slots by omega)⟩ rfl dL_law_180 (fun r_180 u_180 H locs e_180 hw => ?_)
      obtain ⟨⟩ := u_180
      have hw : Wd D A [(cI, .int), (cR, .object RX1), (cC, .char)] (([(x9, .inr (3, [.ref (q 0), .ref (h9 0), .ref (t9 0)]))] : va_W) ++ wS cI q st ++ wR cR h9 (fr7 u1_136 u0_136) (olN ol n7) ((n7N n7) - 1) ++ wT cC t9 tx ln po ki rp tg nu ++ wP cI u1_136 (va_up sv (slN ol n7) st) u0_136) s s.heap H locs := hw
      have e_180 : r_180 = toldV st := e_180
      refine r_topV hx (congrArg Value.long e_180) ?_
      refine lv_lload hx hb dL_law_183 (lv_at hl 2 rfl) ?_
      refine r_lcmpE hx hb (show toldV st = toldV st from rfl) dL_law_185 ?_
      refine lv_if_ne (tgt := 235) hx hb dL_law_186 (by decide) (fun h => absurd h (by decide)) (fun _ => ?_)
      refine lv_iload hx hb dL_law_189 (lv_at hl 3 rfl) ?_
      refine lv_if_eq (tgt := 208) hx hb dL_law_191 (by decide) (fun _ => ?_) (fun h => absurd h (by decide))
      refine lv_aload_n hx hb dL_law_208 rfl (lv_at hl 9 rfl) ?_
      refine lv_iload hx hb dL_law_209 (lv_at hl 5 rfl) ?_
      refine lv_iload hx hb dL_law_211 (lv_at hl 7 rfl) ?_
      refine lv_iload hx hb dL_law_213 (lv_at hl 6 rfl) ?_
      refine cps_i (w1 := fun (u9 : Nat × (Nat → Nat → Nat)) => ([(x9, .inr (3, [.ref (q 0), .ref (h9 0), .ref (t9 0)]))] : va_W) ++ wS cI q (updF st r x4 y5) ++ wR cR h9 (fr7 u9.2 u9.1) (olN (olN ol n7) ((n7N n7) - 1)) (n7N ((n7N n7) - 1)) ++ wT cC t9 tx ln po ki rp tg nu) (pl := fun (u9 : Nat × (Nat → Nat → Nat)) => wP cI u9.2 (va_up (va_up sv (slN ol n7) st) (slN (olN ol n7) ((n7N n7) - 1)) st) u9.1) (As := [.ref x9, .int (nI r), .int x4, .int y5]) (rest := []) (wc := ([(x9, .inr (3, [.ref (q 0), .ref (h9 0), .ref (t9 0)]))] : va_W) ++ wS cI q st ++ wR cR h9 (fr7 u1_136 u0_136) (olN ol n7) ((n7N n7) - 1) ++ wT cC t9 tx ln po ki rp tg nu) (wr := []) S hz (c_L_updates l D (sz := H.size) (cI := cI) (cR := cR) (cC := cC) (x9 := x9) (q := q) (st := st) (h9 := h9) (ad := u1_136) (sv := (va_up sv (slN ol n7) st)) (ol := (olN ol n7)) (n7 := ((n7N n7) - 1)) (n8 := u0_136) (t9 := t9) (tx := tx) (ln := ln) (po := po) (ki := ki) (rp := rp) (tg := tg) (nu := nu) (B := B) (r := r) (x := x4) (y := y5) (hh := hh) (hr := hr4) (hiv := hiv) (hB := by omega)) (va_cwS 4 hts gL_law_L_updates rfl rfl rfl (by decide +kernel) ⟨Nat.le_of_ble_eq_true rfl, Nat.le_of_ble_eq_true rfl⟩) hw hA [0, 1, 2, 3, 4, 5, 6, 7, 8, 9, 10, 11] [] [0, 1, 2] rfl rfl (k0 := 12) rfl (by decide) rfl rfl hl.1 (Nat.le_of_ble_eq_true rfl) ⟨(show (cells + 7) + 7 ≤ room_1.cells by omega), (show (slots + 5790) + 5790 ≤ room_1.slots by omega)⟩ rfl dL_law_215 (fun r_215 u_215 H locs e_215 hw => ?_)
      obtain ⟨u0_215, u1_215⟩ := u_215
      have hw : Wd D A [(cI, .int), (cR, .object RX1), (cC, .char)] (([(x9, .inr (3, [.ref (q 0), .ref (h9 0), .ref (t9 0)]))] : va_W) ++ wS cI q (updF st r x4 y5) ++ wR cR h9 (fr7 u1_215 u0_215) (olN (olN ol n7) ((n7N n7) - 1)) (n7N ((n7N n7) - 1)) ++ wT cC t9 tx ln po ki rp tg nu ++ wP cI u1_215 (va_up (va_up sv (slN ol n7) st) (slN (olN ol n7) ((n7N n7) - 1)) st) u0_215) s s.heap H locs := hw
      obtain ⟨e_215, x_215⟩ := e_215
      have e_215 : r_215 = nI 1 := e_215
      refine r_topV hx (congrArg Value.int e_215) ?_
      have hh := x_215
      refine lv_if_eq (tgt := 235) hx hb dL_law_218 (by decide) (fun h => absurd h (by decide)) (fun _ => ?_)
      refine lv_aload_n hx hb dL_law_221 rfl (lv_at hl 9 rfl) ?_
      refine cps_l (w1 := fun (u9 : Unit) => ([(x9, .inr (3, [.ref (q 0), .ref (h9 0), .ref (t9 0)]))] : va_W) ++ wS cI q (updF st r x4 y5) ++ wR cR h9 (fr7 u1_215 u0_215) (olN (olN ol n7) ((n7N n7) - 1)) (n7N ((n7N n7) - 1)) ++ wT cC t9 tx ln po ki rp tg nu) (pl := fun (u9 : Unit) => wP cI u1_215 (va_up (va_up sv (slN ol n7) st) (slN (olN ol n7) ((n7N n7) - 1)) st) u0_215) (As := [.ref x9]) (rest := []) (wc := ([(x9, .inr (3, [.ref (q 0), .ref (h9 0), .ref (t9 0)]))] : va_W) ++ wS cI q (updF st r x4 y5) ++ wR cR h9 (fr7 u1_215 u0_215) (olN (olN ol n7) ((n7N n7) - 1)) (n7N ((n7N n7) - 1)) ++ wT cC t9 tx ln po ki rp tg nu) (wr := []) S hz (c_L_told l D (sz := H.size) (cI := cI) (cR := cR) (cC := cC) (x9 := x9) (q := q) (st := (updF st r x4 y5)) (h9 := h9) (ad := u1_215) (sv := va_up (va_up sv (slN ol n7) st) (slN (olN ol n7) ((n7N n7) - 1)) st) (ol := olN (olN ol n7) ((n7N n7) - 1)) (n7 := n7N ((n7N n7) - 1)) (n8 := u0_215) (t9 := t9) (tx := tx) (ln := ln) (po := po) (ki := ki) (rp := rp) (tg := tg) (nu := nu) (hh := hh)) (va_cwS 1 hts gL_law_L_told rfl rfl rfl (by decide +kernel) ⟨Nat.le_of_ble_eq_true rfl, Nat.le_of_ble_eq_true rfl⟩) hw hA [0, 1, 2, 3, 4, 5, 6, 7, 8, 9, 10, 11] [] [0, 1, 2] rfl rfl (k0 := 12) rfl (by decide) rfl rfl hl.1 (Nat.le_of_ble_eq_true rfl) ⟨(show ((cells + 7) + 7) + 0 ≤ room_1.cells by omega), (show ((slots + 5790) + 5790) + 0 ≤ room_1.slots by omega)⟩ rfl dL_law_222 (fun r_222 u_222 H locs e_222 hw => ?_)
      obtain ⟨⟩ := u_222
      have hw : Wd D A [(cI, .int), (cR, .object RX1), (cC, .char)] (([(x9, .inr (3, [.ref (q 0), .ref (h9 0), .ref (t9 0)]))] : va_W) ++ wS cI q (updF st r x4 y5) ++ wR cR h9 (fr7 u1_215 u0_215) (olN (olN ol n7) ((n7N n7) - 1)) (n7N ((n7N n7) - 1)) ++ wT cC t9 tx ln po ki rp tg nu ++ wP cI u1_215 (va_up (va_up sv (slN ol n7) st) (slN (olN ol n7) ((n7N n7) - 1)) st) u0_215) s s.heap H locs := hw
      have e_222 : r_222 = toldV (updF st r x4 y5) := e_222
      refine r_topV hx (congrArg Value.long e_222) ?_
      refine lv_lload hx hb dL_law_225 (lv_at hl 0 rfl) ?_
      refine r_lcmpE hx hb (show toldV (updF st r x4 y5) = toldV (updF st r x4 y5) from rfl) dL_law_227 ?_
      refine lv_if_ne (tgt := 235) hx hb dL_law_228 (by decide) (fun h => absurd h (by decide)) (fun _ => ?_)
      refine lv_iconst (v := nI 1) hx hb dL_law_231 kc_iconst_1 ?_
      refine lv_goto (tgt := 236) hx hb dL_law_232 (by decide) ?_
      refine lv_istore_n (lv' := [(2, .int (nI 1)), (11, .long (toldV (updF st r x4 y5))), (9, .long (toldV st)), (8, .int (nI 0)), (7, .int (nI t)), (6, .int (nI r)), (5, .int y5), (4, .int x4), (0, .ref b), (1, .ref x9), (3, .int (nI turn))]) hx hb dL_law_236 rfl hl (by decide) rfl (fun ls hl => ?_)
      have hl : lv_has ls 13 [(0, .ref b), (1, .ref x9), (2, .int (nI 1)), (3, .int (nI turn)), (5, .int y5), (6, .int (nI r)), (7, .int (nI t))] := lv_sub hl [8, 9, 0, 10, 6, 5, 4] rfl
      refine W.widen (k := cells + 34) (n := slots + 24000) (by omega) (by omega) ?_
      exact kk y5 r t hr4 ht4 hne H locs ls ⟨(updF st r x4 y5), u1_215, (va_up (va_up sv (slN ol n7) st) (slN (olN ol n7) ((n7N n7) - 1)) st), (olN (olN ol n7) ((n7N n7) - 1)), (n7N ((n7N n7) - 1)), u0_215, tx, ln, po, ki, rp, tg, nu, hw, hh, Iv_updF x4 y5 hr4 (by omega) hiv⟩ hl
  ·
    refine lv_iconst (v := nI 1) hx hb dL_law_100 kc_iconst_1 ?_
    refine lv_goto (tgt := 105) hx hb dL_law_101 (by decide) ?_
    refine lv_istore (lv' := [(8, .int (nI 1)), (7, .int (nI t)), (6, .int (nI r)), (5, .int y5), (4, .int x4), (0, .ref b), (1, .ref x9), (2, .int (nI 1)), (3, .int (nI turn))]) hx hb dL_law_105 hl (by decide) rfl (fun ls hl => ?_)
    refine lv_aload_n hx hb dL_law_107 rfl (lv_at hl 6 rfl) ?_
    refine cps_l (w1 := fun (u9 : Unit) => ([(x9, .inr (3, [.ref (q 0), .ref (h9 0), .ref (t9 0)]))] : va_W) ++ wS cI q st ++ wR cR h9 (fr7 ad n8) ol n7 ++ wT cC t9 tx ln po ki rp tg nu) (pl := fun (u9 : Unit) => wP cI ad sv n8) (As := [.ref x9]) (rest := []) (wc := ([(x9, .inr (3, [.ref (q 0), .ref (h9 0), .ref (t9 0)]))] : va_W) ++ wS cI q st ++ wR cR h9 (fr7 ad n8) ol n7 ++ wT cC t9 tx ln po ki rp tg nu) (wr := []) S hz (c_L_told l D (sz := H.size) (cI := cI) (cR := cR) (cC := cC) (x9 := x9) (q := q) (st := st) (h9 := h9) (ad := ad) (sv := sv) (ol := ol) (n7 := n7) (n8 := n8) (t9 := t9) (tx := tx) (ln := ln) (po := po) (ki := ki) (rp := rp) (tg := tg) (nu := nu) (hh := hh)) (va_cwS 1 hts gL_law_L_told rfl rfl rfl (by decide +kernel) ⟨Nat.le_of_ble_eq_true rfl, Nat.le_of_ble_eq_true rfl⟩) hw hA [0, 1, 2, 3, 4, 5, 6, 7, 8, 9, 10, 11] [] [0, 1, 2] rfl rfl (k0 := 12) rfl (by decide) rfl rfl hl.1 (Nat.le_of_ble_eq_true rfl) ⟨(show cells + 0 ≤ room_1.cells by omega), (show slots + 0 ≤ room_1.slots by omega)⟩ rfl dL_law_108 (fun r_108 u_108 H locs e_108 hw => ?_)
    obtain ⟨⟩ := u_108
    have hw : Wd D A [(cI, .int), (cR, .object RX1), (cC, .char)] (([(x9, .inr (3, [.ref (q 0), .ref (h9 0), .ref (t9 0)]))] : va_W) ++ wS cI q st ++ wR cR h9 (fr7 ad n8) ol n7 ++ wT cC t9 tx ln po ki rp tg nu ++ wP cI ad sv n8) s s.heap H locs := hw
    have e_108 : r_108 = toldV st := e_108
    refine r_topV hx (congrArg Value.long e_108) ?_
    refine lv_lstore (lv' := [(9, .long (toldV st)), (8, .int (nI 1)), (7, .int (nI t)), (6, .int (nI r)), (5, .int y5), (4, .int x4), (0, .ref b), (1, .ref x9), (2, .int (nI 1)), (3, .int (nI turn))]) hx hb dL_law_111 hl (by decide) rfl (fun ls hl => ?_)
    refine lv_iload hx hb dL_law_113 (lv_at hl 1 rfl) ?_
    refine lv_if_eq (tgt := 129) hx hb dL_law_115 (by decide) (fun h => absurd h (by decide)) (fun _ => ?_)
    refine lv_aload_n hx hb dL_law_118 rfl (lv_at hl 7 rfl) ?_
    refine lv_iload hx hb dL_law_119 (lv_at hl 3 rfl) ?_
    refine lv_iload hx hb dL_law_121 (lv_at hl 2 rfl) ?_
    refine cps_i (w1 := fun (u9 : Nat × (Nat → Nat → Nat)) => ([(x9, .inr (3, [.ref (q 0), .ref (h9 0), .ref (t9 0)]))] : va_W) ++ wS cI q (mgS (mgS st r t) r t) ++ wR cR h9 (fr7 u9.2 u9.1) (olN (olN ol n7) (n7N n7)) (n7N (n7N n7)) ++ wT cC t9 tx ln po ki rp tg nu) (pl := fun (u9 : Nat × (Nat → Nat → Nat)) => wP cI u9.2 (va_up (va_up sv (slN ol n7) st) (slN (olN ol n7) (n7N n7)) (mgS st r t)) u9.1) (As := [.ref x9, .int (nI r), .int (nI t)]) (rest := []) (wc := ([(x9, .inr (3, [.ref (q 0), .ref (h9 0), .ref (t9 0)]))] : va_W) ++ wS cI q st ++ wR cR h9 (fr7 ad n8) ol n7 ++ wT cC t9 tx ln po ki rp tg nu) (wr := []) S hz (c_L_merges l D (sz := H.size) (cI := cI) (cR := cR) (cC := cC) (x9 := x9) (q := q) (st := st) (h9 := h9) (ad := ad) (sv := sv) (ol := ol) (n7 := n7) (n8 := n8) (t9 := t9) (tx := tx) (ln := ln) (po := po) (ki := ki) (rp := rp) (tg := tg) (nu := nu) (B := B) (f := r) (t := t) (hh := hh) (hf4 := hr4) (ht4 := ht4) (hne := hne) (hiv := hiv) (hB := by omega)) (va_cwS 3 hts gL_law_L_merges rfl rfl rfl (by decide +kernel) ⟨Nat.le_of_ble_eq_true rfl, Nat.le_of_ble_eq_true rfl⟩) hw hA [0, 1, 2, 3, 4, 5, 6, 7, 8, 9, 10, 11] [] [0, 1, 2] rfl rfl (k0 := 12) rfl (by decide) rfl rfl hl.1 (Nat.le_of_ble_eq_true rfl) ⟨(show cells + 15 ≤ room_1.cells by omega), (show slots + 11584 ≤ room_1.slots by omega)⟩ rfl dL_law_123 (fun r_123 u_123 H locs e_123 hw => ?_)
    obtain ⟨u0_123, u1_123⟩ := u_123
    have hw : Wd D A [(cI, .int), (cR, .object RX1), (cC, .char)] (([(x9, .inr (3, [.ref (q 0), .ref (h9 0), .ref (t9 0)]))] : va_W) ++ wS cI q (mgS (mgS st r t) r t) ++ wR cR h9 (fr7 u1_123 u0_123) (olN (olN ol n7) (n7N n7)) (n7N (n7N n7)) ++ wT cC t9 tx ln po ki rp tg nu ++ wP cI u1_123 (va_up (va_up sv (slN ol n7) st) (slN (olN ol n7) (n7N n7)) (mgS st r t)) u0_123) s s.heap H locs := hw
    obtain ⟨e_123, x_123⟩ := e_123
    have e_123 : r_123 = nI 1 := e_123
    refine r_topV hx (congrArg Value.int e_123) ?_
    have hh := x_123
    refine lv_goto (tgt := 139) hx hb dL_law_126 (by decide) ?_
    refine lv_istore_n (lv' := [(2, .int (nI 1)), (9, .long (toldV st)), (8, .int (nI 1)), (7, .int (nI t)), (6, .int (nI r)), (5, .int y5), (4, .int x4), (0, .ref b), (1, .ref x9), (3, .int (nI turn))]) hx hb dL_law_139 rfl hl (by decide) rfl (fun ls hl => ?_)
    refine lv_iload_n hx hb dL_law_140 rfl (lv_at hl 0 rfl) ?_
    refine lv_if_eq (tgt := 237) hx hb dL_law_141 (by decide) (fun h => absurd h (by decide)) (fun _ => ?_)
    refine lv_iload hx hb dL_law_144 (lv_at hl 6 rfl) ?_
    refine lv_bipush (v := nI 10) hx hb dL_law_146 kc_bipush_10 ?_
    refine lv_ishr hx hb dL_law_148 ?_
    refine lv_iconst (v := nI 3) hx hb dL_law_149 kc_iconst_3 ?_
    refine lv_iand hx hb dL_law_150 ?_
    refine lv_if_ne (tgt := 237) hx hb dL_law_151 (by decide) (fun c_151 => ?_) (fun c_151 => ?_)
    ·
      have hl : lv_has ls 13 [(0, .ref b), (1, .ref x9), (2, .int (nI 1)), (3, .int (nI turn)), (5, .int y5), (6, .int (nI r)), (7, .int (nI t))] := lv_sub hl [7, 8, 0, 9, 5, 4, 3] rfl
      refine W.widen (k := cells + 34) (n := slots + 24000) (by omega) (by omega) ?_
      exact kk y5 r t hr4 ht4 hne H locs ls ⟨(mgS (mgS st r t) r t), u1_123, (va_up (va_up sv (slN ol n7) st) (slN (olN ol n7) (n7N n7)) (mgS st r t)), (olN (olN ol n7) (n7N n7)), (n7N (n7N n7)), u0_123, tx, ln, po, ki, rp, tg, nu, hw, hh, Iv_up1 (Iv_mg (by omega) hr4 ht4 hne (Iv_mg (by omega) hr4 ht4 hne hiv))⟩ hl
    ·
      refine lv_aload_n hx hb dL_law_154 rfl (lv_at hl 8 rfl) ?_
      refine cps_l (w1 := fun (u9 : Unit) => ([(x9, .inr (3, [.ref (q 0), .ref (h9 0), .ref (t9 0)]))] : va_W) ++ wS cI q (mgS (mgS st r t) r t) ++ wR cR h9 (fr7 u1_123 u0_123) (olN (olN ol n7) (n7N n7)) (n7N (n7N n7)) ++ wT cC t9 tx ln po ki rp tg nu) (pl := fun (u9 : Unit) => wP cI u1_123 (va_up (va_up sv (slN ol n7) st) (slN (olN ol n7) (n7N n7)) (mgS st r t)) u0_123) (As := [.ref x9]) (rest := []) (wc := ([(x9, .inr (3, [.ref (q 0), .ref (h9 0), .ref (t9 0)]))] : va_W) ++ wS cI q (mgS (mgS st r t) r t) ++ wR cR h9 (fr7 u1_123 u0_123) (olN (olN ol n7) (n7N n7)) (n7N (n7N n7)) ++ wT cC t9 tx ln po ki rp tg nu) (wr := []) S hz (c_L_told l D (sz := H.size) (cI := cI) (cR := cR) (cC := cC) (x9 := x9) (q := q) (st := (mgS (mgS st r t) r t)) (h9 := h9) (ad := u1_123) (sv := va_up (va_up sv (slN ol n7) st) (slN (olN ol n7) (n7N n7)) (mgS st r t)) (ol := olN (olN ol n7) (n7N n7)) (n7 := n7N (n7N n7)) (n8 := u0_123) (t9 := t9) (tx := tx) (ln := ln) (po := po) (ki := ki) (rp := rp) (tg := tg) (nu := nu) (hh := hh)) (va_cwS 1 hts gL_law_L_told rfl rfl rfl (by decide +kernel) ⟨Nat.le_of_ble_eq_true rfl, Nat.le_of_ble_eq_true rfl⟩) hw hA [0, 1, 2, 3, 4, 5, 6, 7, 8, 9, 10, 11] [] [0, 1, 2] rfl rfl (k0 := 12) rfl (by decide) rfl rfl hl.1 (Nat.le_of_ble_eq_true rfl) ⟨(show (cells + 15) + 0 ≤ room_1.cells by omega), (show (slots + 11584) + 0 ≤ room_1.slots by omega)⟩ rfl dL_law_155 (fun r_155 u_155 H locs e_155 hw => ?_)
      obtain ⟨⟩ := u_155
      have hw : Wd D A [(cI, .int), (cR, .object RX1), (cC, .char)] (([(x9, .inr (3, [.ref (q 0), .ref (h9 0), .ref (t9 0)]))] : va_W) ++ wS cI q (mgS (mgS st r t) r t) ++ wR cR h9 (fr7 u1_123 u0_123) (olN (olN ol n7) (n7N n7)) (n7N (n7N n7)) ++ wT cC t9 tx ln po ki rp tg nu ++ wP cI u1_123 (va_up (va_up sv (slN ol n7) st) (slN (olN ol n7) (n7N n7)) (mgS st r t)) u0_123) s s.heap H locs := hw
      have e_155 : r_155 = toldV (mgS (mgS st r t) r t) := e_155
      refine r_topV hx (congrArg Value.long e_155) ?_
      refine lv_lstore (lv' := [(11, .long (toldV (mgS (mgS st r t) r t))), (2, .int (nI 1)), (9, .long (toldV st)), (8, .int (nI 1)), (7, .int (nI t)), (6, .int (nI r)), (5, .int y5), (4, .int x4), (0, .ref b), (1, .ref x9), (3, .int (nI turn))]) hx hb dL_law_158 hl (by decide) rfl (fun ls hl => ?_)
      refine lv_aload_n hx hb dL_law_160 rfl (lv_at hl 9 rfl) ?_
      refine cpx_i (w1 := fun (u9 : Unit) => ([(x9, .inr (3, [.ref (q 0), .ref (h9 0), .ref (t9 0)]))] : va_W) ++ wS cI q (if (n7N (n7N n7)) = 0 then (mgS (mgS st r t) r t) else (va_up (va_up sv (slN ol n7) st) (slN (olN ol n7) (n7N n7)) (mgS st r t)) (((olN (olN ol n7) (n7N n7)) + ((n7N (n7N n7)) - 1)) % 6)) ++ wR cR h9 (fr7 u1_123 u0_123) (olN (olN ol n7) (n7N n7)) ((n7N (n7N n7)) - 1) ++ wT cC t9 tx ln po ki rp tg nu) (pl := fun (u9 : Unit) => wP cI u1_123 (va_up (va_up sv (slN ol n7) st) (slN (olN ol n7) (n7N n7)) (mgS st r t)) u0_123) (As := []) (rest := []) (wc := ([(x9, .inr (3, [.ref (q 0), .ref (h9 0), .ref (t9 0)]))] : va_W) ++ wS cI q (mgS (mgS st r t) r t) ++ wR cR h9 (fr7 u1_123 u0_123) (olN (olN ol n7) (n7N n7)) (n7N (n7N n7)) ++ wT cC t9 tx ln po ki rp tg nu) (wr := []) S hz (c_X3_undo l D (sz := H.size) (cI := cI) (cR := cR) (cC := cC) (x9 := x9) (q := q) (st := (mgS (mgS st r t) r t)) (h9 := h9) (ad := u1_123) (sv := (va_up (va_up sv (slN ol n7) st) (slN (olN ol n7) (n7N n7)) (mgS st r t))) (ol := (olN (olN ol n7) (n7N n7))) (n7 := (n7N (n7N n7))) (n8 := u0_123) (t9 := t9) (tx := tx) (ln := ln) (po := po) (ki := ki) (rp := rp) (tg := tg) (nu := nu) (hh := hh) (h0n := by omega)) (cwV 0 hts gL_law_X3_undo rfl rfl rfl (by decide +kernel) ⟨Nat.le_of_ble_eq_true rfl, Nat.le_of_ble_eq_true rfl⟩) hw hA [0, 1, 2, 3, 4, 5, 6, 7, 8, 9, 10, 11] [] [0, 1, 2] rfl rfl (k0 := 12) rfl (by decide) rfl 0 rfl rfl rfl hl.1 (Nat.le_of_ble_eq_true rfl) ⟨(show (cells + 15) + 0 ≤ room_1.cells by omega), (show (slots + 11584) + 0 ≤ room_1.slots by omega)⟩ rfl dL_law_161 (fun r_161 u_161 H locs e_161 hw => ?_)
      obtain ⟨⟩ := u_161
      have hw : Wd D A [(cI, .int), (cR, .object RX1), (cC, .char)] (([(x9, .inr (3, [.ref (q 0), .ref (h9 0), .ref (t9 0)]))] : va_W) ++ wS cI q (if (n7N (n7N n7)) = 0 then (mgS (mgS st r t) r t) else (va_up (va_up sv (slN ol n7) st) (slN (olN ol n7) (n7N n7)) (mgS st r t)) (((olN (olN ol n7) (n7N n7)) + ((n7N (n7N n7)) - 1)) % 6)) ++ wR cR h9 (fr7 u1_123 u0_123) (olN (olN ol n7) (n7N n7)) ((n7N (n7N n7)) - 1) ++ wT cC t9 tx ln po ki rp tg nu ++ wP cI u1_123 (va_up (va_up sv (slN ol n7) st) (slN (olN ol n7) (n7N n7)) (mgS st r t)) u0_123) s s.heap H locs := hw
      have e_161 : r_161 = nI ((n7N (n7N n7)) - 1) := e_161
      refine r_topV hx (congrArg Value.int e_161) ?_
      have hw : Wd D A [(cI, .int), (cR, .object RX1), (cC, .char)] (([(x9, .inr (3, [.ref (q 0), .ref (h9 0), .ref (t9 0)]))] : va_W) ++ wS cI q (mgS st r t) ++ wR cR h9 (fr7 u1_123 u0_123) (olN (olN ol n7) (n7N n7)) ((n7N (n7N n7)) - 1) ++ wT cC t9 tx ln po ki rp tg nu ++ wP cI u1_123 (va_up (va_up sv (slN ol n7) st) (slN (olN ol n7) (n7N n7)) (mgS st r t)) u0_123) s s.heap H locs := Eq.mp (congrArg (fun z9 => Wd D A [(cI, .int), (cR, .object RX1), (cC, .char)] (([(x9, .inr (3, [.ref (q 0), .ref (h9 0), .ref (t9 0)]))] : va_W) ++ wS cI q z9 ++ wR cR h9 (fr7 u1_123 u0_123) (olN (olN ol n7) (n7N n7)) ((n7N (n7N n7)) - 1) ++ wT cC t9 tx ln po ki rp tg nu ++ wP cI u1_123 (va_up (va_up sv (slN ol n7) st) (slN (olN ol n7) (n7N n7)) (mgS st r t)) u0_123) s s.heap H locs) (show (if (n7N (n7N n7)) = 0 then (mgS (mgS st r t) r t) else (va_up (va_up sv (slN ol n7) st) (slN (olN ol n7) (n7N n7)) (mgS st r t)) (((olN (olN ol n7) (n7N n7)) + ((n7N (n7N n7)) - 1)) % 6)) = mgS st r t from Hn_get (hn2 st (mgS st r t)) (by omega) _)) hw
      have hh := hI_le hh (Nat.sub_le _ 1)
      refine lv_if_lt (tgt := 235) hx hb dL_law_164 (by decide) (fun h => absurd h (nI_pos (by omega))) (fun _ => ?_)
      refine lv_iload hx hb dL_law_167 (lv_at hl 3 rfl) ?_
      refine lv_if_eq (tgt := 179) hx hb dL_law_169 (by decide) (fun h => absurd h (by decide)) (fun _ => ?_)
      refine lv_aload_n hx hb dL_law_172 rfl (lv_at hl 9 rfl) ?_
      refine cpx_i (w1 := fun (u9 : Unit) => ([(x9, .inr (3, [.ref (q 0), .ref (h9 0), .ref (t9 0)]))] : va_W) ++ wS cI q (if ((n7N (n7N n7)) - 1) = 0 then (mgS st r t) else (va_up (va_up sv (slN ol n7) st) (slN (olN ol n7) (n7N n7)) (mgS st r t)) (((olN (olN ol n7) (n7N n7)) + (((n7N (n7N n7)) - 1) - 1)) % 6)) ++ wR cR h9 (fr7 u1_123 u0_123) (olN (olN ol n7) (n7N n7)) (((n7N (n7N n7)) - 1) - 1) ++ wT cC t9 tx ln po ki rp tg nu) (pl := fun (u9 : Unit) => wP cI u1_123 (va_up (va_up sv (slN ol n7) st) (slN (olN ol n7) (n7N n7)) (mgS st r t)) u0_123) (As := []) (rest := []) (wc := ([(x9, .inr (3, [.ref (q 0), .ref (h9 0), .ref (t9 0)]))] : va_W) ++ wS cI q (mgS st r t) ++ wR cR h9 (fr7 u1_123 u0_123) (olN (olN ol n7) (n7N n7)) ((n7N (n7N n7)) - 1) ++ wT cC t9 tx ln po ki rp tg nu) (wr := []) S hz (c_X3_undo l D (sz := H.size) (cI := cI) (cR := cR) (cC := cC) (x9 := x9) (q := q) (st := (mgS st r t)) (h9 := h9) (ad := u1_123) (sv := (va_up (va_up sv (slN ol n7) st) (slN (olN ol n7) (n7N n7)) (mgS st r t))) (ol := (olN (olN ol n7) (n7N n7))) (n7 := (n7N (n7N n7)) - 1) (n8 := u0_123) (t9 := t9) (tx := tx) (ln := ln) (po := po) (ki := ki) (rp := rp) (tg := tg) (nu := nu) (hh := hh) (h0n := by omega)) (cwV 0 hts gL_law_X3_undo rfl rfl rfl (by decide +kernel) ⟨Nat.le_of_ble_eq_true rfl, Nat.le_of_ble_eq_true rfl⟩) hw hA [0, 1, 2, 3, 4, 5, 6, 7, 8, 9, 10, 11] [] [0, 1, 2] rfl rfl (k0 := 12) rfl (by decide) rfl 0 rfl rfl rfl hl.1 (Nat.le_of_ble_eq_true rfl) ⟨(show (cells + 15) + 0 ≤ room_1.cells by omega), (show (slots + 11584) + 0 ≤ room_1.slots by omega)⟩ rfl dL_law_173 (fun r_173 u_173 H locs e_173 hw => ?_)
      obtain ⟨⟩ := u_173
      have hw : Wd D A [(cI, .int), (cR, .object RX1), (cC, .char)] (([(x9, .inr (3, [.ref (q 0), .ref (h9 0), .ref (t9 0)]))] : va_W) ++ wS cI q (if ((n7N (n7N n7)) - 1) = 0 then (mgS st r t) else (va_up (va_up sv (slN ol n7) st) (slN (olN ol n7) (n7N n7)) (mgS st r t)) (((olN (olN ol n7) (n7N n7)) + (((n7N (n7N n7)) - 1) - 1)) % 6)) ++ wR cR h9 (fr7 u1_123 u0_123) (olN (olN ol n7) (n7N n7)) (((n7N (n7N n7)) - 1) - 1) ++ wT cC t9 tx ln po ki rp tg nu ++ wP cI u1_123 (va_up (va_up sv (slN ol n7) st) (slN (olN ol n7) (n7N n7)) (mgS st r t)) u0_123) s s.heap H locs := hw
      have e_173 : r_173 = nI (((n7N (n7N n7)) - 1) - 1) := e_173
      refine r_topV hx (congrArg Value.int e_173) ?_
      have hw : Wd D A [(cI, .int), (cR, .object RX1), (cC, .char)] (([(x9, .inr (3, [.ref (q 0), .ref (h9 0), .ref (t9 0)]))] : va_W) ++ wS cI q st ++ wR cR h9 (fr7 u1_123 u0_123) (olN (olN ol n7) (n7N n7)) (((n7N (n7N n7)) - 1) - 1) ++ wT cC t9 tx ln po ki rp tg nu ++ wP cI u1_123 (va_up (va_up sv (slN ol n7) st) (slN (olN ol n7) (n7N n7)) (mgS st r t)) u0_123) s s.heap H locs := Eq.mp (congrArg (fun z9 => Wd D A [(cI, .int), (cR, .object RX1), (cC, .char)] (([(x9, .inr (3, [.ref (q 0), .ref (h9 0), .ref (t9 0)]))] : va_W) ++ wS cI q z9 ++ wR cR h9 (fr7 u1_123 u0_123) (olN (olN ol n7) (n7N n7)) (((n7N (n7N n7)) - 1) - 1) ++ wT cC t9 tx ln po ki rp tg nu ++ wP cI u1_123 (va_up (va_up sv (slN ol n7) st) (slN (olN ol n7) (n7N n7)) (mgS st r t)) u0_123) s s.heap H locs) (show (if ((n7N (n7N n7)) - 1) = 0 then (mgS st r t) else (va_up (va_up sv (slN ol n7) st) (slN (olN ol n7) (n7N n7)) (mgS st r t)) (((olN (olN ol n7) (n7N n7)) + (((n7N (n7N n7)) - 1) - 1)) % 6)) = st from Hn_get (Hn_undo (hn2 st (mgS st r t))) (by omega) _)) hw
      have hh := hI_le hh (Nat.sub_le _ 1)
      refine lv_if_lt (tgt := 235) hx hb dL_law_176 (by decide) (fun h => absurd h (nI_pos (by omega))) (fun _ => ?_)
      refine lv_aload_n hx hb dL_law_179 rfl (lv_at hl 9 rfl) ?_
      refine cps_l (w1 := fun (u9 : Unit) => ([(x9, .inr (3, [.ref (q 0), .ref (h9 0), .ref (t9 0)]))] : va_W) ++ wS cI q st ++ wR cR h9 (fr7 u1_123 u0_123) (olN (olN ol n7) (n7N n7)) (((n7N (n7N n7)) - 1) - 1) ++ wT cC t9 tx ln po ki rp tg nu) (pl := fun (u9 : Unit) => wP cI u1_123 (va_up (va_up sv (slN ol n7) st) (slN (olN ol n7) (n7N n7)) (mgS st r t)) u0_123) (As := [.ref x9]) (rest := []) (wc := ([(x9, .inr (3, [.ref (q 0), .ref (h9 0), .ref (t9 0)]))] : va_W) ++ wS cI q st ++ wR cR h9 (fr7 u1_123 u0_123) (olN (olN ol n7) (n7N n7)) (((n7N (n7N n7)) - 1) - 1) ++ wT cC t9 tx ln po ki rp tg nu) (wr := []) S hz (c_L_told l D (sz := H.size) (cI := cI) (cR := cR) (cC := cC) (x9 := x9) (q := q) (st := st) (h9 := h9) (ad := u1_123) (sv := (va_up (va_up sv (slN ol n7) st) (slN (olN ol n7) (n7N n7)) (mgS st r t))) (ol := (olN (olN ol n7) (n7N n7))) (n7 := ((n7N (n7N n7)) - 1) - 1) (n8 := u0_123) (t9 := t9) (tx := tx) (ln := ln) (po := po) (ki := ki) (rp := rp) (tg := tg) (nu := nu) (hh := hh)) (va_cwS 1 hts gL_law_L_told rfl rfl rfl (by decide +kernel) ⟨Nat.le_of_ble_eq_true rfl, Nat.le_of_ble_eq_true rfl⟩) hw hA [0, 1, 2, 3, 4, 5, 6, 7, 8, 9, 10, 11] [] [0, 1, 2] rfl rfl (k0 := 12) rfl (by decide) rfl rfl hl.1 (Nat.le_of_ble_eq_true rfl) ⟨(show (cells + 15) + 0 ≤ room_1.cells by omega), (show (slots + 11584) + 0 ≤ room_1.slots by omega)⟩ rfl dL_law_180 (fun r_180 u_180 H locs e_180 hw => ?_)
      obtain ⟨⟩ := u_180
      have hw : Wd D A [(cI, .int), (cR, .object RX1), (cC, .char)] (([(x9, .inr (3, [.ref (q 0), .ref (h9 0), .ref (t9 0)]))] : va_W) ++ wS cI q st ++ wR cR h9 (fr7 u1_123 u0_123) (olN (olN ol n7) (n7N n7)) (((n7N (n7N n7)) - 1) - 1) ++ wT cC t9 tx ln po ki rp tg nu ++ wP cI u1_123 (va_up (va_up sv (slN ol n7) st) (slN (olN ol n7) (n7N n7)) (mgS st r t)) u0_123) s s.heap H locs := hw
      have e_180 : r_180 = toldV st := e_180
      refine r_topV hx (congrArg Value.long e_180) ?_
      refine lv_lload hx hb dL_law_183 (lv_at hl 2 rfl) ?_
      refine r_lcmpE hx hb (show toldV st = toldV st from rfl) dL_law_185 ?_
      refine lv_if_ne (tgt := 235) hx hb dL_law_186 (by decide) (fun h => absurd h (by decide)) (fun _ => ?_)
      refine lv_iload hx hb dL_law_189 (lv_at hl 3 rfl) ?_
      refine lv_if_eq (tgt := 208) hx hb dL_law_191 (by decide) (fun h => absurd h (by decide)) (fun _ => ?_)
      refine lv_aload_n hx hb dL_law_194 rfl (lv_at hl 9 rfl) ?_
      refine lv_iload hx hb dL_law_195 (lv_at hl 5 rfl) ?_
      refine lv_iload hx hb dL_law_197 (lv_at hl 4 rfl) ?_
      refine cps_i (w1 := fun (u9 : Nat × (Nat → Nat → Nat)) => ([(x9, .inr (3, [.ref (q 0), .ref (h9 0), .ref (t9 0)]))] : va_W) ++ wS cI q (mgS (mgS st r t) r t) ++ wR cR h9 (fr7 u9.2 u9.1) (olN (olN (olN (olN ol n7) (n7N n7)) (((n7N (n7N n7)) - 1) - 1)) (n7N (((n7N (n7N n7)) - 1) - 1))) (n7N (n7N (((n7N (n7N n7)) - 1) - 1))) ++ wT cC t9 tx ln po ki rp tg nu) (pl := fun (u9 : Nat × (Nat → Nat → Nat)) => wP cI u9.2 (va_up (va_up (va_up (va_up sv (slN ol n7) st) (slN (olN ol n7) (n7N n7)) (mgS st r t)) (slN (olN (olN ol n7) (n7N n7)) (((n7N (n7N n7)) - 1) - 1)) st) (slN (olN (olN (olN ol n7) (n7N n7)) (((n7N (n7N n7)) - 1) - 1)) (n7N (((n7N (n7N n7)) - 1) - 1))) (mgS st r t)) u9.1) (As := [.ref x9, .int (nI r), .int (nI t)]) (rest := []) (wc := ([(x9, .inr (3, [.ref (q 0), .ref (h9 0), .ref (t9 0)]))] : va_W) ++ wS cI q st ++ wR cR h9 (fr7 u1_123 u0_123) (olN (olN ol n7) (n7N n7)) (((n7N (n7N n7)) - 1) - 1) ++ wT cC t9 tx ln po ki rp tg nu) (wr := []) S hz (c_L_merges l D (sz := H.size) (cI := cI) (cR := cR) (cC := cC) (x9 := x9) (q := q) (st := st) (h9 := h9) (ad := u1_123) (sv := (va_up (va_up sv (slN ol n7) st) (slN (olN ol n7) (n7N n7)) (mgS st r t))) (ol := (olN (olN ol n7) (n7N n7))) (n7 := (((n7N (n7N n7)) - 1) - 1)) (n8 := u0_123) (t9 := t9) (tx := tx) (ln := ln) (po := po) (ki := ki) (rp := rp) (tg := tg) (nu := nu) (B := B) (f := r) (t := t) (hh := hh) (hf4 := hr4) (ht4 := ht4) (hne := hne) (hiv := hiv) (hB := by omega)) (va_cwS 3 hts gL_law_L_merges rfl rfl rfl (by decide +kernel) ⟨Nat.le_of_ble_eq_true rfl, Nat.le_of_ble_eq_true rfl⟩) hw hA [0, 1, 2, 3, 4, 5, 6, 7, 8, 9, 10, 11] [] [0, 1, 2] rfl rfl (k0 := 12) rfl (by decide) rfl rfl hl.1 (Nat.le_of_ble_eq_true rfl) ⟨(show (cells + 15) + 15 ≤ room_1.cells by omega), (show (slots + 11584) + 11584 ≤ room_1.slots by omega)⟩ rfl dL_law_199 (fun r_199 u_199 H locs e_199 hw => ?_)
      obtain ⟨u0_199, u1_199⟩ := u_199
      have hw : Wd D A [(cI, .int), (cR, .object RX1), (cC, .char)] (([(x9, .inr (3, [.ref (q 0), .ref (h9 0), .ref (t9 0)]))] : va_W) ++ wS cI q (mgS (mgS st r t) r t) ++ wR cR h9 (fr7 u1_199 u0_199) (olN (olN (olN (olN ol n7) (n7N n7)) (((n7N (n7N n7)) - 1) - 1)) (n7N (((n7N (n7N n7)) - 1) - 1))) (n7N (n7N (((n7N (n7N n7)) - 1) - 1))) ++ wT cC t9 tx ln po ki rp tg nu ++ wP cI u1_199 (va_up (va_up (va_up (va_up sv (slN ol n7) st) (slN (olN ol n7) (n7N n7)) (mgS st r t)) (slN (olN (olN ol n7) (n7N n7)) (((n7N (n7N n7)) - 1) - 1)) st) (slN (olN (olN (olN ol n7) (n7N n7)) (((n7N (n7N n7)) - 1) - 1)) (n7N (((n7N (n7N n7)) - 1) - 1))) (mgS st r t)) u0_199) s s.heap H locs := hw
      obtain ⟨e_199, x_199⟩ := e_199
      have e_199 : r_199 = nI 1 := e_199
      refine r_topV hx (congrArg Value.int e_199) ?_
      have hh := x_199
      refine lv_if_eq (tgt := 235) hx hb dL_law_202 (by decide) (fun h => absurd h (by decide)) (fun _ => ?_)
      refine lv_goto (tgt := 221) hx hb dL_law_205 (by decide) ?_
      refine lv_aload_n hx hb dL_law_221 rfl (lv_at hl 9 rfl) ?_
      refine cps_l (w1 := fun (u9 : Unit) => ([(x9, .inr (3, [.ref (q 0), .ref (h9 0), .ref (t9 0)]))] : va_W) ++ wS cI q (mgS (mgS st r t) r t) ++ wR cR h9 (fr7 u1_199 u0_199) (olN (olN (olN (olN ol n7) (n7N n7)) (((n7N (n7N n7)) - 1) - 1)) (n7N (((n7N (n7N n7)) - 1) - 1))) (n7N (n7N (((n7N (n7N n7)) - 1) - 1))) ++ wT cC t9 tx ln po ki rp tg nu) (pl := fun (u9 : Unit) => wP cI u1_199 (va_up (va_up (va_up (va_up sv (slN ol n7) st) (slN (olN ol n7) (n7N n7)) (mgS st r t)) (slN (olN (olN ol n7) (n7N n7)) (((n7N (n7N n7)) - 1) - 1)) st) (slN (olN (olN (olN ol n7) (n7N n7)) (((n7N (n7N n7)) - 1) - 1)) (n7N (((n7N (n7N n7)) - 1) - 1))) (mgS st r t)) u0_199) (As := [.ref x9]) (rest := []) (wc := ([(x9, .inr (3, [.ref (q 0), .ref (h9 0), .ref (t9 0)]))] : va_W) ++ wS cI q (mgS (mgS st r t) r t) ++ wR cR h9 (fr7 u1_199 u0_199) (olN (olN (olN (olN ol n7) (n7N n7)) (((n7N (n7N n7)) - 1) - 1)) (n7N (((n7N (n7N n7)) - 1) - 1))) (n7N (n7N (((n7N (n7N n7)) - 1) - 1))) ++ wT cC t9 tx ln po ki rp tg nu) (wr := []) S hz (c_L_told l D (sz := H.size) (cI := cI) (cR := cR) (cC := cC) (x9 := x9) (q := q) (st := (mgS (mgS st r t) r t)) (h9 := h9) (ad := u1_199) (sv := va_up (va_up (va_up (va_up sv (slN ol n7) st) (slN (olN ol n7) (n7N n7)) (mgS st r t)) (slN (olN (olN ol n7) (n7N n7)) (((n7N (n7N n7)) - 1) - 1)) st) (slN (olN (olN (olN ol n7) (n7N n7)) (((n7N (n7N n7)) - 1) - 1)) (n7N (((n7N (n7N n7)) - 1) - 1))) (mgS st r t)) (ol := olN (olN (olN (olN ol n7) (n7N n7)) (((n7N (n7N n7)) - 1) - 1)) (n7N (((n7N (n7N n7)) - 1) - 1))) (n7 := n7N (n7N (((n7N (n7N n7)) - 1) - 1))) (n8 := u0_199) (t9 := t9) (tx := tx) (ln := ln) (po := po) (ki := ki) (rp := rp) (tg := tg) (nu := nu) (hh := hh)) (va_cwS 1 hts gL_law_L_told rfl rfl rfl (by decide +kernel) ⟨Nat.le_of_ble_eq_true rfl, Nat.le_of_ble_eq_true rfl⟩) hw hA [0, 1, 2, 3, 4, 5, 6, 7, 8, 9, 10, 11] [] [0, 1, 2] rfl rfl (k0 := 12) rfl (by decide) rfl rfl hl.1 (Nat.le_of_ble_eq_true rfl) ⟨(show ((cells + 15) + 15) + 0 ≤ room_1.cells by omega), (show ((slots + 11584) + 11584) + 0 ≤ room_1.slots by omega)⟩ rfl dL_law_222 (fun r_222 u_222 H locs e_222 hw => ?_)
      obtain ⟨⟩ := u_222
      have hw : Wd D A [(cI, .int), (cR, .object RX1), (cC, .char)] (([(x9, .inr (3, [.ref (q 0), .ref (h9 0), .ref (t9 0)]))] : va_W) ++ wS cI q (mgS (mgS st r t) r t) ++ wR cR h9 (fr7 u1_199 u0_199) (olN (olN (olN (olN ol n7) (n7N n7)) (((n7N (n7N n7)) - 1) - 1)) (n7N (((n7N (n7N n7)) - 1) - 1))) (n7N (n7N (((n7N (n7N n7)) - 1) - 1))) ++ wT cC t9 tx ln po ki rp tg nu ++ wP cI u1_199 (va_up (va_up (va_up (va_up sv (slN ol n7) st) (slN (olN ol n7) (n7N n7)) (mgS st r t)) (slN (olN (olN ol n7) (n7N n7)) (((n7N (n7N n7)) - 1) - 1)) st) (slN (olN (olN (olN ol n7) (n7N n7)) (((n7N (n7N n7)) - 1) - 1)) (n7N (((n7N (n7N n7)) - 1) - 1))) (mgS st r t)) u0_199) s s.heap H locs := hw
      have e_222 : r_222 = toldV (mgS (mgS st r t) r t) := e_222
      refine r_topV hx (congrArg Value.long e_222) ?_
      refine lv_lload hx hb dL_law_225 (lv_at hl 0 rfl) ?_
      refine r_lcmpE hx hb (show toldV (mgS (mgS st r t) r t) = toldV (mgS (mgS st r t) r t) from rfl) dL_law_227 ?_
      refine lv_if_ne (tgt := 235) hx hb dL_law_228 (by decide) (fun h => absurd h (by decide)) (fun _ => ?_)
      refine lv_iconst (v := nI 1) hx hb dL_law_231 kc_iconst_1 ?_
      refine lv_goto (tgt := 236) hx hb dL_law_232 (by decide) ?_
      refine lv_istore_n (lv' := [(2, .int (nI 1)), (11, .long (toldV (mgS (mgS st r t) r t))), (9, .long (toldV st)), (8, .int (nI 1)), (7, .int (nI t)), (6, .int (nI r)), (5, .int y5), (4, .int x4), (0, .ref b), (1, .ref x9), (3, .int (nI turn))]) hx hb dL_law_236 rfl hl (by decide) rfl (fun ls hl => ?_)
      have hl : lv_has ls 13 [(0, .ref b), (1, .ref x9), (2, .int (nI 1)), (3, .int (nI turn)), (5, .int y5), (6, .int (nI r)), (7, .int (nI t))] := lv_sub hl [8, 9, 0, 10, 6, 5, 4] rfl
      refine W.widen (k := cells + 34) (n := slots + 24000) (by omega) (by omega) ?_
      exact kk y5 r t hr4 ht4 hne H locs ls ⟨(mgS (mgS st r t) r t), u1_199, (va_up (va_up (va_up (va_up sv (slN ol n7) st) (slN (olN ol n7) (n7N n7)) (mgS st r t)) (slN (olN (olN ol n7) (n7N n7)) (((n7N (n7N n7)) - 1) - 1)) st) (slN (olN (olN (olN ol n7) (n7N n7)) (((n7N (n7N n7)) - 1) - 1)) (n7N (((n7N (n7N n7)) - 1) - 1))) (mgS st r t)), (olN (olN (olN (olN ol n7) (n7N n7)) (((n7N (n7N n7)) - 1) - 1)) (n7N (((n7N (n7N n7)) - 1) - 1))), (n7N (n7N (((n7N (n7N n7)) - 1) - 1))), u0_199, tx, ln, po, ki, rp, tg, nu, hw, hh, Iv_up1 (Iv_mg (by omega) hr4 ht4 hne (Iv_mg (by omega) hr4 ht4 hne hiv))⟩ hl
set_option maxHeartbeats 8000000 in
set_option maxRecDepth 100000 in
theorem law_mid {p : Program} {l : Launch} {e : Env} {s : State} {m : MethodId} {args : Array Value} {below : List Frame} {meth : Method} {c : Code} {Q : State → Prop} {D : va_G} {A : Nat → Prop} {b L : Nat} {xs : Nat → Int32} {cells slots : Nat} {cI cR cC : ClassId} {x9 : Nat} {q h9 t9 : Nat → Nat} {B turn : Nat} {y5 : Int32} {r t : Nat} (hr4 : r < 4) (ht4 : t < 4) (hne : r ≠ t) (F : LF p s m c args A b L xs) (hturn : turn < 40) (hB : B + 100 < 2 ^ 31) (hR : cells + 45 ≤ room_1.cells ∧ slots + 35000 ≤ room_1.slots) {H : Heap} {locs : List Loc} (hW : LW D A s cI cR cC x9 q h9 t9 B H locs) {ls : Array Slot} (hl : lv_has ls 13 [(0, .ref b), (1, .ref x9), (2, .int (nI 1)), (3, .int (nI turn)), (5, .int y5), (6, .int (nI r)), (7, .int (nI t))]) (kk : ∀ (H : Heap) (locs : List Loc) (ls : Array Slot), LW D A s cI cR cC x9 q h9 t9 B H locs → lv_has ls 13 [(0, .ref b), (1, .ref x9), (2, .int (nI 1)), (3, .int (nI turn))] → W p l e room_1 s m args below meth c H locs (cells + 45) (slots + 35000) Q (F0 m 281 ls [])) : W p l e room_1 s m args below meth c H locs cells slots Q (F0 m 237 ls []) := by
  obtain ⟨st, ad, sv, ol, n7, n8, tx, ln, po, ki, rp, tg, nu, hw, hh, hiv⟩ := hW
  obtain ⟨S, hz, hA, hX, hbl, hbA, hL⟩ := id F
  obtain ⟨hx, hb, hml, hown, hts⟩ := id S
  have h6 : n7 ≤ 6 := Nat.le_trans hh.2.1 hh.2.2.1
  have h61 := n7N_le h6
  have h62 := n7N_le h61
  have h2 : 1 < n7N (n7N n7) := n7N_2 n7 (by omega)
  have h1 := n7N_p n7
  have ho := hh.1
  have hn1 := fun x => Hn_sv ho h6 (Hn_rf sv ol n7) x
  have hn2 := fun x y => Hn_sv (olN_lt n7 ho) h61 (hn1 x) y
  refine lv_iload_n hx hb dL_law_237 rfl (lv_at hl 2 rfl) ?_
  refine lv_if_eq (tgt := 279) hx hb dL_law_238 (by decide) (fun h => absurd h (by decide)) (fun _ => ?_)
  refine lv_aload_n hx hb dL_law_241 rfl (lv_at hl 1 rfl) ?_
  refine cps_i (w1 := fun (u9 : Unit) => ([(x9, .inr (3, [.ref (q 0), .ref (h9 0), .ref (t9 0)]))] : va_W) ++ wS cI q st ++ wR cR h9 (fr7 ad n8) ol n7 ++ wT cC t9 tx ln po ki rp tg nu) (pl := fun (u9 : Unit) => wP cI ad sv n8) (As := [.ref x9]) (rest := []) (wc := ([(x9, .inr (3, [.ref (q 0), .ref (h9 0), .ref (t9 0)]))] : va_W) ++ wS cI q st ++ wR cR h9 (fr7 ad n8) ol n7 ++ wT cC t9 tx ln po ki rp tg nu) (wr := []) S hz (c_L_holds l D (sz := H.size) (cI := cI) (cR := cR) (cC := cC) (x9 := x9) (q := q) (st := st) (h9 := h9) (ad := ad) (sv := sv) (ol := ol) (n7 := n7) (n8 := n8) (t9 := t9) (tx := tx) (ln := ln) (po := po) (ki := ki) (rp := rp) (tg := tg) (nu := nu) (B := B) (hh := hh) (hiv := hiv) (hB := by omega)) (va_cwS 1 hts gL_law_L_holds rfl rfl rfl (by decide +kernel) ⟨Nat.le_of_ble_eq_true rfl, Nat.le_of_ble_eq_true rfl⟩) hw hA [0, 1, 2, 3, 4, 5, 6, 7, 8, 9, 10, 11] [] [0, 1, 2] rfl rfl (k0 := 12) rfl (by decide) rfl rfl hl.1 (Nat.le_of_ble_eq_true rfl) ⟨(show cells + 0 ≤ room_1.cells by omega), (show slots + 0 ≤ room_1.slots by omega)⟩ rfl dL_law_242 (fun r_242 u_242 H locs e_242 hw => ?_)
  obtain ⟨⟩ := u_242
  have hw : Wd D A [(cI, .int), (cR, .object RX1), (cC, .char)] (([(x9, .inr (3, [.ref (q 0), .ref (h9 0), .ref (t9 0)]))] : va_W) ++ wS cI q st ++ wR cR h9 (fr7 ad n8) ol n7 ++ wT cC t9 tx ln po ki rp tg nu ++ wP cI ad sv n8) s s.heap H locs := hw
  have e_242 : r_242 = nI 1 := e_242
  refine r_topV hx (congrArg Value.int e_242) ?_
  refine lv_if_eq (tgt := 279) hx hb dL_law_245 (by decide) (fun h => absurd h (by decide)) (fun _ => ?_)
  refine lv_iload_n hx hb dL_law_248 rfl (lv_at hl 3 rfl) ?_
  refine lv_iconst (v := nI 5) hx hb dL_law_249 kc_iconst_5 ?_
  refine r_remN hx hb (by omega) (by omega) (by omega) dL_law_250 ?_
  refine lv_iconst (v := nI 3) hx hb dL_law_251 kc_iconst_3 ?_
  refine r_icmp_neN (tgt := 275) hx hb (by omega) (by omega) dL_law_252 (by decide) (fun c_252 => ?_) (fun c_252 => ?_)
  ·
    refine lv_iconst (v := nI 1) hx hb dL_law_275 kc_iconst_1 ?_
    refine lv_goto (tgt := 280) hx hb dL_law_276 (by decide) ?_
    refine lv_istore_n (lv' := [(2, .int (nI 1)), (0, .ref b), (1, .ref x9), (3, .int (nI turn)), (5, .int y5), (6, .int (nI r)), (7, .int (nI t))]) hx hb dL_law_280 rfl hl (by decide) rfl (fun ls hl => ?_)
    have hl : lv_has ls 13 [(0, .ref b), (1, .ref x9), (2, .int (nI 1)), (3, .int (nI turn))] := lv_sub hl [1, 2, 0, 3] rfl
    refine W.widen (k := cells + 45) (n := slots + 35000) (by omega) (by omega) ?_
    exact kk H locs ls ⟨st, ad, sv, ol, n7, n8, tx, ln, po, ki, rp, tg, nu, hw, hh, hiv⟩ hl
  ·
    refine lv_aload_n hx hb dL_law_255 rfl (lv_at hl 1 rfl) ?_
    refine lv_iload hx hb dL_law_256 (lv_at hl 5 rfl) ?_
    refine lv_iload hx hb dL_law_258 (lv_at hl 6 rfl) ?_
    refine lv_iload hx hb dL_law_260 (lv_at hl 4 rfl) ?_
    refine lv_iconst (v := nI 3) hx hb dL_law_262 kc_iconst_3 ?_
    refine lv_ishr hx hb dL_law_263 ?_
    refine lv_bipush (v := nI 16) hx hb dL_law_264 kc_bipush_16 ?_
    refine cq_S (As := [.int (y5 >>> ((nI 3) &&& 31)), .int (nI 16)]) (rest := [.int (nI t), .int (nI r), .ref x9]) S (c_L_up l D (v := y5 >>> ((nI 3) &&& 31)) (n := 16) (hn0 := by decide) (hn1 := by decide)) (va_cwS 2 hts gL_law_L_up rfl rfl rfl (by decide +kernel) ⟨Nat.le_of_ble_eq_true rfl, Nat.le_of_ble_eq_true rfl⟩) (hw.q.sub [] [] rfl rfl) rfl hl.1 (Nat.le_of_ble_eq_true rfl) ⟨(show cells ≤ room_1.cells by omega), (show slots ≤ room_1.slots by omega)⟩ rfl dL_law_266 (fun r_266 e_266 => ?_)
    have e_266 : r_266 = nI (uvN (y5 >>> ((nI 3) &&& 31)) 16) := e_266
    refine r_topV hx (congrArg Value.int e_266) ?_
    refine cps_i (w1 := fun (u9 : Nat × (Nat → Nat → Nat) × (Nat → St) × Nat) => ([(x9, .inr (3, [.ref (q 0), .ref (h9 0), .ref (t9 0)]))] : va_W) ++ wS cI q st ++ wR cR h9 (fr7 u9.2.1 u9.1) u9.2.2.2 0 ++ wT cC t9 tx ln po ki rp tg nu) (pl := fun (u9 : Nat × (Nat → Nat → Nat) × (Nat → St) × Nat) => wP cI u9.2.1 u9.2.2.1 u9.1) (As := [.ref x9, .int (nI r), .int (nI t), .int (nI (uvN (y5 >>> ((nI 3) &&& 31)) 16))]) (rest := []) (wc := ([(x9, .inr (3, [.ref (q 0), .ref (h9 0), .ref (t9 0)]))] : va_W) ++ wS cI q st ++ wR cR h9 (fr7 ad n8) ol n7 ++ wT cC t9 tx ln po ki rp tg nu) (wr := []) S hz (c_L_isKept l D (sz := H.size) (cI := cI) (cR := cR) (cC := cC) (x9 := x9) (q := q) (st := st) (h9 := h9) (ad := ad) (sv := sv) (ol := ol) (n7 := n7) (n8 := n8) (t9 := t9) (tx := tx) (ln := ln) (po := po) (ki := ki) (rp := rp) (tg := tg) (nu := nu) (B := B) (r := r) (q9 := t) (e9 := uvN (y5 >>> ((nI 3) &&& 31)) 16) (hh := hh) (hr := hr4) (hq := ht4) (hne := hne) (he := uvN_lt _ (by decide)) (hiv := hiv) (hB := by omega)) (va_cwS 4 hts gL_law_L_isKept rfl rfl rfl (by decide +kernel) ⟨Nat.le_of_ble_eq_true rfl, Nat.le_of_ble_eq_true rfl⟩) hw hA [0, 1, 2, 3, 4, 5, 6, 7, 8, 9, 10, 11] [] [0, 1, 2] rfl rfl (k0 := 12) rfl (by decide) rfl rfl hl.1 (Nat.le_of_ble_eq_true rfl) ⟨(show cells + 42 ≤ room_1.cells by omega), (show slots + 34740 ≤ room_1.slots by omega)⟩ rfl dL_law_269 (fun r_269 u_269 H locs e_269 hw => ?_)
    obtain ⟨u0_269, u1_269, u2_269, u3_269⟩ := u_269
    have hw : Wd D A [(cI, .int), (cR, .object RX1), (cC, .char)] (([(x9, .inr (3, [.ref (q 0), .ref (h9 0), .ref (t9 0)]))] : va_W) ++ wS cI q st ++ wR cR h9 (fr7 u1_269 u0_269) u3_269 0 ++ wT cC t9 tx ln po ki rp tg nu ++ wP cI u1_269 u2_269 u0_269) s s.heap H locs := hw
    obtain ⟨e_269, x_269⟩ := e_269
    have e_269 : r_269 = nI 1 := e_269
    refine r_topV hx (congrArg Value.int e_269) ?_
    have hh := x_269
    refine lv_if_eq (tgt := 279) hx hb dL_law_272 (by decide) (fun h => absurd h (by decide)) (fun _ => ?_)
    refine lv_iconst (v := nI 1) hx hb dL_law_275 kc_iconst_1 ?_
    refine lv_goto (tgt := 280) hx hb dL_law_276 (by decide) ?_
    refine lv_istore_n (lv' := [(2, .int (nI 1)), (0, .ref b), (1, .ref x9), (3, .int (nI turn)), (5, .int y5), (6, .int (nI r)), (7, .int (nI t))]) hx hb dL_law_280 rfl hl (by decide) rfl (fun ls hl => ?_)
    have hl : lv_has ls 13 [(0, .ref b), (1, .ref x9), (2, .int (nI 1)), (3, .int (nI turn))] := lv_sub hl [1, 2, 0, 3] rfl
    refine W.widen (k := cells + 45) (n := slots + 35000) (by omega) (by omega) ?_
    exact kk H locs ls ⟨st, u1_269, u2_269, u3_269, 0, u0_269, tx, ln, po, ki, rp, tg, nu, hw, hh, hiv⟩ hl
set_option maxHeartbeats 8000000 in
set_option maxRecDepth 100000 in
theorem law_end {p : Program} {l : Launch} {e : Env} {s : State} {m : MethodId} {args : Array Value} {below : List Frame} {meth : Method} {c : Code} {Q : State → Prop} {D : va_G} {A : Nat → Prop} {b L : Nat} {xs : Nat → Int32} {cells slots : Nat} {cI cR cC : ClassId} {x9 : Nat} {q h9 t9 : Nat → Nat} {B turn : Nat}  (F : LF p s m c args A b L xs) (hturn : turn < 40) (hB : B + 100 < 2 ^ 31) (hR : cells + 14 ≤ room_1.cells ∧ slots + 11600 ≤ room_1.slots) {H : Heap} {locs : List Loc} (hW : LW D A s cI cR cC x9 q h9 t9 B H locs) {ls : Array Slot} (hl : lv_has ls 13 [(0, .ref b), (1, .ref x9), (2, .int (nI 1)), (3, .int (nI turn))]) (kk : ∀ (H : Heap) (locs : List Loc) (ls : Array Slot), LW D A s cI cR cC x9 q h9 t9 B H locs → lv_has ls 13 [(0, .ref b), (1, .ref x9), (2, .int (nI 1)), (3, .int (nI turn))] → W p l e room_1 s m args below meth c H locs (cells + 14) (slots + 11600) Q (F0 m 355 ls [])) : W p l e room_1 s m args below meth c H locs cells slots Q (F0 m 281 ls []) := by
  obtain ⟨st, ad, sv, ol, n7, n8, tx, ln, po, ki, rp, tg, nu, hw, hh, hiv⟩ := hW
  obtain ⟨S, hz, hA, hX, hbl, hbA, hL⟩ := id F
  obtain ⟨hx, hb, hml, hown, hts⟩ := id S
  have h6 : n7 ≤ 6 := Nat.le_trans hh.2.1 hh.2.2.1
  have h61 := n7N_le h6
  have h62 := n7N_le h61
  have h2 : 1 < n7N (n7N n7) := n7N_2 n7 (by omega)
  have h1 := n7N_p n7
  have ho := hh.1
  have hn1 := fun x => Hn_sv ho h6 (Hn_rf sv ol n7) x
  have hn2 := fun x y => Hn_sv (olN_lt n7 ho) h61 (hn1 x) y
  refine lv_iload_n hx hb dL_law_281 rfl (lv_at hl 2 rfl) ?_
  refine lv_if_eq (tgt := 355) hx hb dL_law_282 (by decide) (fun h => absurd h (by decide)) (fun _ => ?_)
  refine lv_iload_n hx hb dL_law_285 rfl (lv_at hl 3 rfl) ?_
  refine lv_bipush (v := nI 13) hx hb dL_law_286 kc_bipush_13 ?_
  refine r_remN hx hb (by omega) (by omega) (by omega) dL_law_288 ?_
  refine lv_bipush (v := nI 11) hx hb dL_law_289 kc_bipush_11 ?_
  refine r_icmp_neN (tgt := 355) hx hb (by omega) (by omega) dL_law_291 (by decide) (fun c_291 => ?_) (fun c_291 => ?_)
  ·
    have hl : lv_has ls 13 [(0, .ref b), (1, .ref x9), (2, .int (nI 1)), (3, .int (nI turn))] := lv_sub hl [0, 1, 2, 3] rfl
    refine W.widen (k := cells + 14) (n := slots + 11600) (by omega) (by omega) ?_
    exact kk H locs ls ⟨st, ad, sv, ol, n7, n8, tx, ln, po, ki, rp, tg, nu, hw, hh, hiv⟩ hl
  ·
    refine lv_aload_n hx hb dL_law_294 rfl (lv_at hl 1 rfl) ?_
    refine cpx_i (w1 := fun (u9 : Nat × (Nat → Nat → Nat)) => ([(x9, .inr (3, [.ref (q 0), .ref (h9 0), .ref (t9 0)]))] : va_W) ++ wS cI q ((maAll st).1) ++ wR cR h9 (fr7 u9.2 u9.1) (olN ol n7) (n7N n7) ++ wT cC t9 tx ln po ki rp tg nu) (pl := fun (u9 : Nat × (Nat → Nat → Nat)) => wP cI u9.2 (va_up sv (slN ol n7) st) u9.1) (As := []) (rest := []) (wc := ([(x9, .inr (3, [.ref (q 0), .ref (h9 0), .ref (t9 0)]))] : va_W) ++ wS cI q st ++ wR cR h9 (fr7 ad n8) ol n7 ++ wT cC t9 tx ln po ki rp tg nu) (wr := []) S hz (c_X3_mergeAll l D (sz := H.size) (cI := cI) (cR := cR) (cC := cC) (x9 := x9) (q := q) (st := st) (h9 := h9) (ad := ad) (sv := sv) (ol := ol) (n7 := n7) (n8 := n8) (t9 := t9) (tx := tx) (ln := ln) (po := po) (ki := ki) (rp := rp) (tg := tg) (nu := nu) (hh := hh)) (cwV 0 hts gL_law_X3_mergeAll rfl rfl rfl (by decide +kernel) ⟨Nat.le_of_ble_eq_true rfl, Nat.le_of_ble_eq_true rfl⟩) hw hA [0, 1, 2, 3, 4, 5, 6, 7, 8, 9, 10, 11] [] [0, 1, 2] rfl rfl (k0 := 12) rfl (by decide) rfl 0 rfl rfl rfl hl.1 (Nat.le_of_ble_eq_true rfl) ⟨(show cells + 7 ≤ room_1.cells by omega), (show slots + 5790 ≤ room_1.slots by omega)⟩ rfl dL_law_295 (fun r_295 u_295 H locs e_295 hw => ?_)
    obtain ⟨u0_295, u1_295⟩ := u_295
    have hw : Wd D A [(cI, .int), (cR, .object RX1), (cC, .char)] (([(x9, .inr (3, [.ref (q 0), .ref (h9 0), .ref (t9 0)]))] : va_W) ++ wS cI q ((maAll st).1) ++ wR cR h9 (fr7 u1_295 u0_295) (olN ol n7) (n7N n7) ++ wT cC t9 tx ln po ki rp tg nu ++ wP cI u1_295 (va_up sv (slN ol n7) st) u0_295) s s.heap H locs := hw
    obtain ⟨e_295, x_295⟩ := e_295
    have e_295 : r_295 = nI ((maAll st).2) := e_295
    refine r_topV hx (congrArg Value.int e_295) ?_
    have hh := x_295
    refine lv_if_lt (tgt := 353) hx hb dL_law_298 (by decide) (fun h => absurd h (nI_pos (Nat.lt_of_le_of_lt (ma_le _) (by decide)))) (fun _ => ?_)
    refine lv_aload_n hx hb dL_law_301 rfl (lv_at hl 1 rfl) ?_
    refine cpx_d (w1 := fun (u9 : Unit) => ([(x9, .inr (3, [.ref (q 0), .ref (h9 0), .ref (t9 0)]))] : va_W) ++ wS cI q ((maAll st).1) ++ wR cR h9 (fr7 u1_295 u0_295) (olN ol n7) (n7N n7) ++ wT cC t9 tx ln po ki rp tg nu) (pl := fun (u9 : Unit) => wP cI u1_295 (va_up sv (slN ol n7) st) u0_295) (As := []) (rest := []) (wc := ([(x9, .inr (3, [.ref (q 0), .ref (h9 0), .ref (t9 0)]))] : va_W) ++ wS cI q ((maAll st).1) ++ wR cR h9 (fr7 u1_295 u0_295) (olN ol n7) (n7N n7) ++ wT cC t9 tx ln po ki rp tg nu) (wr := []) S hz (c_X3_agreement l D (sz := H.size) (cI := cI) (cR := cR) (cC := cC) (x9 := x9) (q := q) (st := ((maAll st).1)) (h9 := h9) (ad := u1_295) (sv := va_up sv (slN ol n7) st) (ol := olN ol n7) (n7 := n7N n7) (n8 := u0_295) (t9 := t9) (tx := tx) (ln := ln) (po := po) (ki := ki) (rp := rp) (tg := tg) (nu := nu) (hh := hh)) (cwV 0 hts gL_law_X3_agreement rfl rfl rfl (by decide +kernel) ⟨Nat.le_of_ble_eq_true rfl, Nat.le_of_ble_eq_true rfl⟩) hw hA [0, 1, 2, 3, 4, 5, 6, 7, 8, 9, 10, 11] [] [0, 1, 2] rfl rfl (k0 := 12) rfl (by decide) rfl 0 rfl rfl rfl hl.1 (Nat.le_of_ble_eq_true rfl) ⟨(show (cells + 7) + 0 ≤ room_1.cells by omega), (show (slots + 5790) + 0 ≤ room_1.slots by omega)⟩ rfl dL_law_302 (fun r_302 u_302 H locs e_302 hw => ?_)
    obtain ⟨⟩ := u_302
    have hw : Wd D A [(cI, .int), (cR, .object RX1), (cC, .char)] (([(x9, .inr (3, [.ref (q 0), .ref (h9 0), .ref (t9 0)]))] : va_W) ++ wS cI q ((maAll st).1) ++ wR cR h9 (fr7 u1_295 u0_295) (olN ol n7) (n7N n7) ++ wT cC t9 tx ln po ki rp tg nu ++ wP cI u1_295 (va_up sv (slN ol n7) st) u0_295) s s.heap H locs := hw
    have e_302 : r_302 = agF (agW ((maAll st).1) 6) := e_302
    refine r_topV hx (congrArg Value.double e_302) ?_
    refine lv_dconst1 hx hb dL_law_305 ?_
    refine lv_dcmp hx hb dL_law_306 ?_
    refine lv_if_ne (tgt := 353) hx hb dL_law_307 (by decide) (fun h => absurd (by rw [ag_all (by omega) (Iv_maAll (by omega) hiv) (ma_kn st)]; exact ag_1) h) (fun _ => ?_)
    refine lv_aload_n hx hb dL_law_310 rfl (lv_at hl 1 rfl) ?_
    refine cpx_i (w1 := fun (u9 : Nat × (Nat → Nat → Nat)) => ([(x9, .inr (3, [.ref (q 0), .ref (h9 0), .ref (t9 0)]))] : va_W) ++ wS cI q ((maAll ((maAll st).1)).1) ++ wR cR h9 (fr7 u9.2 u9.1) (olN (olN ol n7) (n7N n7)) (n7N (n7N n7)) ++ wT cC t9 tx ln po ki rp tg nu) (pl := fun (u9 : Nat × (Nat → Nat → Nat)) => wP cI u9.2 (va_up (va_up sv (slN ol n7) st) (slN (olN ol n7) (n7N n7)) ((maAll st).1)) u9.1) (As := []) (rest := []) (wc := ([(x9, .inr (3, [.ref (q 0), .ref (h9 0), .ref (t9 0)]))] : va_W) ++ wS cI q ((maAll st).1) ++ wR cR h9 (fr7 u1_295 u0_295) (olN ol n7) (n7N n7) ++ wT cC t9 tx ln po ki rp tg nu) (wr := []) S hz (c_X3_mergeAll l D (sz := H.size) (cI := cI) (cR := cR) (cC := cC) (x9 := x9) (q := q) (st := ((maAll st).1)) (h9 := h9) (ad := u1_295) (sv := (va_up sv (slN ol n7) st)) (ol := (olN ol n7)) (n7 := (n7N n7)) (n8 := u0_295) (t9 := t9) (tx := tx) (ln := ln) (po := po) (ki := ki) (rp := rp) (tg := tg) (nu := nu) (hh := hh)) (cwV 0 hts gL_law_X3_mergeAll rfl rfl rfl (by decide +kernel) ⟨Nat.le_of_ble_eq_true rfl, Nat.le_of_ble_eq_true rfl⟩) hw hA [0, 1, 2, 3, 4, 5, 6, 7, 8, 9, 10, 11] [] [0, 1, 2] rfl rfl (k0 := 12) rfl (by decide) rfl 0 rfl rfl rfl hl.1 (Nat.le_of_ble_eq_true rfl) ⟨(show (cells + 7) + 7 ≤ room_1.cells by omega), (show (slots + 5790) + 5790 ≤ room_1.slots by omega)⟩ rfl dL_law_311 (fun r_311 u_311 H locs e_311 hw => ?_)
    obtain ⟨u0_311, u1_311⟩ := u_311
    have hw : Wd D A [(cI, .int), (cR, .object RX1), (cC, .char)] (([(x9, .inr (3, [.ref (q 0), .ref (h9 0), .ref (t9 0)]))] : va_W) ++ wS cI q ((maAll ((maAll st).1)).1) ++ wR cR h9 (fr7 u1_311 u0_311) (olN (olN ol n7) (n7N n7)) (n7N (n7N n7)) ++ wT cC t9 tx ln po ki rp tg nu ++ wP cI u1_311 (va_up (va_up sv (slN ol n7) st) (slN (olN ol n7) (n7N n7)) ((maAll st).1)) u0_311) s s.heap H locs := hw
    obtain ⟨e_311, x_311⟩ := e_311
    have e_311 : r_311 = nI ((maAll ((maAll st).1)).2) := e_311
    refine r_topV hx (congrArg Value.int e_311) ?_
    have hh := x_311
    refine lv_if_ne (tgt := 353) hx hb dL_law_314 (by decide) (fun h => absurd ((congrArg nI (ma_zero (B := B) (by omega) (Iv_maAll (by omega) hiv) (ma_kn st))).trans nI_0) h) (fun _ => ?_)
    refine lv_aload_n hx hb dL_law_317 rfl (lv_at hl 1 rfl) ?_
    refine cpx_i (w1 := fun (u9 : Unit) => ([(x9, .inr (3, [.ref (q 0), .ref (h9 0), .ref (t9 0)]))] : va_W) ++ wS cI q (if (n7N (n7N n7)) = 0 then ((maAll ((maAll st).1)).1) else (va_up (va_up sv (slN ol n7) st) (slN (olN ol n7) (n7N n7)) ((maAll st).1)) (((olN (olN ol n7) (n7N n7)) + ((n7N (n7N n7)) - 1)) % 6)) ++ wR cR h9 (fr7 u1_311 u0_311) (olN (olN ol n7) (n7N n7)) ((n7N (n7N n7)) - 1) ++ wT cC t9 tx ln po ki rp tg nu) (pl := fun (u9 : Unit) => wP cI u1_311 (va_up (va_up sv (slN ol n7) st) (slN (olN ol n7) (n7N n7)) ((maAll st).1)) u0_311) (As := []) (rest := []) (wc := ([(x9, .inr (3, [.ref (q 0), .ref (h9 0), .ref (t9 0)]))] : va_W) ++ wS cI q ((maAll ((maAll st).1)).1) ++ wR cR h9 (fr7 u1_311 u0_311) (olN (olN ol n7) (n7N n7)) (n7N (n7N n7)) ++ wT cC t9 tx ln po ki rp tg nu) (wr := []) S hz (c_X3_undo l D (sz := H.size) (cI := cI) (cR := cR) (cC := cC) (x9 := x9) (q := q) (st := ((maAll ((maAll st).1)).1)) (h9 := h9) (ad := u1_311) (sv := va_up (va_up sv (slN ol n7) st) (slN (olN ol n7) (n7N n7)) ((maAll st).1)) (ol := olN (olN ol n7) (n7N n7)) (n7 := n7N (n7N n7)) (n8 := u0_311) (t9 := t9) (tx := tx) (ln := ln) (po := po) (ki := ki) (rp := rp) (tg := tg) (nu := nu) (hh := hh) (h0n := by omega)) (cwV 0 hts gL_law_X3_undo rfl rfl rfl (by decide +kernel) ⟨Nat.le_of_ble_eq_true rfl, Nat.le_of_ble_eq_true rfl⟩) hw hA [0, 1, 2, 3, 4, 5, 6, 7, 8, 9, 10, 11] [] [0, 1, 2] rfl rfl (k0 := 12) rfl (by decide) rfl 0 rfl rfl rfl hl.1 (Nat.le_of_ble_eq_true rfl) ⟨(show ((cells + 7) + 7) + 0 ≤ room_1.cells by omega), (show ((slots + 5790) + 5790) + 0 ≤ room_1.slots by omega)⟩ rfl dL_law_318 (fun r_318 u_318 H locs e_318 hw => ?_)
    obtain ⟨⟩ := u_318
    have hw : Wd D A [(cI, .int), (cR, .object RX1), (cC, .char)] (([(x9, .inr (3, [.ref (q 0), .ref (h9 0), .ref (t9 0)]))] : va_W) ++ wS cI q (if (n7N (n7N n7)) = 0 then ((maAll ((maAll st).1)).1) else (va_up (va_up sv (slN ol n7) st) (slN (olN ol n7) (n7N n7)) ((maAll st).1)) (((olN (olN ol n7) (n7N n7)) + ((n7N (n7N n7)) - 1)) % 6)) ++ wR cR h9 (fr7 u1_311 u0_311) (olN (olN ol n7) (n7N n7)) ((n7N (n7N n7)) - 1) ++ wT cC t9 tx ln po ki rp tg nu ++ wP cI u1_311 (va_up (va_up sv (slN ol n7) st) (slN (olN ol n7) (n7N n7)) ((maAll st).1)) u0_311) s s.heap H locs := hw
    have e_318 : r_318 = nI ((n7N (n7N n7)) - 1) := e_318
    refine r_topV hx (congrArg Value.int e_318) ?_
    have hw : Wd D A [(cI, .int), (cR, .object RX1), (cC, .char)] (([(x9, .inr (3, [.ref (q 0), .ref (h9 0), .ref (t9 0)]))] : va_W) ++ wS cI q ((maAll st).1) ++ wR cR h9 (fr7 u1_311 u0_311) (olN (olN ol n7) (n7N n7)) ((n7N (n7N n7)) - 1) ++ wT cC t9 tx ln po ki rp tg nu ++ wP cI u1_311 (va_up (va_up sv (slN ol n7) st) (slN (olN ol n7) (n7N n7)) ((maAll st).1)) u0_311) s s.heap H locs := Eq.mp (congrArg (fun z9 => Wd D A [(cI, .int), (cR, .object RX1), (cC, .char)] (([(x9, .inr (3, [.ref (q 0), .ref (h9 0), .ref (t9 0)]))] : va_W) ++ wS cI q z9 ++ wR cR h9 (fr7 u1_311 u0_311) (olN (olN ol n7) (n7N n7)) ((n7N (n7N n7)) - 1) ++ wT cC t9 tx ln po ki rp tg nu ++ wP cI u1_311 (va_up (va_up sv (slN ol n7) st) (slN (olN ol n7) (n7N n7)) ((maAll st).1)) u0_311) s s.heap H locs) (show (if (n7N (n7N n7)) = 0 then ((maAll ((maAll st).1)).1) else (va_up (va_up sv (slN ol n7) st) (slN (olN ol n7) (n7N n7)) ((maAll st).1)) (((olN (olN ol n7) (n7N n7)) + ((n7N (n7N n7)) - 1)) % 6)) = (maAll st).1 from Hn_get (hn2 st ((maAll st).1)) (by omega) _)) hw
    have hh := hI_le hh (Nat.sub_le _ 1)
    refine lv_if_lt (tgt := 353) hx hb dL_law_321 (by decide) (fun h => absurd h (nI_pos (by omega))) (fun _ => ?_)
    refine lv_aload_n hx hb dL_law_324 rfl (lv_at hl 1 rfl) ?_
    refine lv_iconst (v := nI 0) hx hb dL_law_325 kc_iconst_0 ?_
    refine lv_iconst (v := nI 3) hx hb dL_law_326 kc_iconst_3 ?_
    refine cpx_i (w1 := fun (u9 : Unit) => ([(x9, .inr (3, [.ref (q 0), .ref (h9 0), .ref (t9 0)]))] : va_W) ++ wS cI q ((maAll st).1) ++ wR cR h9 (fr7 u1_311 u0_311) (olN (olN ol n7) (n7N n7)) ((n7N (n7N n7)) - 1) ++ wT cC t9 tx ln po ki rp tg nu) (pl := fun (u9 : Unit) => wP cI u1_311 (va_up (va_up sv (slN ol n7) st) (slN (olN ol n7) (n7N n7)) ((maAll st).1)) u0_311) (As := [.int (nI 0), .int (nI 3)]) (rest := []) (wc := ([(x9, .inr (3, [.ref (q 0), .ref (h9 0), .ref (t9 0)]))] : va_W) ++ wS cI q ((maAll st).1) ++ wR cR h9 (fr7 u1_311 u0_311) (olN (olN ol n7) (n7N n7)) ((n7N (n7N n7)) - 1) ++ wT cC t9 tx ln po ki rp tg nu) (wr := []) S hz (c_X3_relation l D (sz := H.size) (cI := cI) (cR := cR) (cC := cC) (x9 := x9) (q := q) (st := ((maAll st).1)) (h9 := h9) (ad := u1_311) (sv := (va_up (va_up sv (slN ol n7) st) (slN (olN ol n7) (n7N n7)) ((maAll st).1))) (ol := (olN (olN ol n7) (n7N n7))) (n7 := (n7N (n7N n7)) - 1) (n8 := u0_311) (t9 := t9) (tx := tx) (ln := ln) (po := po) (ki := ki) (rp := rp) (tg := tg) (nu := nu) (a := 0) (b := 3) (hh := hh) (ha := by omega) (hb4 := by omega)) (cwV 2 hts gL_law_X3_relation rfl rfl rfl (by decide +kernel) ⟨Nat.le_of_ble_eq_true rfl, Nat.le_of_ble_eq_true rfl⟩) hw hA [0, 1, 2, 3, 4, 5, 6, 7, 8, 9, 10, 11] [] [0, 1, 2] rfl rfl (k0 := 12) rfl (by decide) rfl 0 rfl rfl rfl hl.1 (Nat.le_of_ble_eq_true rfl) ⟨(show ((cells + 7) + 7) + 0 ≤ room_1.cells by omega), (show ((slots + 5790) + 5790) + 0 ≤ room_1.slots by omega)⟩ rfl dL_law_327 (fun r_327 u_327 H locs e_327 hw => ?_)
    obtain ⟨⟩ := u_327
    have hw : Wd D A [(cI, .int), (cR, .object RX1), (cC, .char)] (([(x9, .inr (3, [.ref (q 0), .ref (h9 0), .ref (t9 0)]))] : va_W) ++ wS cI q ((maAll st).1) ++ wR cR h9 (fr7 u1_311 u0_311) (olN (olN ol n7) (n7N n7)) ((n7N (n7N n7)) - 1) ++ wT cC t9 tx ln po ki rp tg nu ++ wP cI u1_311 (va_up (va_up sv (slN ol n7) st) (slN (olN ol n7) (n7N n7)) ((maAll st).1)) u0_311) s s.heap H locs := hw
    have e_327 : r_327 = reS ((maAll st).1) 0 3 := e_327
    refine r_topV hx (congrArg Value.int e_327) ?_
    refine lv_if_ne (tgt := 353) hx hb dL_law_330 (by decide) (fun h => absurd (((re_0 _ 0 3).mpr ⟨ma_kn st 0 3 (by decide) (by decide), ma_kn st 3 0 (by decide) (by decide)⟩).trans nI_0) h) (fun _ => ?_)
    refine lv_aload_n hx hb dL_law_333 rfl (lv_at hl 1 rfl) ?_
    refine lv_iconst (v := nI 1) hx hb dL_law_334 kc_iconst_1 ?_
    refine lv_iconst (v := nI 2) hx hb dL_law_335 kc_iconst_2 ?_
    refine cpx_i (w1 := fun (u9 : Unit) => ([(x9, .inr (3, [.ref (q 0), .ref (h9 0), .ref (t9 0)]))] : va_W) ++ wS cI q ((maAll st).1) ++ wR cR h9 (fr7 u1_311 u0_311) (olN (olN ol n7) (n7N n7)) ((n7N (n7N n7)) - 1) ++ wT cC t9 tx ln po ki rp tg nu) (pl := fun (u9 : Unit) => wP cI u1_311 (va_up (va_up sv (slN ol n7) st) (slN (olN ol n7) (n7N n7)) ((maAll st).1)) u0_311) (As := [.int (nI 1), .int (nI 2)]) (rest := []) (wc := ([(x9, .inr (3, [.ref (q 0), .ref (h9 0), .ref (t9 0)]))] : va_W) ++ wS cI q ((maAll st).1) ++ wR cR h9 (fr7 u1_311 u0_311) (olN (olN ol n7) (n7N n7)) ((n7N (n7N n7)) - 1) ++ wT cC t9 tx ln po ki rp tg nu) (wr := []) S hz (c_X3_relation l D (sz := H.size) (cI := cI) (cR := cR) (cC := cC) (x9 := x9) (q := q) (st := ((maAll st).1)) (h9 := h9) (ad := u1_311) (sv := (va_up (va_up sv (slN ol n7) st) (slN (olN ol n7) (n7N n7)) ((maAll st).1))) (ol := (olN (olN ol n7) (n7N n7))) (n7 := ((n7N (n7N n7)) - 1)) (n8 := u0_311) (t9 := t9) (tx := tx) (ln := ln) (po := po) (ki := ki) (rp := rp) (tg := tg) (nu := nu) (a := 1) (b := 2) (hh := hh) (ha := by omega) (hb4 := by omega)) (cwV 2 hts gL_law_X3_relation rfl rfl rfl (by decide +kernel) ⟨Nat.le_of_ble_eq_true rfl, Nat.le_of_ble_eq_true rfl⟩) hw hA [0, 1, 2, 3, 4, 5, 6, 7, 8, 9, 10, 11] [] [0, 1, 2] rfl rfl (k0 := 12) rfl (by decide) rfl 0 rfl rfl rfl hl.1 (Nat.le_of_ble_eq_true rfl) ⟨(show ((cells + 7) + 7) + 0 ≤ room_1.cells by omega), (show ((slots + 5790) + 5790) + 0 ≤ room_1.slots by omega)⟩ rfl dL_law_336 (fun r_336 u_336 H locs e_336 hw => ?_)
    obtain ⟨⟩ := u_336
    have hw : Wd D A [(cI, .int), (cR, .object RX1), (cC, .char)] (([(x9, .inr (3, [.ref (q 0), .ref (h9 0), .ref (t9 0)]))] : va_W) ++ wS cI q ((maAll st).1) ++ wR cR h9 (fr7 u1_311 u0_311) (olN (olN ol n7) (n7N n7)) ((n7N (n7N n7)) - 1) ++ wT cC t9 tx ln po ki rp tg nu ++ wP cI u1_311 (va_up (va_up sv (slN ol n7) st) (slN (olN ol n7) (n7N n7)) ((maAll st).1)) u0_311) s s.heap H locs := hw
    have e_336 : r_336 = reS ((maAll st).1) 1 2 := e_336
    refine r_topV hx (congrArg Value.int e_336) ?_
    refine lv_if_ne (tgt := 353) hx hb dL_law_339 (by decide) (fun h => absurd (((re_0 _ 1 2).mpr ⟨ma_kn st 1 2 (by decide) (by decide), ma_kn st 2 1 (by decide) (by decide)⟩).trans nI_0) h) (fun _ => ?_)
    refine lv_aload_n hx hb dL_law_342 rfl (lv_at hl 1 rfl) ?_
    refine cpx_i (w1 := fun (u9 : Unit) => ([(x9, .inr (3, [.ref (q 0), .ref (h9 0), .ref (t9 0)]))] : va_W) ++ wS cI q (if ((n7N (n7N n7)) - 1) = 0 then ((maAll st).1) else (va_up (va_up sv (slN ol n7) st) (slN (olN ol n7) (n7N n7)) ((maAll st).1)) (((olN (olN ol n7) (n7N n7)) + (((n7N (n7N n7)) - 1) - 1)) % 6)) ++ wR cR h9 (fr7 u1_311 u0_311) (olN (olN ol n7) (n7N n7)) (((n7N (n7N n7)) - 1) - 1) ++ wT cC t9 tx ln po ki rp tg nu) (pl := fun (u9 : Unit) => wP cI u1_311 (va_up (va_up sv (slN ol n7) st) (slN (olN ol n7) (n7N n7)) ((maAll st).1)) u0_311) (As := []) (rest := []) (wc := ([(x9, .inr (3, [.ref (q 0), .ref (h9 0), .ref (t9 0)]))] : va_W) ++ wS cI q ((maAll st).1) ++ wR cR h9 (fr7 u1_311 u0_311) (olN (olN ol n7) (n7N n7)) ((n7N (n7N n7)) - 1) ++ wT cC t9 tx ln po ki rp tg nu) (wr := []) S hz (c_X3_undo l D (sz := H.size) (cI := cI) (cR := cR) (cC := cC) (x9 := x9) (q := q) (st := ((maAll st).1)) (h9 := h9) (ad := u1_311) (sv := (va_up (va_up sv (slN ol n7) st) (slN (olN ol n7) (n7N n7)) ((maAll st).1))) (ol := (olN (olN ol n7) (n7N n7))) (n7 := ((n7N (n7N n7)) - 1)) (n8 := u0_311) (t9 := t9) (tx := tx) (ln := ln) (po := po) (ki := ki) (rp := rp) (tg := tg) (nu := nu) (hh := hh) (h0n := by omega)) (cwV 0 hts gL_law_X3_undo rfl rfl rfl (by decide +kernel) ⟨Nat.le_of_ble_eq_true rfl, Nat.le_of_ble_eq_true rfl⟩) hw hA [0, 1, 2, 3, 4, 5, 6, 7, 8, 9, 10, 11] [] [0, 1, 2] rfl rfl (k0 := 12) rfl (by decide) rfl 0 rfl rfl rfl hl.1 (Nat.le_of_ble_eq_true rfl) ⟨(show ((cells + 7) + 7) + 0 ≤ room_1.cells by omega), (show ((slots + 5790) + 5790) + 0 ≤ room_1.slots by omega)⟩ rfl dL_law_343 (fun r_343 u_343 H locs e_343 hw => ?_)
    obtain ⟨⟩ := u_343
    have hw : Wd D A [(cI, .int), (cR, .object RX1), (cC, .char)] (([(x9, .inr (3, [.ref (q 0), .ref (h9 0), .ref (t9 0)]))] : va_W) ++ wS cI q (if ((n7N (n7N n7)) - 1) = 0 then ((maAll st).1) else (va_up (va_up sv (slN ol n7) st) (slN (olN ol n7) (n7N n7)) ((maAll st).1)) (((olN (olN ol n7) (n7N n7)) + (((n7N (n7N n7)) - 1) - 1)) % 6)) ++ wR cR h9 (fr7 u1_311 u0_311) (olN (olN ol n7) (n7N n7)) (((n7N (n7N n7)) - 1) - 1) ++ wT cC t9 tx ln po ki rp tg nu ++ wP cI u1_311 (va_up (va_up sv (slN ol n7) st) (slN (olN ol n7) (n7N n7)) ((maAll st).1)) u0_311) s s.heap H locs := hw
    have e_343 : r_343 = nI (((n7N (n7N n7)) - 1) - 1) := e_343
    refine r_topV hx (congrArg Value.int e_343) ?_
    have hw : Wd D A [(cI, .int), (cR, .object RX1), (cC, .char)] (([(x9, .inr (3, [.ref (q 0), .ref (h9 0), .ref (t9 0)]))] : va_W) ++ wS cI q st ++ wR cR h9 (fr7 u1_311 u0_311) (olN (olN ol n7) (n7N n7)) (((n7N (n7N n7)) - 1) - 1) ++ wT cC t9 tx ln po ki rp tg nu ++ wP cI u1_311 (va_up (va_up sv (slN ol n7) st) (slN (olN ol n7) (n7N n7)) ((maAll st).1)) u0_311) s s.heap H locs := Eq.mp (congrArg (fun z9 => Wd D A [(cI, .int), (cR, .object RX1), (cC, .char)] (([(x9, .inr (3, [.ref (q 0), .ref (h9 0), .ref (t9 0)]))] : va_W) ++ wS cI q z9 ++ wR cR h9 (fr7 u1_311 u0_311) (olN (olN ol n7) (n7N n7)) (((n7N (n7N n7)) - 1) - 1) ++ wT cC t9 tx ln po ki rp tg nu ++ wP cI u1_311 (va_up (va_up sv (slN ol n7) st) (slN (olN ol n7) (n7N n7)) ((maAll st).1)) u0_311) s s.heap H locs) (show (if ((n7N (n7N n7)) - 1) = 0 then ((maAll st).1) else (va_up (va_up sv (slN ol n7) st) (slN (olN ol n7) (n7N n7)) ((maAll st).1)) (((olN (olN ol n7) (n7N n7)) + (((n7N (n7N n7)) - 1) - 1)) % 6)) = st from Hn_get (Hn_undo (hn2 st ((maAll st).1))) (by omega) _)) hw
    have hh := hI_le hh (Nat.sub_le _ 1)
    refine lv_if_lt (tgt := 353) hx hb dL_law_346 (by decide) (fun h => absurd h (nI_pos (by omega))) (fun _ => ?_)
    refine lv_iconst (v := nI 1) hx hb dL_law_349 kc_iconst_1 ?_
    refine lv_goto (tgt := 354) hx hb dL_law_350 (by decide) ?_
    refine lv_istore_n (lv' := [(2, .int (nI 1)), (0, .ref b), (1, .ref x9), (3, .int (nI turn))]) hx hb dL_law_354 rfl hl (by decide) rfl (fun ls hl => ?_)
    have hl : lv_has ls 13 [(0, .ref b), (1, .ref x9), (2, .int (nI 1)), (3, .int (nI turn))] := lv_sub hl [1, 2, 0, 3] rfl
    refine W.widen (k := cells + 14) (n := slots + 11600) (by omega) (by omega) ?_
    exact kk H locs ls ⟨st, u1_311, (va_up (va_up sv (slN ol n7) st) (slN (olN ol n7) (n7N n7)) ((maAll st).1)), (olN (olN ol n7) (n7N n7)), ((n7N (n7N n7)) - 1) - 1, u0_311, tx, ln, po, ki, rp, tg, nu, hw, hh, hiv⟩ hl
