set_option maxHeartbeats 4000000 in
set_option maxRecDepth 100000 in
theorem law_merge_e1 {p : Program} {l : Launch} {e : Env} {s : State} {m : MethodId} {args : Array Value} {below : List Frame} {meth : Method} {c : Code} {Q : State → Prop} {D : va_G} {A : Nat → Prop} {b L : Nat} {xs : Nat → Int32} {cells slots : Nat} {cI cR cC cJ cD : ClassId} {x9 : Nat} {q h9 t9 : Nat → Nat} {o9 p9 : Nat} {m9 : Nat → Nat} {B k : Nat} (F : LF p l s m c args A b L xs) (hk5 : 5 * k + 5 ≤ L) (hB : B + 100 < 2 ^ 31) (hR : cells + 7 ≤ room_1.cells ∧ slots + 5790 ≤ room_1.slots) {st : St} {ad : Nat → Nat → Nat} {sv : Nat → St} {ol n7 n8 : Nat} {tx : Nat → Nat} {ln po : Nat} {ki rp tg nu : Int32} {fo : Nat → Int64} {fd : Nat → UInt64} {sa : Nat → Int32} {th : Int32} {po2 : Nat} {lt fi sc nu2 : Int32} {ad2 rv : Nat} {H : Heap} {locs : List Loc} (hw : Wd D A [(cI, .int), (cR, .object RX1), (cC, .char), (cJ, .long), (cD, .double)] ([(x9, .inr (3, [.ref (q 0), .ref (h9 0), .ref (t9 0)]))] ++ wS cI q st ++ wR cR h9 (fr7 ad n8) ol n7 ++ wT cC t9 tx ln po ki rp tg nu ++ [(o9, .inl (cJ, 1, .inr (.inl fo)))] ++ [(p9, .inl (cD, 1, .inr (.inr (.inr (.inl fd)))))] ++ wM cI m9 sa tx th n7 ln po2 lt fi sc nu2 ad2 rv ++ wP cI ad sv n8) s s.heap H locs) (hLV : LV st sv ol n7 n8 tx ln po sa po2 B) {ls : Array Slot} (hl : lv_has ls 10 [(0, .ref b), (1, .ref x9), (2, .ref (m9 0)), (3, .ref o9), (4, .ref p9), (5, .int (nI (5 * k)))]) {p0 p1 : Int32} (hv : ¬ (inP p0 (nI 0) (nI 3) ∧ inP p1 (nI 0) (nI 3))) (h1 : xs (5 * k + 1) = p0) (h2 : xs (5 * k + 2) = p1) (kk : ∀ (H : Heap) (locs : List Loc) (ls : Array Slot), LW D A s cI cR cC cJ cD x9 q h9 t9 o9 p9 m9 (B + 41) H locs → lv_has ls 10 [(0, .ref b), (1, .ref x9), (2, .ref (m9 0)), (3, .ref o9), (4, .ref p9), (5, .int (nI (5 * k)))] → W p l e room_1 s m args below meth c H locs (cells + 7) (slots + 5790) Q (F0 m 1875 ls [])) : W p l e room_1 s m args below meth c H locs cells slots Q (F0 m 576 ls []) := by
  obtain ⟨S, hz, hxe, hzq, hl9, hA, hX, hbl, hbA, hL⟩ := id F
  obtain ⟨hh, hRl, hHs, htx, hln, hpo, hpo2⟩ := id hLV
  have h6 : n7 ≤ 6 := Nat.le_trans hh.2.1 hh.2.2.1
  obtain ⟨hx, hb, hml, hown, hts⟩ := id S
  refine lv_aload_n hx hb dL_law_576 rfl (lv_at hl 1 rfl) ?_
  refine lv_aload_n hx hb dL_law_577 rfl (lv_at hl 0 rfl) ?_
  refine lv_iload hx hb dL_law_578 (lv_at hl 5 rfl) ?_
  refine lv_iconst (v := nI 1) hx hb dL_law_580 kc_iconst_1 ?_
  refine r_addN hx hb dL_law_581 ?_
  refine r_sld hx hb hX hbl hbA hL hw (i := (5 * k) + 1) (by omega) (v := p0) h1 dL_law_582 ?_
  refine lv_aload_n hx hb dL_law_583 rfl (lv_at hl 0 rfl) ?_
  refine lv_iload hx hb dL_law_584 (lv_at hl 5 rfl) ?_
  refine lv_iconst (v := nI 2) hx hb dL_law_586 kc_iconst_2 ?_
  refine r_addN hx hb dL_law_587 ?_
  refine r_sld hx hb hX hbl hbA hL hw (i := (5 * k) + 2) (by omega) (v := p1) h2 dL_law_588 ?_
  refine lv_aload_n hx hb dL_law_589 rfl (lv_at hl 3 rfl) ?_
  refine cpz_S (w1 := fun (u9 : Unit) => ([(x9, .inr (3, [.ref (q 0), .ref (h9 0), .ref (t9 0)]))] : va_W) ++ wS cI q st ++ wR cR h9 (fr7 ad n8) ol n7 ++ wT cC t9 tx ln po ki rp tg nu ++ ([(o9, .inl (cJ, 1, .inr (.inl fo)))] : va_W)) (pl := fun (u9 : Unit) => wP cI ad sv n8) (As := [.ref x9, .int p0, .int p1, .ref o9]) (rest := []) (wc := ([(x9, .inr (3, [.ref (q 0), .ref (h9 0), .ref (t9 0)]))] : va_W) ++ wS cI q st ++ wR cR h9 (fr7 ad n8) ol n7 ++ wT cC t9 tx ln po ki rp tg nu ++ ([(o9, .inl (cJ, 1, .inr (.inl fo)))] : va_W)) (wr := ([(p9, .inl (cD, 1, .inr (.inr (.inr (.inl fd)))))] : va_W) ++ wM cI m9 sa tx th n7 ln po2 lt fi sc nu2 ad2 rv) S hz hxe hzq (c_L_merge_e1 l D (hl9 := hl9) (sz := H.size) (cI := cI) (cR := cR) (cC := cC) (x9 := x9) (q := q) (st := st) (h9 := h9) (ad := ad) (sv := sv) (ol := ol) (n7 := n7) (n8 := n8) (t9 := t9) (tx := tx) (ln := ln) (po := po) (ki := ki) (rp := rp) (tg := tg) (nu := nu) (cJ := cJ) (o9 := o9) (fo := fo) (p0 := p0) (p1 := p1) (hh := hh) (hv := hv)) (vx_cwSW 4 hts gL_law_L_merge rfl rfl rfl (by decide +kernel) ⟨Nat.le_of_ble_eq_true rfl, Nat.le_of_ble_eq_true rfl⟩) hw hA [0, 1, 2, 3, 4, 5, 6, 7, 8, 9, 10, 11, 12] [13, 14, 15, 16] [0, 1, 2, 3] rfl rfl (k0 := 17) rfl (by decide) rfl rfl hl.1 (Nat.le_of_ble_eq_true rfl) ⟨(show cells + 1 ≤ room_1.cells by omega), (show slots + 6 ≤ room_1.slots by omega)⟩ rfl dL_law_590 (fun r_590 u_590 H locs e_590 hw => ?_)
  have hw : Wd D A [(cI, .int), (cR, .object RX1), (cC, .char), (cJ, .long), (cD, .double)] (([(x9, .inr (3, [.ref (q 0), .ref (h9 0), .ref (t9 0)]))] : va_W) ++ wS cI q st ++ wR cR h9 (fr7 ad n8) ol n7 ++ wT cC t9 tx ln po ki rp tg nu ++ ([(o9, .inl (cJ, 1, .inr (.inl fo)))] : va_W) ++ ([(p9, .inl (cD, 1, .inr (.inr (.inr (.inl fd)))))] : va_W) ++ wM cI m9 sa tx th n7 ln po2 lt fi sc nu2 ad2 rv ++ wP cI ad sv n8) s s.heap H locs := hw
  have e_590 : r_590 = nI 1 := e_590
  subst e_590
  refine lv_istore (lv' := [(6, .int (nI 1)), (0, .ref b), (1, .ref x9), (2, .ref (m9 0)), (3, .ref o9), (4, .ref p9), (5, .int (nI (5 * k)))]) hx hb dL_law_593 hl (by decide) rfl (fun ls hl => ?_)
  refine lv_aload_n hx hb dL_law_595 rfl (lv_at hl 3 rfl) ?_
  refine lv_aload_n hx hb dL_law_596 rfl (lv_at hl 1 rfl) ?_
  refine lv_iload hx hb dL_law_597 (lv_at hl 6 rfl) ?_
  refine lv_iconst (v := nI 1) hx hb dL_law_599 kc_iconst_1 ?_
  refine r_addN hx hb dL_law_600 ?_
  refine r_sld hx hb hX hbl hbA hL hw (i := (5 * k) + 1) (by omega) (v := p0) h1 dL_law_601 ?_
  refine lv_aload_n hx hb dL_law_602 rfl (lv_at hl 1 rfl) ?_
  refine lv_iload hx hb dL_law_603 (lv_at hl 6 rfl) ?_
  refine lv_iconst (v := nI 2) hx hb dL_law_605 kc_iconst_2 ?_
  refine r_addN hx hb dL_law_606 ?_
  refine r_sld hx hb hX hbl hbA hL hw (i := (5 * k) + 2) (by omega) (v := p1) h2 dL_law_607 ?_
  refine cp_Vi (As := [.int p0, .int p1]) (rest := []) (wc := wM cI m9 sa tx th n7 ln po2 lt fi sc nu2 ad2 rv) (wr := ([(x9, .inr (3, [.ref (q 0), .ref (h9 0), .ref (t9 0)]))] : va_W) ++ wS cI q st ++ wR cR h9 (fr7 ad n8) ol n7 ++ wT cC t9 tx ln po ki rp tg nu ++ ([(o9, .inl (cJ, 1, .inr (.inl fo)))] : va_W) ++ ([(p9, .inl (cD, 1, .inr (.inr (.inr (.inl fd)))))] : va_W)) S (c_X4_merge_e1 l D (sz := H.size) (cI := cI) (m9 := m9) (sa := sa) (tx := tx) (th := th) (sv := n7) (ln := ln) (po := po2) (lt := lt) (fi := fi) (sc := sc) (nu := nu2) (ad := ad2) (rv := rv) (p0 := p0) (p1 := p1) (hv := hv)) (cwV 2 hts gL_law_X4_merge rfl rfl rfl (by decide +kernel) ⟨Nat.le_of_ble_eq_true rfl, Nat.le_of_ble_eq_true rfl⟩) hw hA [14, 15, 16] [0, 1, 2, 3, 4, 5, 6, 7, 8, 9, 10, 11, 12, 13] [0] rfl rfl (k0 := 17) rfl (by decide) rfl 0 rfl rfl rfl hl.1 (Nat.le_of_ble_eq_true rfl) ⟨(show (cells + 1) + 0 ≤ room_1.cells by omega), (show (slots + 6) + 0 ≤ room_1.slots by omega)⟩ rfl dL_law_608 (fun r_608 u_608 H locs e_608 hw => ?_)
  have hw : Wd D A [(cI, .int), (cR, .object RX1), (cC, .char), (cJ, .long), (cD, .double)] (wM cI m9 sa tx (nI 1) n7 ln po2 lt fi sc nu2 ad2 rv ++ ([(x9, .inr (3, [.ref (q 0), .ref (h9 0), .ref (t9 0)]))] : va_W) ++ wS cI q st ++ wR cR h9 (fr7 ad n8) ol n7 ++ wT cC t9 tx ln po ki rp tg nu ++ ([(o9, .inl (cJ, 1, .inr (.inl fo)))] : va_W) ++ ([(p9, .inl (cD, 1, .inr (.inr (.inr (.inl fd)))))] : va_W) ++ wP cI ad sv n8) s s.heap H locs := hw
  have e_608 : r_608 = nI 0 := e_608
  subst e_608
  refine lv_istore (lv' := [(7, .int (nI 0)), (6, .int (nI 1)), (0, .ref b), (1, .ref x9), (2, .ref (m9 0)), (3, .ref o9), (4, .ref p9), (5, .int (nI (5 * k)))]) hx hb dL_law_611 hl (by decide) rfl (fun ls hl => ?_)
  refine lv_aload_n hx hb dL_law_613 rfl (lv_at hl 4 rfl) ?_
  refine cq_V (As := []) (rest := []) S (c_X4_thrown l D (cI := cI) (m9 := m9) (sa := sa) (tx := tx) (th := nI 1) (sv := n7) (ln := ln) (po := po2) (lt := lt) (fi := fi) (sc := sc) (nu := nu2) (ad := ad2) (rv := rv)) (cwV 0 hts gL_law_X4_thrown rfl rfl rfl (by decide +kernel) ⟨Nat.le_of_ble_eq_true rfl, Nat.le_of_ble_eq_true rfl⟩) (hw.q.sub [0, 1, 2] [0] rfl rfl) 0 rfl rfl rfl hl.1 (Nat.le_of_ble_eq_true rfl) ⟨(show (cells + 1) ≤ room_1.cells by omega), (show (slots + 6) ≤ room_1.slots by omega)⟩ rfl dL_law_614 (fun r_614 e_614 => ?_)
  have e_614 : r_614 = (nI 1) := e_614
  subst e_614
  refine lv_iload hx hb dL_law_617 (lv_at hl 1 rfl) ?_
  refine r_icmp_eqN (tgt := 624) hx hb (by decide) (by decide) dL_law_619 (by decide) (fun _ => ?_) (fun h => absurd h (by decide))
  refine lv_iload hx hb dL_law_624 (lv_at hl 1 rfl) ?_
  refine lv_if_ne (tgt := 641) hx hb dL_law_626 (by decide) (fun _ => ?_) (fun h => absurd h (by decide))
  refine lv_goto (tgt := 1875) hx hb dL_law_641 (by decide) ?_
  have hw : Wd D A [(cI, .int), (cR, .object RX1), (cC, .char), (cJ, .long), (cD, .double)] (([(x9, .inr (3, [.ref (q 0), .ref (h9 0), .ref (t9 0)]))] : va_W) ++ wS cI q st ++ wR cR h9 (fr7 ad n8) ol n7 ++ wT cC t9 tx ln po ki rp tg nu ++ ([(o9, .inl (cJ, 1, .inr (.inl fo)))] : va_W) ++ ([(p9, .inl (cD, 1, .inr (.inr (.inr (.inl fd)))))] : va_W) ++ wM cI m9 sa tx (nI 1) n7 ln po2 lt fi sc nu2 ad2 rv ++ wP cI ad sv n8) s s.heap H locs := hw.ord [3, 4, 5, 6, 7, 8, 9, 10, 11, 12, 13, 14, 15, 16, 0, 1, 2] (k0 := 17) rfl rfl (by decide)
  have hl : lv_has ls 10 [(0, .ref b), (1, .ref x9), (2, .ref (m9 0)), (3, .ref o9), (4, .ref p9), (5, .int (nI (5 * k)))] := lv_sub hl [2, 3, 4, 5, 6, 7] rfl
  refine W.widen (k := cells + 7) (n := slots + 5790) (by omega) (by omega) ?_
  exact kk H locs ls ⟨st, ad, sv, ol, n7, n8, tx, ln, po, ki, rp, tg, nu, fo, fd, sa, nI 1, po2, lt, fi, sc, nu2, ad2, rv, hw, LV_m hLV (by omega)⟩ hl
set_option maxHeartbeats 4000000 in
set_option maxRecDepth 100000 in
theorem law_seen_e1 {p : Program} {l : Launch} {e : Env} {s : State} {m : MethodId} {args : Array Value} {below : List Frame} {meth : Method} {c : Code} {Q : State → Prop} {D : va_G} {A : Nat → Prop} {b L : Nat} {xs : Nat → Int32} {cells slots : Nat} {cI cR cC cJ cD : ClassId} {x9 : Nat} {q h9 t9 : Nat → Nat} {o9 p9 : Nat} {m9 : Nat → Nat} {B k : Nat} (F : LF p l s m c args A b L xs) (hk5 : 5 * k + 5 ≤ L) (hB : B + 100 < 2 ^ 31) (hR : cells + 7 ≤ room_1.cells ∧ slots + 5790 ≤ room_1.slots) {st : St} {ad : Nat → Nat → Nat} {sv : Nat → St} {ol n7 n8 : Nat} {tx : Nat → Nat} {ln po : Nat} {ki rp tg nu : Int32} {fo : Nat → Int64} {fd : Nat → UInt64} {sa : Nat → Int32} {th : Int32} {po2 : Nat} {lt fi sc nu2 : Int32} {ad2 rv : Nat} {H : Heap} {locs : List Loc} (hw : Wd D A [(cI, .int), (cR, .object RX1), (cC, .char), (cJ, .long), (cD, .double)] ([(x9, .inr (3, [.ref (q 0), .ref (h9 0), .ref (t9 0)]))] ++ wS cI q st ++ wR cR h9 (fr7 ad n8) ol n7 ++ wT cC t9 tx ln po ki rp tg nu ++ [(o9, .inl (cJ, 1, .inr (.inl fo)))] ++ [(p9, .inl (cD, 1, .inr (.inr (.inr (.inl fd)))))] ++ wM cI m9 sa tx th n7 ln po2 lt fi sc nu2 ad2 rv ++ wP cI ad sv n8) s s.heap H locs) (hLV : LV st sv ol n7 n8 tx ln po sa po2 B) {ls : Array Slot} (hl : lv_has ls 10 [(0, .ref b), (1, .ref x9), (2, .ref (m9 0)), (3, .ref o9), (4, .ref p9), (5, .int (nI (5 * k)))]) {p0 p1 : Int32} (hv : ¬ (inP p0 (nI 0) (nI 3) ∧ inP p1 (nI 0) (nI 3))) (h1 : xs (5 * k + 1) = p0) (h2 : xs (5 * k + 2) = p1) (kk : ∀ (H : Heap) (locs : List Loc) (ls : Array Slot), LW D A s cI cR cC cJ cD x9 q h9 t9 o9 p9 m9 (B + 41) H locs → lv_has ls 10 [(0, .ref b), (1, .ref x9), (2, .ref (m9 0)), (3, .ref o9), (4, .ref p9), (5, .int (nI (5 * k)))] → W p l e room_1 s m args below meth c H locs (cells + 7) (slots + 5790) Q (F0 m 1875 ls [])) : W p l e room_1 s m args below meth c H locs cells slots Q (F0 m 1424 ls []) := by
  obtain ⟨S, hz, hxe, hzq, hl9, hA, hX, hbl, hbA, hL⟩ := id F
  obtain ⟨hh, hRl, hHs, htx, hln, hpo, hpo2⟩ := id hLV
  have h6 : n7 ≤ 6 := Nat.le_trans hh.2.1 hh.2.2.1
  obtain ⟨hx, hb, hml, hown, hts⟩ := id S
  refine lv_aload_n hx hb dL_law_1424 rfl (lv_at hl 1 rfl) ?_
  refine lv_aload_n hx hb dL_law_1425 rfl (lv_at hl 0 rfl) ?_
  refine lv_iload hx hb dL_law_1426 (lv_at hl 5 rfl) ?_
  refine lv_iconst (v := nI 1) hx hb dL_law_1428 kc_iconst_1 ?_
  refine r_addN hx hb dL_law_1429 ?_
  refine r_sld hx hb hX hbl hbA hL hw (i := (5 * k) + 1) (by omega) (v := p0) h1 dL_law_1430 ?_
  refine lv_aload_n hx hb dL_law_1431 rfl (lv_at hl 0 rfl) ?_
  refine lv_iload hx hb dL_law_1432 (lv_at hl 5 rfl) ?_
  refine lv_iconst (v := nI 2) hx hb dL_law_1434 kc_iconst_2 ?_
  refine r_addN hx hb dL_law_1435 ?_
  refine r_sld hx hb hX hbl hbA hL hw (i := (5 * k) + 2) (by omega) (v := p1) h2 dL_law_1436 ?_
  refine lv_aload_n hx hb dL_law_1437 rfl (lv_at hl 3 rfl) ?_
  refine cpz_S (w1 := fun (u9 : Unit) => ([(x9, .inr (3, [.ref (q 0), .ref (h9 0), .ref (t9 0)]))] : va_W) ++ wS cI q st ++ wR cR h9 (fr7 ad n8) ol n7 ++ wT cC t9 tx ln po ki rp tg nu ++ ([(o9, .inl (cJ, 1, .inr (.inl fo)))] : va_W)) (pl := fun (u9 : Unit) => wP cI ad sv n8) (As := [.ref x9, .int p0, .int p1, .ref o9]) (rest := []) (wc := ([(x9, .inr (3, [.ref (q 0), .ref (h9 0), .ref (t9 0)]))] : va_W) ++ wS cI q st ++ wR cR h9 (fr7 ad n8) ol n7 ++ wT cC t9 tx ln po ki rp tg nu ++ ([(o9, .inl (cJ, 1, .inr (.inl fo)))] : va_W)) (wr := ([(p9, .inl (cD, 1, .inr (.inr (.inr (.inl fd)))))] : va_W) ++ wM cI m9 sa tx th n7 ln po2 lt fi sc nu2 ad2 rv) S hz hxe hzq (c_L_seen_e1 l D (hl9 := hl9) (sz := H.size) (cI := cI) (cR := cR) (cC := cC) (x9 := x9) (q := q) (st := st) (h9 := h9) (ad := ad) (sv := sv) (ol := ol) (n7 := n7) (n8 := n8) (t9 := t9) (tx := tx) (ln := ln) (po := po) (ki := ki) (rp := rp) (tg := tg) (nu := nu) (cJ := cJ) (o9 := o9) (fo := fo) (p0 := p0) (p1 := p1) (hh := hh) (hv := hv)) (vx_cwSW 4 hts gL_law_L_seen rfl rfl rfl (by decide +kernel) ⟨Nat.le_of_ble_eq_true rfl, Nat.le_of_ble_eq_true rfl⟩) hw hA [0, 1, 2, 3, 4, 5, 6, 7, 8, 9, 10, 11, 12] [13, 14, 15, 16] [0, 1, 2, 3] rfl rfl (k0 := 17) rfl (by decide) rfl rfl hl.1 (Nat.le_of_ble_eq_true rfl) ⟨(show cells + 1 ≤ room_1.cells by omega), (show slots + 6 ≤ room_1.slots by omega)⟩ rfl dL_law_1438 (fun r_1438 u_1438 H locs e_1438 hw => ?_)
  have hw : Wd D A [(cI, .int), (cR, .object RX1), (cC, .char), (cJ, .long), (cD, .double)] (([(x9, .inr (3, [.ref (q 0), .ref (h9 0), .ref (t9 0)]))] : va_W) ++ wS cI q st ++ wR cR h9 (fr7 ad n8) ol n7 ++ wT cC t9 tx ln po ki rp tg nu ++ ([(o9, .inl (cJ, 1, .inr (.inl fo)))] : va_W) ++ ([(p9, .inl (cD, 1, .inr (.inr (.inr (.inl fd)))))] : va_W) ++ wM cI m9 sa tx th n7 ln po2 lt fi sc nu2 ad2 rv ++ wP cI ad sv n8) s s.heap H locs := hw
  have e_1438 : r_1438 = nI 1 := e_1438
  subst e_1438
  refine lv_istore (lv' := [(6, .int (nI 1)), (0, .ref b), (1, .ref x9), (2, .ref (m9 0)), (3, .ref o9), (4, .ref p9), (5, .int (nI (5 * k)))]) hx hb dL_law_1441 hl (by decide) rfl (fun ls hl => ?_)
  refine lv_aload_n hx hb dL_law_1443 rfl (lv_at hl 3 rfl) ?_
  refine lv_aload_n hx hb dL_law_1444 rfl (lv_at hl 1 rfl) ?_
  refine lv_iload hx hb dL_law_1445 (lv_at hl 6 rfl) ?_
  refine lv_iconst (v := nI 1) hx hb dL_law_1447 kc_iconst_1 ?_
  refine r_addN hx hb dL_law_1448 ?_
  refine r_sld hx hb hX hbl hbA hL hw (i := (5 * k) + 1) (by omega) (v := p0) h1 dL_law_1449 ?_
  refine lv_aload_n hx hb dL_law_1450 rfl (lv_at hl 1 rfl) ?_
  refine lv_iload hx hb dL_law_1451 (lv_at hl 6 rfl) ?_
  refine lv_iconst (v := nI 2) hx hb dL_law_1453 kc_iconst_2 ?_
  refine r_addN hx hb dL_law_1454 ?_
  refine r_sld hx hb hX hbl hbA hL hw (i := (5 * k) + 2) (by omega) (v := p1) h2 dL_law_1455 ?_
  refine cp_Vi (As := [.int p0, .int p1]) (rest := []) (wc := wM cI m9 sa tx th n7 ln po2 lt fi sc nu2 ad2 rv) (wr := ([(x9, .inr (3, [.ref (q 0), .ref (h9 0), .ref (t9 0)]))] : va_W) ++ wS cI q st ++ wR cR h9 (fr7 ad n8) ol n7 ++ wT cC t9 tx ln po ki rp tg nu ++ ([(o9, .inl (cJ, 1, .inr (.inl fo)))] : va_W) ++ ([(p9, .inl (cD, 1, .inr (.inr (.inr (.inl fd)))))] : va_W)) S (c_X4_seen_e1 l D (sz := H.size) (cI := cI) (m9 := m9) (sa := sa) (tx := tx) (th := th) (sv := n7) (ln := ln) (po := po2) (lt := lt) (fi := fi) (sc := sc) (nu := nu2) (ad := ad2) (rv := rv) (p0 := p0) (p1 := p1) (hv := hv)) (cwV 2 hts gL_law_X4_seen rfl rfl rfl (by decide +kernel) ⟨Nat.le_of_ble_eq_true rfl, Nat.le_of_ble_eq_true rfl⟩) hw hA [14, 15, 16] [0, 1, 2, 3, 4, 5, 6, 7, 8, 9, 10, 11, 12, 13] [0] rfl rfl (k0 := 17) rfl (by decide) rfl 0 rfl rfl rfl hl.1 (Nat.le_of_ble_eq_true rfl) ⟨(show (cells + 1) + 0 ≤ room_1.cells by omega), (show (slots + 6) + 0 ≤ room_1.slots by omega)⟩ rfl dL_law_1456 (fun r_1456 u_1456 H locs e_1456 hw => ?_)
  have hw : Wd D A [(cI, .int), (cR, .object RX1), (cC, .char), (cJ, .long), (cD, .double)] (wM cI m9 sa tx (nI 1) n7 ln po2 lt fi sc nu2 ad2 rv ++ ([(x9, .inr (3, [.ref (q 0), .ref (h9 0), .ref (t9 0)]))] : va_W) ++ wS cI q st ++ wR cR h9 (fr7 ad n8) ol n7 ++ wT cC t9 tx ln po ki rp tg nu ++ ([(o9, .inl (cJ, 1, .inr (.inl fo)))] : va_W) ++ ([(p9, .inl (cD, 1, .inr (.inr (.inr (.inl fd)))))] : va_W) ++ wP cI ad sv n8) s s.heap H locs := hw
  have e_1456 : r_1456 = nI 0 := e_1456
  subst e_1456
  refine lv_istore (lv' := [(7, .int (nI 0)), (6, .int (nI 1)), (0, .ref b), (1, .ref x9), (2, .ref (m9 0)), (3, .ref o9), (4, .ref p9), (5, .int (nI (5 * k)))]) hx hb dL_law_1459 hl (by decide) rfl (fun ls hl => ?_)
  refine lv_aload_n hx hb dL_law_1461 rfl (lv_at hl 4 rfl) ?_
  refine cq_V (As := []) (rest := []) S (c_X4_thrown l D (cI := cI) (m9 := m9) (sa := sa) (tx := tx) (th := nI 1) (sv := n7) (ln := ln) (po := po2) (lt := lt) (fi := fi) (sc := sc) (nu := nu2) (ad := ad2) (rv := rv)) (cwV 0 hts gL_law_X4_thrown rfl rfl rfl (by decide +kernel) ⟨Nat.le_of_ble_eq_true rfl, Nat.le_of_ble_eq_true rfl⟩) (hw.q.sub [0, 1, 2] [0] rfl rfl) 0 rfl rfl rfl hl.1 (Nat.le_of_ble_eq_true rfl) ⟨(show (cells + 1) ≤ room_1.cells by omega), (show (slots + 6) ≤ room_1.slots by omega)⟩ rfl dL_law_1462 (fun r_1462 e_1462 => ?_)
  have e_1462 : r_1462 = (nI 1) := e_1462
  subst e_1462
  refine lv_iload hx hb dL_law_1465 (lv_at hl 1 rfl) ?_
  refine r_icmp_eqN (tgt := 1472) hx hb (by decide) (by decide) dL_law_1467 (by decide) (fun _ => ?_) (fun h => absurd h (by decide))
  refine lv_iload hx hb dL_law_1472 (lv_at hl 1 rfl) ?_
  refine lv_if_ne (tgt := 1489) hx hb dL_law_1474 (by decide) (fun _ => ?_) (fun h => absurd h (by decide))
  refine lv_goto (tgt := 1875) hx hb dL_law_1489 (by decide) ?_
  have hw : Wd D A [(cI, .int), (cR, .object RX1), (cC, .char), (cJ, .long), (cD, .double)] (([(x9, .inr (3, [.ref (q 0), .ref (h9 0), .ref (t9 0)]))] : va_W) ++ wS cI q st ++ wR cR h9 (fr7 ad n8) ol n7 ++ wT cC t9 tx ln po ki rp tg nu ++ ([(o9, .inl (cJ, 1, .inr (.inl fo)))] : va_W) ++ ([(p9, .inl (cD, 1, .inr (.inr (.inr (.inl fd)))))] : va_W) ++ wM cI m9 sa tx (nI 1) n7 ln po2 lt fi sc nu2 ad2 rv ++ wP cI ad sv n8) s s.heap H locs := hw.ord [3, 4, 5, 6, 7, 8, 9, 10, 11, 12, 13, 14, 15, 16, 0, 1, 2] (k0 := 17) rfl rfl (by decide)
  have hl : lv_has ls 10 [(0, .ref b), (1, .ref x9), (2, .ref (m9 0)), (3, .ref o9), (4, .ref p9), (5, .int (nI (5 * k)))] := lv_sub hl [2, 3, 4, 5, 6, 7] rfl
  refine W.widen (k := cells + 7) (n := slots + 5790) (by omega) (by omega) ?_
  exact kk H locs ls ⟨st, ad, sv, ol, n7, n8, tx, ln, po, ki, rp, tg, nu, fo, fd, sa, nI 1, po2, lt, fi, sc, nu2, ad2, rv, hw, LV_m hLV (by omega)⟩ hl
set_option maxHeartbeats 4000000 in
set_option maxRecDepth 100000 in
theorem law_relation_e1 {p : Program} {l : Launch} {e : Env} {s : State} {m : MethodId} {args : Array Value} {below : List Frame} {meth : Method} {c : Code} {Q : State → Prop} {D : va_G} {A : Nat → Prop} {b L : Nat} {xs : Nat → Int32} {cells slots : Nat} {cI cR cC cJ cD : ClassId} {x9 : Nat} {q h9 t9 : Nat → Nat} {o9 p9 : Nat} {m9 : Nat → Nat} {B k : Nat} (F : LF p l s m c args A b L xs) (hk5 : 5 * k + 5 ≤ L) (hB : B + 100 < 2 ^ 31) (hR : cells + 7 ≤ room_1.cells ∧ slots + 5790 ≤ room_1.slots) {st : St} {ad : Nat → Nat → Nat} {sv : Nat → St} {ol n7 n8 : Nat} {tx : Nat → Nat} {ln po : Nat} {ki rp tg nu : Int32} {fo : Nat → Int64} {fd : Nat → UInt64} {sa : Nat → Int32} {th : Int32} {po2 : Nat} {lt fi sc nu2 : Int32} {ad2 rv : Nat} {H : Heap} {locs : List Loc} (hw : Wd D A [(cI, .int), (cR, .object RX1), (cC, .char), (cJ, .long), (cD, .double)] ([(x9, .inr (3, [.ref (q 0), .ref (h9 0), .ref (t9 0)]))] ++ wS cI q st ++ wR cR h9 (fr7 ad n8) ol n7 ++ wT cC t9 tx ln po ki rp tg nu ++ [(o9, .inl (cJ, 1, .inr (.inl fo)))] ++ [(p9, .inl (cD, 1, .inr (.inr (.inr (.inl fd)))))] ++ wM cI m9 sa tx th n7 ln po2 lt fi sc nu2 ad2 rv ++ wP cI ad sv n8) s s.heap H locs) (hLV : LV st sv ol n7 n8 tx ln po sa po2 B) {ls : Array Slot} (hl : lv_has ls 10 [(0, .ref b), (1, .ref x9), (2, .ref (m9 0)), (3, .ref o9), (4, .ref p9), (5, .int (nI (5 * k)))]) {p0 p1 : Int32} (hv : ¬ (inP p0 (nI 0) (nI 3) ∧ inP p1 (nI 0) (nI 3))) (h1 : xs (5 * k + 1) = p0) (h2 : xs (5 * k + 2) = p1) (kk : ∀ (H : Heap) (locs : List Loc) (ls : Array Slot), LW D A s cI cR cC cJ cD x9 q h9 t9 o9 p9 m9 (B + 41) H locs → lv_has ls 10 [(0, .ref b), (1, .ref x9), (2, .ref (m9 0)), (3, .ref o9), (4, .ref p9), (5, .int (nI (5 * k)))] → W p l e room_1 s m args below meth c H locs (cells + 7) (slots + 5790) Q (F0 m 1875 ls [])) : W p l e room_1 s m args below meth c H locs cells slots Q (F0 m 1548 ls []) := by
  obtain ⟨S, hz, hxe, hzq, hl9, hA, hX, hbl, hbA, hL⟩ := id F
  obtain ⟨hh, hRl, hHs, htx, hln, hpo, hpo2⟩ := id hLV
  have h6 : n7 ≤ 6 := Nat.le_trans hh.2.1 hh.2.2.1
  obtain ⟨hx, hb, hml, hown, hts⟩ := id S
  refine lv_aload_n hx hb dL_law_1548 rfl (lv_at hl 1 rfl) ?_
  refine lv_aload_n hx hb dL_law_1549 rfl (lv_at hl 0 rfl) ?_
  refine lv_iload hx hb dL_law_1550 (lv_at hl 5 rfl) ?_
  refine lv_iconst (v := nI 1) hx hb dL_law_1552 kc_iconst_1 ?_
  refine r_addN hx hb dL_law_1553 ?_
  refine r_sld hx hb hX hbl hbA hL hw (i := (5 * k) + 1) (by omega) (v := p0) h1 dL_law_1554 ?_
  refine lv_aload_n hx hb dL_law_1555 rfl (lv_at hl 0 rfl) ?_
  refine lv_iload hx hb dL_law_1556 (lv_at hl 5 rfl) ?_
  refine lv_iconst (v := nI 2) hx hb dL_law_1558 kc_iconst_2 ?_
  refine r_addN hx hb dL_law_1559 ?_
  refine r_sld hx hb hX hbl hbA hL hw (i := (5 * k) + 2) (by omega) (v := p1) h2 dL_law_1560 ?_
  refine lv_aload_n hx hb dL_law_1561 rfl (lv_at hl 3 rfl) ?_
  refine cpz_S (w1 := fun (u9 : Unit) => ([(x9, .inr (3, [.ref (q 0), .ref (h9 0), .ref (t9 0)]))] : va_W) ++ wS cI q st ++ wR cR h9 (fr7 ad n8) ol n7 ++ wT cC t9 tx ln po ki rp tg nu ++ ([(o9, .inl (cJ, 1, .inr (.inl fo)))] : va_W)) (pl := fun (u9 : Unit) => wP cI ad sv n8) (As := [.ref x9, .int p0, .int p1, .ref o9]) (rest := []) (wc := ([(x9, .inr (3, [.ref (q 0), .ref (h9 0), .ref (t9 0)]))] : va_W) ++ wS cI q st ++ wR cR h9 (fr7 ad n8) ol n7 ++ wT cC t9 tx ln po ki rp tg nu ++ ([(o9, .inl (cJ, 1, .inr (.inl fo)))] : va_W)) (wr := ([(p9, .inl (cD, 1, .inr (.inr (.inr (.inl fd)))))] : va_W) ++ wM cI m9 sa tx th n7 ln po2 lt fi sc nu2 ad2 rv) S hz hxe hzq (c_L_relation_e1 l D (hl9 := hl9) (sz := H.size) (cI := cI) (cR := cR) (cC := cC) (x9 := x9) (q := q) (st := st) (h9 := h9) (ad := ad) (sv := sv) (ol := ol) (n7 := n7) (n8 := n8) (t9 := t9) (tx := tx) (ln := ln) (po := po) (ki := ki) (rp := rp) (tg := tg) (nu := nu) (cJ := cJ) (o9 := o9) (fo := fo) (p0 := p0) (p1 := p1) (hh := hh) (hv := hv)) (vx_cwSW 4 hts gL_law_L_relation rfl rfl rfl (by decide +kernel) ⟨Nat.le_of_ble_eq_true rfl, Nat.le_of_ble_eq_true rfl⟩) hw hA [0, 1, 2, 3, 4, 5, 6, 7, 8, 9, 10, 11, 12] [13, 14, 15, 16] [0, 1, 2, 3] rfl rfl (k0 := 17) rfl (by decide) rfl rfl hl.1 (Nat.le_of_ble_eq_true rfl) ⟨(show cells + 1 ≤ room_1.cells by omega), (show slots + 6 ≤ room_1.slots by omega)⟩ rfl dL_law_1562 (fun r_1562 u_1562 H locs e_1562 hw => ?_)
  have hw : Wd D A [(cI, .int), (cR, .object RX1), (cC, .char), (cJ, .long), (cD, .double)] (([(x9, .inr (3, [.ref (q 0), .ref (h9 0), .ref (t9 0)]))] : va_W) ++ wS cI q st ++ wR cR h9 (fr7 ad n8) ol n7 ++ wT cC t9 tx ln po ki rp tg nu ++ ([(o9, .inl (cJ, 1, .inr (.inl fo)))] : va_W) ++ ([(p9, .inl (cD, 1, .inr (.inr (.inr (.inl fd)))))] : va_W) ++ wM cI m9 sa tx th n7 ln po2 lt fi sc nu2 ad2 rv ++ wP cI ad sv n8) s s.heap H locs := hw
  have e_1562 : r_1562 = nI 1 := e_1562
  subst e_1562
  refine lv_istore (lv' := [(6, .int (nI 1)), (0, .ref b), (1, .ref x9), (2, .ref (m9 0)), (3, .ref o9), (4, .ref p9), (5, .int (nI (5 * k)))]) hx hb dL_law_1565 hl (by decide) rfl (fun ls hl => ?_)
  refine lv_aload_n hx hb dL_law_1567 rfl (lv_at hl 3 rfl) ?_
  refine lv_aload_n hx hb dL_law_1568 rfl (lv_at hl 1 rfl) ?_
  refine lv_iload hx hb dL_law_1569 (lv_at hl 6 rfl) ?_
  refine lv_iconst (v := nI 1) hx hb dL_law_1571 kc_iconst_1 ?_
  refine r_addN hx hb dL_law_1572 ?_
  refine r_sld hx hb hX hbl hbA hL hw (i := (5 * k) + 1) (by omega) (v := p0) h1 dL_law_1573 ?_
  refine lv_aload_n hx hb dL_law_1574 rfl (lv_at hl 1 rfl) ?_
  refine lv_iload hx hb dL_law_1575 (lv_at hl 6 rfl) ?_
  refine lv_iconst (v := nI 2) hx hb dL_law_1577 kc_iconst_2 ?_
  refine r_addN hx hb dL_law_1578 ?_
  refine r_sld hx hb hX hbl hbA hL hw (i := (5 * k) + 2) (by omega) (v := p1) h2 dL_law_1579 ?_
  refine cp_Vi (As := [.int p0, .int p1]) (rest := []) (wc := wM cI m9 sa tx th n7 ln po2 lt fi sc nu2 ad2 rv) (wr := ([(x9, .inr (3, [.ref (q 0), .ref (h9 0), .ref (t9 0)]))] : va_W) ++ wS cI q st ++ wR cR h9 (fr7 ad n8) ol n7 ++ wT cC t9 tx ln po ki rp tg nu ++ ([(o9, .inl (cJ, 1, .inr (.inl fo)))] : va_W) ++ ([(p9, .inl (cD, 1, .inr (.inr (.inr (.inl fd)))))] : va_W)) S (c_X4_relation_e1 l D (sz := H.size) (cI := cI) (m9 := m9) (sa := sa) (tx := tx) (th := th) (sv := n7) (ln := ln) (po := po2) (lt := lt) (fi := fi) (sc := sc) (nu := nu2) (ad := ad2) (rv := rv) (p0 := p0) (p1 := p1) (hv := hv)) (cwV 2 hts gL_law_X4_relation rfl rfl rfl (by decide +kernel) ⟨Nat.le_of_ble_eq_true rfl, Nat.le_of_ble_eq_true rfl⟩) hw hA [14, 15, 16] [0, 1, 2, 3, 4, 5, 6, 7, 8, 9, 10, 11, 12, 13] [0] rfl rfl (k0 := 17) rfl (by decide) rfl 0 rfl rfl rfl hl.1 (Nat.le_of_ble_eq_true rfl) ⟨(show (cells + 1) + 0 ≤ room_1.cells by omega), (show (slots + 6) + 0 ≤ room_1.slots by omega)⟩ rfl dL_law_1580 (fun r_1580 u_1580 H locs e_1580 hw => ?_)
  have hw : Wd D A [(cI, .int), (cR, .object RX1), (cC, .char), (cJ, .long), (cD, .double)] (wM cI m9 sa tx (nI 1) n7 ln po2 lt fi sc nu2 ad2 rv ++ ([(x9, .inr (3, [.ref (q 0), .ref (h9 0), .ref (t9 0)]))] : va_W) ++ wS cI q st ++ wR cR h9 (fr7 ad n8) ol n7 ++ wT cC t9 tx ln po ki rp tg nu ++ ([(o9, .inl (cJ, 1, .inr (.inl fo)))] : va_W) ++ ([(p9, .inl (cD, 1, .inr (.inr (.inr (.inl fd)))))] : va_W) ++ wP cI ad sv n8) s s.heap H locs := hw
  have e_1580 : r_1580 = nI 0 := e_1580
  subst e_1580
  refine lv_istore (lv' := [(7, .int (nI 0)), (6, .int (nI 1)), (0, .ref b), (1, .ref x9), (2, .ref (m9 0)), (3, .ref o9), (4, .ref p9), (5, .int (nI (5 * k)))]) hx hb dL_law_1583 hl (by decide) rfl (fun ls hl => ?_)
  refine lv_aload_n hx hb dL_law_1585 rfl (lv_at hl 4 rfl) ?_
  refine cq_V (As := []) (rest := []) S (c_X4_thrown l D (cI := cI) (m9 := m9) (sa := sa) (tx := tx) (th := nI 1) (sv := n7) (ln := ln) (po := po2) (lt := lt) (fi := fi) (sc := sc) (nu := nu2) (ad := ad2) (rv := rv)) (cwV 0 hts gL_law_X4_thrown rfl rfl rfl (by decide +kernel) ⟨Nat.le_of_ble_eq_true rfl, Nat.le_of_ble_eq_true rfl⟩) (hw.q.sub [0, 1, 2] [0] rfl rfl) 0 rfl rfl rfl hl.1 (Nat.le_of_ble_eq_true rfl) ⟨(show (cells + 1) ≤ room_1.cells by omega), (show (slots + 6) ≤ room_1.slots by omega)⟩ rfl dL_law_1586 (fun r_1586 e_1586 => ?_)
  have e_1586 : r_1586 = (nI 1) := e_1586
  subst e_1586
  refine lv_iload hx hb dL_law_1589 (lv_at hl 1 rfl) ?_
  refine r_icmp_eqN (tgt := 1596) hx hb (by decide) (by decide) dL_law_1591 (by decide) (fun _ => ?_) (fun h => absurd h (by decide))
  refine lv_iload hx hb dL_law_1596 (lv_at hl 1 rfl) ?_
  refine lv_if_ne (tgt := 1613) hx hb dL_law_1598 (by decide) (fun _ => ?_) (fun h => absurd h (by decide))
  refine lv_goto (tgt := 1875) hx hb dL_law_1613 (by decide) ?_
  have hw : Wd D A [(cI, .int), (cR, .object RX1), (cC, .char), (cJ, .long), (cD, .double)] (([(x9, .inr (3, [.ref (q 0), .ref (h9 0), .ref (t9 0)]))] : va_W) ++ wS cI q st ++ wR cR h9 (fr7 ad n8) ol n7 ++ wT cC t9 tx ln po ki rp tg nu ++ ([(o9, .inl (cJ, 1, .inr (.inl fo)))] : va_W) ++ ([(p9, .inl (cD, 1, .inr (.inr (.inr (.inl fd)))))] : va_W) ++ wM cI m9 sa tx (nI 1) n7 ln po2 lt fi sc nu2 ad2 rv ++ wP cI ad sv n8) s s.heap H locs := hw.ord [3, 4, 5, 6, 7, 8, 9, 10, 11, 12, 13, 14, 15, 16, 0, 1, 2] (k0 := 17) rfl rfl (by decide)
  have hl : lv_has ls 10 [(0, .ref b), (1, .ref x9), (2, .ref (m9 0)), (3, .ref o9), (4, .ref p9), (5, .int (nI (5 * k)))] := lv_sub hl [2, 3, 4, 5, 6, 7] rfl
  refine W.widen (k := cells + 7) (n := slots + 5790) (by omega) (by omega) ?_
  exact kk H locs ls ⟨st, ad, sv, ol, n7, n8, tx, ln, po, ki, rp, tg, nu, fo, fd, sa, nI 1, po2, lt, fi, sc, nu2, ad2, rv, hw, LV_m hLV (by omega)⟩ hl
set_option maxHeartbeats 4000000 in
set_option maxRecDepth 100000 in
theorem law_ifMerged_e1 {p : Program} {l : Launch} {e : Env} {s : State} {m : MethodId} {args : Array Value} {below : List Frame} {meth : Method} {c : Code} {Q : State → Prop} {D : va_G} {A : Nat → Prop} {b L : Nat} {xs : Nat → Int32} {cells slots : Nat} {cI cR cC cJ cD : ClassId} {x9 : Nat} {q h9 t9 : Nat → Nat} {o9 p9 : Nat} {m9 : Nat → Nat} {B k : Nat} (F : LF p l s m c args A b L xs) (hk5 : 5 * k + 5 ≤ L) (hB : B + 100 < 2 ^ 31) (hR : cells + 7 ≤ room_1.cells ∧ slots + 5790 ≤ room_1.slots) {st : St} {ad : Nat → Nat → Nat} {sv : Nat → St} {ol n7 n8 : Nat} {tx : Nat → Nat} {ln po : Nat} {ki rp tg nu : Int32} {fo : Nat → Int64} {fd : Nat → UInt64} {sa : Nat → Int32} {th : Int32} {po2 : Nat} {lt fi sc nu2 : Int32} {ad2 rv : Nat} {H : Heap} {locs : List Loc} (hw : Wd D A [(cI, .int), (cR, .object RX1), (cC, .char), (cJ, .long), (cD, .double)] ([(x9, .inr (3, [.ref (q 0), .ref (h9 0), .ref (t9 0)]))] ++ wS cI q st ++ wR cR h9 (fr7 ad n8) ol n7 ++ wT cC t9 tx ln po ki rp tg nu ++ [(o9, .inl (cJ, 1, .inr (.inl fo)))] ++ [(p9, .inl (cD, 1, .inr (.inr (.inr (.inl fd)))))] ++ wM cI m9 sa tx th n7 ln po2 lt fi sc nu2 ad2 rv ++ wP cI ad sv n8) s s.heap H locs) (hLV : LV st sv ol n7 n8 tx ln po sa po2 B) {ls : Array Slot} (hl : lv_has ls 10 [(0, .ref b), (1, .ref x9), (2, .ref (m9 0)), (3, .ref o9), (4, .ref p9), (5, .int (nI (5 * k)))]) {p0 p1 p2 : Int32} (hv : ¬ (inP p0 (nI 0) (nI 3) ∧ inP p1 (nI 0) (nI 3))) (h1 : xs (5 * k + 1) = p0) (h2 : xs (5 * k + 2) = p1) (h3 : xs (5 * k + 3) = p2) (kk : ∀ (H : Heap) (locs : List Loc) (ls : Array Slot), LW D A s cI cR cC cJ cD x9 q h9 t9 o9 p9 m9 (B + 41) H locs → lv_has ls 10 [(0, .ref b), (1, .ref x9), (2, .ref (m9 0)), (3, .ref o9), (4, .ref p9), (5, .int (nI (5 * k)))] → W p l e room_1 s m args below meth c H locs (cells + 7) (slots + 5790) Q (F0 m 1875 ls [])) : W p l e room_1 s m args below meth c H locs cells slots Q (F0 m 1769 ls []) := by
  obtain ⟨S, hz, hxe, hzq, hl9, hA, hX, hbl, hbA, hL⟩ := id F
  obtain ⟨hh, hRl, hHs, htx, hln, hpo, hpo2⟩ := id hLV
  have h6 : n7 ≤ 6 := Nat.le_trans hh.2.1 hh.2.2.1
  obtain ⟨hx, hb, hml, hown, hts⟩ := id S
  refine lv_aload_n hx hb dL_law_1769 rfl (lv_at hl 1 rfl) ?_
  refine lv_aload_n hx hb dL_law_1770 rfl (lv_at hl 0 rfl) ?_
  refine lv_iload hx hb dL_law_1771 (lv_at hl 5 rfl) ?_
  refine lv_iconst (v := nI 1) hx hb dL_law_1773 kc_iconst_1 ?_
  refine r_addN hx hb dL_law_1774 ?_
  refine r_sld hx hb hX hbl hbA hL hw (i := (5 * k) + 1) (by omega) (v := p0) h1 dL_law_1775 ?_
  refine lv_aload_n hx hb dL_law_1776 rfl (lv_at hl 0 rfl) ?_
  refine lv_iload hx hb dL_law_1777 (lv_at hl 5 rfl) ?_
  refine lv_iconst (v := nI 2) hx hb dL_law_1779 kc_iconst_2 ?_
  refine r_addN hx hb dL_law_1780 ?_
  refine r_sld hx hb hX hbl hbA hL hw (i := (5 * k) + 2) (by omega) (v := p1) h2 dL_law_1781 ?_
  refine lv_aload_n hx hb dL_law_1782 rfl (lv_at hl 0 rfl) ?_
  refine lv_iload hx hb dL_law_1783 (lv_at hl 5 rfl) ?_
  refine lv_iconst (v := nI 3) hx hb dL_law_1785 kc_iconst_3 ?_
  refine r_addN hx hb dL_law_1786 ?_
  refine r_sld hx hb hX hbl hbA hL hw (i := (5 * k) + 3) (by omega) (v := p2) h3 dL_law_1787 ?_
  refine lv_aload_n hx hb dL_law_1788 rfl (lv_at hl 3 rfl) ?_
  refine cpz_S (w1 := fun (u9 : Unit) => ([(x9, .inr (3, [.ref (q 0), .ref (h9 0), .ref (t9 0)]))] : va_W) ++ wS cI q st ++ wR cR h9 (fr7 ad n8) ol n7 ++ wT cC t9 tx ln po ki rp tg nu ++ ([(o9, .inl (cJ, 1, .inr (.inl fo)))] : va_W)) (pl := fun (u9 : Unit) => wP cI ad sv n8) (As := [.ref x9, .int p0, .int p1, .int p2, .ref o9]) (rest := []) (wc := ([(x9, .inr (3, [.ref (q 0), .ref (h9 0), .ref (t9 0)]))] : va_W) ++ wS cI q st ++ wR cR h9 (fr7 ad n8) ol n7 ++ wT cC t9 tx ln po ki rp tg nu ++ ([(o9, .inl (cJ, 1, .inr (.inl fo)))] : va_W)) (wr := ([(p9, .inl (cD, 1, .inr (.inr (.inr (.inl fd)))))] : va_W) ++ wM cI m9 sa tx th n7 ln po2 lt fi sc nu2 ad2 rv) S hz hxe hzq (c_L_ifMerged_e1 l D (hl9 := hl9) (sz := H.size) (cI := cI) (cR := cR) (cC := cC) (x9 := x9) (q := q) (st := st) (h9 := h9) (ad := ad) (sv := sv) (ol := ol) (n7 := n7) (n8 := n8) (t9 := t9) (tx := tx) (ln := ln) (po := po) (ki := ki) (rp := rp) (tg := tg) (nu := nu) (cJ := cJ) (o9 := o9) (fo := fo) (p0 := p0) (p1 := p1) (p2 := p2) (hh := hh) (hv := hv)) (vx_cwSW 5 hts gL_law_L_ifMerged rfl rfl rfl (by decide +kernel) ⟨Nat.le_of_ble_eq_true rfl, Nat.le_of_ble_eq_true rfl⟩) hw hA [0, 1, 2, 3, 4, 5, 6, 7, 8, 9, 10, 11, 12] [13, 14, 15, 16] [0, 1, 2, 3] rfl rfl (k0 := 17) rfl (by decide) rfl rfl hl.1 (Nat.le_of_ble_eq_true rfl) ⟨(show cells + 1 ≤ room_1.cells by omega), (show slots + 6 ≤ room_1.slots by omega)⟩ rfl dL_law_1789 (fun r_1789 u_1789 H locs e_1789 hw => ?_)
  have hw : Wd D A [(cI, .int), (cR, .object RX1), (cC, .char), (cJ, .long), (cD, .double)] (([(x9, .inr (3, [.ref (q 0), .ref (h9 0), .ref (t9 0)]))] : va_W) ++ wS cI q st ++ wR cR h9 (fr7 ad n8) ol n7 ++ wT cC t9 tx ln po ki rp tg nu ++ ([(o9, .inl (cJ, 1, .inr (.inl fo)))] : va_W) ++ ([(p9, .inl (cD, 1, .inr (.inr (.inr (.inl fd)))))] : va_W) ++ wM cI m9 sa tx th n7 ln po2 lt fi sc nu2 ad2 rv ++ wP cI ad sv n8) s s.heap H locs := hw
  have e_1789 : r_1789 = nI 1 := e_1789
  subst e_1789
  refine lv_istore (lv' := [(6, .int (nI 1)), (0, .ref b), (1, .ref x9), (2, .ref (m9 0)), (3, .ref o9), (4, .ref p9), (5, .int (nI (5 * k)))]) hx hb dL_law_1792 hl (by decide) rfl (fun ls hl => ?_)
  refine lv_aload_n hx hb dL_law_1794 rfl (lv_at hl 3 rfl) ?_
  refine lv_aload_n hx hb dL_law_1795 rfl (lv_at hl 1 rfl) ?_
  refine lv_iload hx hb dL_law_1796 (lv_at hl 6 rfl) ?_
  refine lv_iconst (v := nI 1) hx hb dL_law_1798 kc_iconst_1 ?_
  refine r_addN hx hb dL_law_1799 ?_
  refine r_sld hx hb hX hbl hbA hL hw (i := (5 * k) + 1) (by omega) (v := p0) h1 dL_law_1800 ?_
  refine lv_aload_n hx hb dL_law_1801 rfl (lv_at hl 1 rfl) ?_
  refine lv_iload hx hb dL_law_1802 (lv_at hl 6 rfl) ?_
  refine lv_iconst (v := nI 2) hx hb dL_law_1804 kc_iconst_2 ?_
  refine r_addN hx hb dL_law_1805 ?_
  refine r_sld hx hb hX hbl hbA hL hw (i := (5 * k) + 2) (by omega) (v := p1) h2 dL_law_1806 ?_
  refine lv_aload_n hx hb dL_law_1807 rfl (lv_at hl 1 rfl) ?_
  refine lv_iload hx hb dL_law_1808 (lv_at hl 6 rfl) ?_
  refine lv_iconst (v := nI 3) hx hb dL_law_1810 kc_iconst_3 ?_
  refine r_addN hx hb dL_law_1811 ?_
  refine r_sld hx hb hX hbl hbA hL hw (i := (5 * k) + 3) (by omega) (v := p2) h3 dL_law_1812 ?_
  refine cp_Vi (As := [.int p0, .int p1, .int p2]) (rest := []) (wc := wM cI m9 sa tx th n7 ln po2 lt fi sc nu2 ad2 rv) (wr := ([(x9, .inr (3, [.ref (q 0), .ref (h9 0), .ref (t9 0)]))] : va_W) ++ wS cI q st ++ wR cR h9 (fr7 ad n8) ol n7 ++ wT cC t9 tx ln po ki rp tg nu ++ ([(o9, .inl (cJ, 1, .inr (.inl fo)))] : va_W) ++ ([(p9, .inl (cD, 1, .inr (.inr (.inr (.inl fd)))))] : va_W)) S (c_X4_ifMerged_e1 l D (sz := H.size) (cI := cI) (m9 := m9) (sa := sa) (tx := tx) (th := th) (sv := n7) (ln := ln) (po := po2) (lt := lt) (fi := fi) (sc := sc) (nu := nu2) (ad := ad2) (rv := rv) (p0 := p0) (p1 := p1) (p2 := p2) (hv := hv)) (cwV 3 hts gL_law_X4_ifMerged rfl rfl rfl (by decide +kernel) ⟨Nat.le_of_ble_eq_true rfl, Nat.le_of_ble_eq_true rfl⟩) hw hA [14, 15, 16] [0, 1, 2, 3, 4, 5, 6, 7, 8, 9, 10, 11, 12, 13] [0] rfl rfl (k0 := 17) rfl (by decide) rfl 0 rfl rfl rfl hl.1 (Nat.le_of_ble_eq_true rfl) ⟨(show (cells + 1) + 0 ≤ room_1.cells by omega), (show (slots + 6) + 0 ≤ room_1.slots by omega)⟩ rfl dL_law_1813 (fun r_1813 u_1813 H locs e_1813 hw => ?_)
  have hw : Wd D A [(cI, .int), (cR, .object RX1), (cC, .char), (cJ, .long), (cD, .double)] (wM cI m9 sa tx (nI 1) n7 ln po2 lt fi sc nu2 ad2 rv ++ ([(x9, .inr (3, [.ref (q 0), .ref (h9 0), .ref (t9 0)]))] : va_W) ++ wS cI q st ++ wR cR h9 (fr7 ad n8) ol n7 ++ wT cC t9 tx ln po ki rp tg nu ++ ([(o9, .inl (cJ, 1, .inr (.inl fo)))] : va_W) ++ ([(p9, .inl (cD, 1, .inr (.inr (.inr (.inl fd)))))] : va_W) ++ wP cI ad sv n8) s s.heap H locs := hw
  have e_1813 : r_1813 = nI 0 := e_1813
  subst e_1813
  refine lv_istore (lv' := [(7, .int (nI 0)), (6, .int (nI 1)), (0, .ref b), (1, .ref x9), (2, .ref (m9 0)), (3, .ref o9), (4, .ref p9), (5, .int (nI (5 * k)))]) hx hb dL_law_1816 hl (by decide) rfl (fun ls hl => ?_)
  refine lv_aload_n hx hb dL_law_1818 rfl (lv_at hl 4 rfl) ?_
  refine cq_V (As := []) (rest := []) S (c_X4_thrown l D (cI := cI) (m9 := m9) (sa := sa) (tx := tx) (th := nI 1) (sv := n7) (ln := ln) (po := po2) (lt := lt) (fi := fi) (sc := sc) (nu := nu2) (ad := ad2) (rv := rv)) (cwV 0 hts gL_law_X4_thrown rfl rfl rfl (by decide +kernel) ⟨Nat.le_of_ble_eq_true rfl, Nat.le_of_ble_eq_true rfl⟩) (hw.q.sub [0, 1, 2] [0] rfl rfl) 0 rfl rfl rfl hl.1 (Nat.le_of_ble_eq_true rfl) ⟨(show (cells + 1) ≤ room_1.cells by omega), (show (slots + 6) ≤ room_1.slots by omega)⟩ rfl dL_law_1819 (fun r_1819 e_1819 => ?_)
  have e_1819 : r_1819 = (nI 1) := e_1819
  subst e_1819
  refine lv_iload hx hb dL_law_1822 (lv_at hl 1 rfl) ?_
  refine r_icmp_eqN (tgt := 1829) hx hb (by decide) (by decide) dL_law_1824 (by decide) (fun _ => ?_) (fun h => absurd h (by decide))
  refine lv_iload hx hb dL_law_1829 (lv_at hl 1 rfl) ?_
  refine lv_if_ne (tgt := 1846) hx hb dL_law_1831 (by decide) (fun _ => ?_) (fun h => absurd h (by decide))
  refine lv_goto (tgt := 1875) hx hb dL_law_1846 (by decide) ?_
  have hw : Wd D A [(cI, .int), (cR, .object RX1), (cC, .char), (cJ, .long), (cD, .double)] (([(x9, .inr (3, [.ref (q 0), .ref (h9 0), .ref (t9 0)]))] : va_W) ++ wS cI q st ++ wR cR h9 (fr7 ad n8) ol n7 ++ wT cC t9 tx ln po ki rp tg nu ++ ([(o9, .inl (cJ, 1, .inr (.inl fo)))] : va_W) ++ ([(p9, .inl (cD, 1, .inr (.inr (.inr (.inl fd)))))] : va_W) ++ wM cI m9 sa tx (nI 1) n7 ln po2 lt fi sc nu2 ad2 rv ++ wP cI ad sv n8) s s.heap H locs := hw.ord [3, 4, 5, 6, 7, 8, 9, 10, 11, 12, 13, 14, 15, 16, 0, 1, 2] (k0 := 17) rfl rfl (by decide)
  have hl : lv_has ls 10 [(0, .ref b), (1, .ref x9), (2, .ref (m9 0)), (3, .ref o9), (4, .ref p9), (5, .int (nI (5 * k)))] := lv_sub hl [2, 3, 4, 5, 6, 7] rfl
  refine W.widen (k := cells + 7) (n := slots + 5790) (by omega) (by omega) ?_
  exact kk H locs ls ⟨st, ad, sv, ol, n7, n8, tx, ln, po, ki, rp, tg, nu, fo, fd, sa, nI 1, po2, lt, fi, sc, nu2, ad2, rv, hw, LV_m hLV (by omega)⟩ hl
set_option maxHeartbeats 4000000 in
set_option maxRecDepth 100000 in
theorem law_clock_e1 {p : Program} {l : Launch} {e : Env} {s : State} {m : MethodId} {args : Array Value} {below : List Frame} {meth : Method} {c : Code} {Q : State → Prop} {D : va_G} {A : Nat → Prop} {b L : Nat} {xs : Nat → Int32} {cells slots : Nat} {cI cR cC cJ cD : ClassId} {x9 : Nat} {q h9 t9 : Nat → Nat} {o9 p9 : Nat} {m9 : Nat → Nat} {B k : Nat} (F : LF p l s m c args A b L xs) (hk5 : 5 * k + 5 ≤ L) (hB : B + 100 < 2 ^ 31) (hR : cells + 7 ≤ room_1.cells ∧ slots + 5790 ≤ room_1.slots) {st : St} {ad : Nat → Nat → Nat} {sv : Nat → St} {ol n7 n8 : Nat} {tx : Nat → Nat} {ln po : Nat} {ki rp tg nu : Int32} {fo : Nat → Int64} {fd : Nat → UInt64} {sa : Nat → Int32} {th : Int32} {po2 : Nat} {lt fi sc nu2 : Int32} {ad2 rv : Nat} {H : Heap} {locs : List Loc} (hw : Wd D A [(cI, .int), (cR, .object RX1), (cC, .char), (cJ, .long), (cD, .double)] ([(x9, .inr (3, [.ref (q 0), .ref (h9 0), .ref (t9 0)]))] ++ wS cI q st ++ wR cR h9 (fr7 ad n8) ol n7 ++ wT cC t9 tx ln po ki rp tg nu ++ [(o9, .inl (cJ, 1, .inr (.inl fo)))] ++ [(p9, .inl (cD, 1, .inr (.inr (.inr (.inl fd)))))] ++ wM cI m9 sa tx th n7 ln po2 lt fi sc nu2 ad2 rv ++ wP cI ad sv n8) s s.heap H locs) (hLV : LV st sv ol n7 n8 tx ln po sa po2 B) {ls : Array Slot} (hl : lv_has ls 10 [(0, .ref b), (1, .ref x9), (2, .ref (m9 0)), (3, .ref o9), (4, .ref p9), (5, .int (nI (5 * k)))]) {p0 : Int32} (hv : ¬ inP p0 (nI 0) (nI 3)) (h1 : xs (5 * k + 1) = p0) (kk : ∀ (H : Heap) (locs : List Loc) (ls : Array Slot), LW D A s cI cR cC cJ cD x9 q h9 t9 o9 p9 m9 (B + 41) H locs → lv_has ls 10 [(0, .ref b), (1, .ref x9), (2, .ref (m9 0)), (3, .ref o9), (4, .ref p9), (5, .int (nI (5 * k)))] → W p l e room_1 s m args below meth c H locs (cells + 7) (slots + 5790) Q (F0 m 1875 ls [])) : W p l e room_1 s m args below meth c H locs cells slots Q (F0 m 1492 ls []) := by
  obtain ⟨S, hz, hxe, hzq, hl9, hA, hX, hbl, hbA, hL⟩ := id F
  obtain ⟨hh, hRl, hHs, htx, hln, hpo, hpo2⟩ := id hLV
  have h6 : n7 ≤ 6 := Nat.le_trans hh.2.1 hh.2.2.1
  obtain ⟨hx, hb, hml, hown, hts⟩ := id S
  refine lv_aload_n hx hb dL_law_1492 rfl (lv_at hl 1 rfl) ?_
  refine lv_aload_n hx hb dL_law_1493 rfl (lv_at hl 0 rfl) ?_
  refine lv_iload hx hb dL_law_1494 (lv_at hl 5 rfl) ?_
  refine lv_iconst (v := nI 1) hx hb dL_law_1496 kc_iconst_1 ?_
  refine r_addN hx hb dL_law_1497 ?_
  refine r_sld hx hb hX hbl hbA hL hw (i := (5 * k) + 1) (by omega) (v := p0) h1 dL_law_1498 ?_
  refine lv_aload_n hx hb dL_law_1499 rfl (lv_at hl 3 rfl) ?_
  refine cpz_S (w1 := fun (u9 : Unit) => ([(x9, .inr (3, [.ref (q 0), .ref (h9 0), .ref (t9 0)]))] : va_W) ++ wS cI q st ++ wR cR h9 (fr7 ad n8) ol n7 ++ wT cC t9 tx ln po ki rp tg nu ++ ([(o9, .inl (cJ, 1, .inr (.inl fo)))] : va_W)) (pl := fun (u9 : Unit) => wP cI ad sv n8) (As := [.ref x9, .int p0, .ref o9]) (rest := []) (wc := ([(x9, .inr (3, [.ref (q 0), .ref (h9 0), .ref (t9 0)]))] : va_W) ++ wS cI q st ++ wR cR h9 (fr7 ad n8) ol n7 ++ wT cC t9 tx ln po ki rp tg nu ++ ([(o9, .inl (cJ, 1, .inr (.inl fo)))] : va_W)) (wr := ([(p9, .inl (cD, 1, .inr (.inr (.inr (.inl fd)))))] : va_W) ++ wM cI m9 sa tx th n7 ln po2 lt fi sc nu2 ad2 rv) S hz hxe hzq (c_L_clock_e1 l D (hl9 := hl9) (sz := H.size) (cI := cI) (cR := cR) (cC := cC) (x9 := x9) (q := q) (st := st) (h9 := h9) (ad := ad) (sv := sv) (ol := ol) (n7 := n7) (n8 := n8) (t9 := t9) (tx := tx) (ln := ln) (po := po) (ki := ki) (rp := rp) (tg := tg) (nu := nu) (cJ := cJ) (o9 := o9) (fo := fo) (p0 := p0) (hh := hh) (hv := hv)) (vx_cwSW 3 hts gL_law_L_clock rfl rfl rfl (by decide +kernel) ⟨Nat.le_of_ble_eq_true rfl, Nat.le_of_ble_eq_true rfl⟩) hw hA [0, 1, 2, 3, 4, 5, 6, 7, 8, 9, 10, 11, 12] [13, 14, 15, 16] [0, 1, 2, 3] rfl rfl (k0 := 17) rfl (by decide) rfl rfl hl.1 (Nat.le_of_ble_eq_true rfl) ⟨(show cells + 1 ≤ room_1.cells by omega), (show slots + 6 ≤ room_1.slots by omega)⟩ rfl dL_law_1500 (fun r_1500 u_1500 H locs e_1500 hw => ?_)
  have hw : Wd D A [(cI, .int), (cR, .object RX1), (cC, .char), (cJ, .long), (cD, .double)] (([(x9, .inr (3, [.ref (q 0), .ref (h9 0), .ref (t9 0)]))] : va_W) ++ wS cI q st ++ wR cR h9 (fr7 ad n8) ol n7 ++ wT cC t9 tx ln po ki rp tg nu ++ ([(o9, .inl (cJ, 1, .inr (.inl fo)))] : va_W) ++ ([(p9, .inl (cD, 1, .inr (.inr (.inr (.inl fd)))))] : va_W) ++ wM cI m9 sa tx th n7 ln po2 lt fi sc nu2 ad2 rv ++ wP cI ad sv n8) s s.heap H locs := hw
  have e_1500 : r_1500 = nI 1 := e_1500
  subst e_1500
  refine lv_istore (lv' := [(6, .int (nI 1)), (0, .ref b), (1, .ref x9), (2, .ref (m9 0)), (3, .ref o9), (4, .ref p9), (5, .int (nI (5 * k)))]) hx hb dL_law_1503 hl (by decide) rfl (fun ls hl => ?_)
  refine lv_aload_n hx hb dL_law_1505 rfl (lv_at hl 3 rfl) ?_
  refine lv_aload_n hx hb dL_law_1506 rfl (lv_at hl 1 rfl) ?_
  refine lv_iload hx hb dL_law_1507 (lv_at hl 6 rfl) ?_
  refine lv_iconst (v := nI 1) hx hb dL_law_1509 kc_iconst_1 ?_
  refine r_addN hx hb dL_law_1510 ?_
  refine r_sld hx hb hX hbl hbA hL hw (i := (5 * k) + 1) (by omega) (v := p0) h1 dL_law_1511 ?_
  refine cp_Vi (As := [.int p0]) (rest := []) (wc := wM cI m9 sa tx th n7 ln po2 lt fi sc nu2 ad2 rv) (wr := ([(x9, .inr (3, [.ref (q 0), .ref (h9 0), .ref (t9 0)]))] : va_W) ++ wS cI q st ++ wR cR h9 (fr7 ad n8) ol n7 ++ wT cC t9 tx ln po ki rp tg nu ++ ([(o9, .inl (cJ, 1, .inr (.inl fo)))] : va_W) ++ ([(p9, .inl (cD, 1, .inr (.inr (.inr (.inl fd)))))] : va_W)) S (c_X4_clock_e1 l D (sz := H.size) (cI := cI) (m9 := m9) (sa := sa) (tx := tx) (th := th) (sv := n7) (ln := ln) (po := po2) (lt := lt) (fi := fi) (sc := sc) (nu := nu2) (ad := ad2) (rv := rv) (p0 := p0) (hv := hv)) (cwV 1 hts gL_law_X4_clock rfl rfl rfl (by decide +kernel) ⟨Nat.le_of_ble_eq_true rfl, Nat.le_of_ble_eq_true rfl⟩) hw hA [14, 15, 16] [0, 1, 2, 3, 4, 5, 6, 7, 8, 9, 10, 11, 12, 13] [0] rfl rfl (k0 := 17) rfl (by decide) rfl 0 rfl rfl rfl hl.1 (Nat.le_of_ble_eq_true rfl) ⟨(show (cells + 1) + 0 ≤ room_1.cells by omega), (show (slots + 6) + 0 ≤ room_1.slots by omega)⟩ rfl dL_law_1512 (fun r_1512 u_1512 H locs e_1512 hw => ?_)
  have hw : Wd D A [(cI, .int), (cR, .object RX1), (cC, .char), (cJ, .long), (cD, .double)] (wM cI m9 sa tx (nI 1) n7 ln po2 lt fi sc nu2 ad2 rv ++ ([(x9, .inr (3, [.ref (q 0), .ref (h9 0), .ref (t9 0)]))] : va_W) ++ wS cI q st ++ wR cR h9 (fr7 ad n8) ol n7 ++ wT cC t9 tx ln po ki rp tg nu ++ ([(o9, .inl (cJ, 1, .inr (.inl fo)))] : va_W) ++ ([(p9, .inl (cD, 1, .inr (.inr (.inr (.inl fd)))))] : va_W) ++ wP cI ad sv n8) s s.heap H locs := hw
  have e_1512 : r_1512 = nI 0 := e_1512
  subst e_1512
  refine lv_istore (lv' := [(7, .int (nI 0)), (6, .int (nI 1)), (0, .ref b), (1, .ref x9), (2, .ref (m9 0)), (3, .ref o9), (4, .ref p9), (5, .int (nI (5 * k)))]) hx hb dL_law_1515 hl (by decide) rfl (fun ls hl => ?_)
  refine lv_aload_n hx hb dL_law_1517 rfl (lv_at hl 4 rfl) ?_
  refine cq_V (As := []) (rest := []) S (c_X4_thrown l D (cI := cI) (m9 := m9) (sa := sa) (tx := tx) (th := nI 1) (sv := n7) (ln := ln) (po := po2) (lt := lt) (fi := fi) (sc := sc) (nu := nu2) (ad := ad2) (rv := rv)) (cwV 0 hts gL_law_X4_thrown rfl rfl rfl (by decide +kernel) ⟨Nat.le_of_ble_eq_true rfl, Nat.le_of_ble_eq_true rfl⟩) (hw.q.sub [0, 1, 2] [0] rfl rfl) 0 rfl rfl rfl hl.1 (Nat.le_of_ble_eq_true rfl) ⟨(show (cells + 1) ≤ room_1.cells by omega), (show (slots + 6) ≤ room_1.slots by omega)⟩ rfl dL_law_1518 (fun r_1518 e_1518 => ?_)
  have e_1518 : r_1518 = (nI 1) := e_1518
  subst e_1518
  refine lv_iload hx hb dL_law_1521 (lv_at hl 1 rfl) ?_
  refine r_icmp_eqN (tgt := 1528) hx hb (by decide) (by decide) dL_law_1523 (by decide) (fun _ => ?_) (fun h => absurd h (by decide))
  refine lv_iload hx hb dL_law_1528 (lv_at hl 1 rfl) ?_
  refine lv_if_ne (tgt := 1545) hx hb dL_law_1530 (by decide) (fun _ => ?_) (fun h => absurd h (by decide))
  refine lv_goto (tgt := 1875) hx hb dL_law_1545 (by decide) ?_
  have hw : Wd D A [(cI, .int), (cR, .object RX1), (cC, .char), (cJ, .long), (cD, .double)] (([(x9, .inr (3, [.ref (q 0), .ref (h9 0), .ref (t9 0)]))] : va_W) ++ wS cI q st ++ wR cR h9 (fr7 ad n8) ol n7 ++ wT cC t9 tx ln po ki rp tg nu ++ ([(o9, .inl (cJ, 1, .inr (.inl fo)))] : va_W) ++ ([(p9, .inl (cD, 1, .inr (.inr (.inr (.inl fd)))))] : va_W) ++ wM cI m9 sa tx (nI 1) n7 ln po2 lt fi sc nu2 ad2 rv ++ wP cI ad sv n8) s s.heap H locs := hw.ord [3, 4, 5, 6, 7, 8, 9, 10, 11, 12, 13, 14, 15, 16, 0, 1, 2] (k0 := 17) rfl rfl (by decide)
  have hl : lv_has ls 10 [(0, .ref b), (1, .ref x9), (2, .ref (m9 0)), (3, .ref o9), (4, .ref p9), (5, .int (nI (5 * k)))] := lv_sub hl [2, 3, 4, 5, 6, 7] rfl
  refine W.widen (k := cells + 7) (n := slots + 5790) (by omega) (by omega) ?_
  exact kk H locs ls ⟨st, ad, sv, ol, n7, n8, tx, ln, po, ki, rp, tg, nu, fo, fd, sa, nI 1, po2, lt, fi, sc, nu2, ad2, rv, hw, LV_m hLV (by omega)⟩ hl
set_option maxHeartbeats 4000000 in
set_option maxRecDepth 100000 in
theorem law_conflicts_e1 {p : Program} {l : Launch} {e : Env} {s : State} {m : MethodId} {args : Array Value} {below : List Frame} {meth : Method} {c : Code} {Q : State → Prop} {D : va_G} {A : Nat → Prop} {b L : Nat} {xs : Nat → Int32} {cells slots : Nat} {cI cR cC cJ cD : ClassId} {x9 : Nat} {q h9 t9 : Nat → Nat} {o9 p9 : Nat} {m9 : Nat → Nat} {B k : Nat} (F : LF p l s m c args A b L xs) (hk5 : 5 * k + 5 ≤ L) (hB : B + 100 < 2 ^ 31) (hR : cells + 7 ≤ room_1.cells ∧ slots + 5790 ≤ room_1.slots) {st : St} {ad : Nat → Nat → Nat} {sv : Nat → St} {ol n7 n8 : Nat} {tx : Nat → Nat} {ln po : Nat} {ki rp tg nu : Int32} {fo : Nat → Int64} {fd : Nat → UInt64} {sa : Nat → Int32} {th : Int32} {po2 : Nat} {lt fi sc nu2 : Int32} {ad2 rv : Nat} {H : Heap} {locs : List Loc} (hw : Wd D A [(cI, .int), (cR, .object RX1), (cC, .char), (cJ, .long), (cD, .double)] ([(x9, .inr (3, [.ref (q 0), .ref (h9 0), .ref (t9 0)]))] ++ wS cI q st ++ wR cR h9 (fr7 ad n8) ol n7 ++ wT cC t9 tx ln po ki rp tg nu ++ [(o9, .inl (cJ, 1, .inr (.inl fo)))] ++ [(p9, .inl (cD, 1, .inr (.inr (.inr (.inl fd)))))] ++ wM cI m9 sa tx th n7 ln po2 lt fi sc nu2 ad2 rv ++ wP cI ad sv n8) s s.heap H locs) (hLV : LV st sv ol n7 n8 tx ln po sa po2 B) {ls : Array Slot} (hl : lv_has ls 10 [(0, .ref b), (1, .ref x9), (2, .ref (m9 0)), (3, .ref o9), (4, .ref p9), (5, .int (nI (5 * k)))]) {p0 : Int32} (hv : ¬ inP p0 (nI 0) (nI 3)) (h1 : xs (5 * k + 1) = p0) (kk : ∀ (H : Heap) (locs : List Loc) (ls : Array Slot), LW D A s cI cR cC cJ cD x9 q h9 t9 o9 p9 m9 (B + 41) H locs → lv_has ls 10 [(0, .ref b), (1, .ref x9), (2, .ref (m9 0)), (3, .ref o9), (4, .ref p9), (5, .int (nI (5 * k)))] → W p l e room_1 s m args below meth c H locs (cells + 7) (slots + 5790) Q (F0 m 1875 ls [])) : W p l e room_1 s m args below meth c H locs cells slots Q (F0 m 1616 ls []) := by
  obtain ⟨S, hz, hxe, hzq, hl9, hA, hX, hbl, hbA, hL⟩ := id F
  obtain ⟨hh, hRl, hHs, htx, hln, hpo, hpo2⟩ := id hLV
  have h6 : n7 ≤ 6 := Nat.le_trans hh.2.1 hh.2.2.1
  obtain ⟨hx, hb, hml, hown, hts⟩ := id S
  refine lv_aload_n hx hb dL_law_1616 rfl (lv_at hl 1 rfl) ?_
  refine lv_aload_n hx hb dL_law_1617 rfl (lv_at hl 0 rfl) ?_
  refine lv_iload hx hb dL_law_1618 (lv_at hl 5 rfl) ?_
  refine lv_iconst (v := nI 1) hx hb dL_law_1620 kc_iconst_1 ?_
  refine r_addN hx hb dL_law_1621 ?_
  refine r_sld hx hb hX hbl hbA hL hw (i := (5 * k) + 1) (by omega) (v := p0) h1 dL_law_1622 ?_
  refine lv_aload_n hx hb dL_law_1623 rfl (lv_at hl 3 rfl) ?_
  refine cpz_S (w1 := fun (u9 : Unit) => ([(x9, .inr (3, [.ref (q 0), .ref (h9 0), .ref (t9 0)]))] : va_W) ++ wS cI q st ++ wR cR h9 (fr7 ad n8) ol n7 ++ wT cC t9 tx ln po ki rp tg nu ++ ([(o9, .inl (cJ, 1, .inr (.inl fo)))] : va_W)) (pl := fun (u9 : Unit) => wP cI ad sv n8) (As := [.ref x9, .int p0, .ref o9]) (rest := []) (wc := ([(x9, .inr (3, [.ref (q 0), .ref (h9 0), .ref (t9 0)]))] : va_W) ++ wS cI q st ++ wR cR h9 (fr7 ad n8) ol n7 ++ wT cC t9 tx ln po ki rp tg nu ++ ([(o9, .inl (cJ, 1, .inr (.inl fo)))] : va_W)) (wr := ([(p9, .inl (cD, 1, .inr (.inr (.inr (.inl fd)))))] : va_W) ++ wM cI m9 sa tx th n7 ln po2 lt fi sc nu2 ad2 rv) S hz hxe hzq (c_L_conflicts_e1 l D (hl9 := hl9) (sz := H.size) (cI := cI) (cR := cR) (cC := cC) (x9 := x9) (q := q) (st := st) (h9 := h9) (ad := ad) (sv := sv) (ol := ol) (n7 := n7) (n8 := n8) (t9 := t9) (tx := tx) (ln := ln) (po := po) (ki := ki) (rp := rp) (tg := tg) (nu := nu) (cJ := cJ) (o9 := o9) (fo := fo) (p0 := p0) (hh := hh) (hv := hv)) (vx_cwSW 3 hts gL_law_L_conflicts rfl rfl rfl (by decide +kernel) ⟨Nat.le_of_ble_eq_true rfl, Nat.le_of_ble_eq_true rfl⟩) hw hA [0, 1, 2, 3, 4, 5, 6, 7, 8, 9, 10, 11, 12] [13, 14, 15, 16] [0, 1, 2, 3] rfl rfl (k0 := 17) rfl (by decide) rfl rfl hl.1 (Nat.le_of_ble_eq_true rfl) ⟨(show cells + 1 ≤ room_1.cells by omega), (show slots + 6 ≤ room_1.slots by omega)⟩ rfl dL_law_1624 (fun r_1624 u_1624 H locs e_1624 hw => ?_)
  have hw : Wd D A [(cI, .int), (cR, .object RX1), (cC, .char), (cJ, .long), (cD, .double)] (([(x9, .inr (3, [.ref (q 0), .ref (h9 0), .ref (t9 0)]))] : va_W) ++ wS cI q st ++ wR cR h9 (fr7 ad n8) ol n7 ++ wT cC t9 tx ln po ki rp tg nu ++ ([(o9, .inl (cJ, 1, .inr (.inl fo)))] : va_W) ++ ([(p9, .inl (cD, 1, .inr (.inr (.inr (.inl fd)))))] : va_W) ++ wM cI m9 sa tx th n7 ln po2 lt fi sc nu2 ad2 rv ++ wP cI ad sv n8) s s.heap H locs := hw
  have e_1624 : r_1624 = nI 1 := e_1624
  subst e_1624
  refine lv_istore (lv' := [(6, .int (nI 1)), (0, .ref b), (1, .ref x9), (2, .ref (m9 0)), (3, .ref o9), (4, .ref p9), (5, .int (nI (5 * k)))]) hx hb dL_law_1627 hl (by decide) rfl (fun ls hl => ?_)
  refine lv_aload_n hx hb dL_law_1629 rfl (lv_at hl 3 rfl) ?_
  refine lv_aload_n hx hb dL_law_1630 rfl (lv_at hl 1 rfl) ?_
  refine lv_iload hx hb dL_law_1631 (lv_at hl 6 rfl) ?_
  refine lv_iconst (v := nI 1) hx hb dL_law_1633 kc_iconst_1 ?_
  refine r_addN hx hb dL_law_1634 ?_
  refine r_sld hx hb hX hbl hbA hL hw (i := (5 * k) + 1) (by omega) (v := p0) h1 dL_law_1635 ?_
  refine cp_Vi (As := [.int p0]) (rest := []) (wc := wM cI m9 sa tx th n7 ln po2 lt fi sc nu2 ad2 rv) (wr := ([(x9, .inr (3, [.ref (q 0), .ref (h9 0), .ref (t9 0)]))] : va_W) ++ wS cI q st ++ wR cR h9 (fr7 ad n8) ol n7 ++ wT cC t9 tx ln po ki rp tg nu ++ ([(o9, .inl (cJ, 1, .inr (.inl fo)))] : va_W) ++ ([(p9, .inl (cD, 1, .inr (.inr (.inr (.inl fd)))))] : va_W)) S (c_X4_conflicts_e1 l D (sz := H.size) (cI := cI) (m9 := m9) (sa := sa) (tx := tx) (th := th) (sv := n7) (ln := ln) (po := po2) (lt := lt) (fi := fi) (sc := sc) (nu := nu2) (ad := ad2) (rv := rv) (p0 := p0) (hv := hv)) (cwV 1 hts gL_law_X4_conflicts rfl rfl rfl (by decide +kernel) ⟨Nat.le_of_ble_eq_true rfl, Nat.le_of_ble_eq_true rfl⟩) hw hA [14, 15, 16] [0, 1, 2, 3, 4, 5, 6, 7, 8, 9, 10, 11, 12, 13] [0] rfl rfl (k0 := 17) rfl (by decide) rfl 0 rfl rfl rfl hl.1 (Nat.le_of_ble_eq_true rfl) ⟨(show (cells + 1) + 0 ≤ room_1.cells by omega), (show (slots + 6) + 0 ≤ room_1.slots by omega)⟩ rfl dL_law_1636 (fun r_1636 u_1636 H locs e_1636 hw => ?_)
  have hw : Wd D A [(cI, .int), (cR, .object RX1), (cC, .char), (cJ, .long), (cD, .double)] (wM cI m9 sa tx (nI 1) n7 ln po2 lt fi sc nu2 ad2 rv ++ ([(x9, .inr (3, [.ref (q 0), .ref (h9 0), .ref (t9 0)]))] : va_W) ++ wS cI q st ++ wR cR h9 (fr7 ad n8) ol n7 ++ wT cC t9 tx ln po ki rp tg nu ++ ([(o9, .inl (cJ, 1, .inr (.inl fo)))] : va_W) ++ ([(p9, .inl (cD, 1, .inr (.inr (.inr (.inl fd)))))] : va_W) ++ wP cI ad sv n8) s s.heap H locs := hw
  have e_1636 : r_1636 = nI 0 := e_1636
  subst e_1636
  refine lv_istore (lv' := [(7, .int (nI 0)), (6, .int (nI 1)), (0, .ref b), (1, .ref x9), (2, .ref (m9 0)), (3, .ref o9), (4, .ref p9), (5, .int (nI (5 * k)))]) hx hb dL_law_1639 hl (by decide) rfl (fun ls hl => ?_)
  refine lv_aload_n hx hb dL_law_1641 rfl (lv_at hl 4 rfl) ?_
  refine cq_V (As := []) (rest := []) S (c_X4_thrown l D (cI := cI) (m9 := m9) (sa := sa) (tx := tx) (th := nI 1) (sv := n7) (ln := ln) (po := po2) (lt := lt) (fi := fi) (sc := sc) (nu := nu2) (ad := ad2) (rv := rv)) (cwV 0 hts gL_law_X4_thrown rfl rfl rfl (by decide +kernel) ⟨Nat.le_of_ble_eq_true rfl, Nat.le_of_ble_eq_true rfl⟩) (hw.q.sub [0, 1, 2] [0] rfl rfl) 0 rfl rfl rfl hl.1 (Nat.le_of_ble_eq_true rfl) ⟨(show (cells + 1) ≤ room_1.cells by omega), (show (slots + 6) ≤ room_1.slots by omega)⟩ rfl dL_law_1642 (fun r_1642 e_1642 => ?_)
  have e_1642 : r_1642 = (nI 1) := e_1642
  subst e_1642
  refine lv_iload hx hb dL_law_1645 (lv_at hl 1 rfl) ?_
  refine r_icmp_eqN (tgt := 1652) hx hb (by decide) (by decide) dL_law_1647 (by decide) (fun _ => ?_) (fun h => absurd h (by decide))
  refine lv_iload hx hb dL_law_1652 (lv_at hl 1 rfl) ?_
  refine lv_if_ne (tgt := 1669) hx hb dL_law_1654 (by decide) (fun _ => ?_) (fun h => absurd h (by decide))
  refine lv_goto (tgt := 1875) hx hb dL_law_1669 (by decide) ?_
  have hw : Wd D A [(cI, .int), (cR, .object RX1), (cC, .char), (cJ, .long), (cD, .double)] (([(x9, .inr (3, [.ref (q 0), .ref (h9 0), .ref (t9 0)]))] : va_W) ++ wS cI q st ++ wR cR h9 (fr7 ad n8) ol n7 ++ wT cC t9 tx ln po ki rp tg nu ++ ([(o9, .inl (cJ, 1, .inr (.inl fo)))] : va_W) ++ ([(p9, .inl (cD, 1, .inr (.inr (.inr (.inl fd)))))] : va_W) ++ wM cI m9 sa tx (nI 1) n7 ln po2 lt fi sc nu2 ad2 rv ++ wP cI ad sv n8) s s.heap H locs := hw.ord [3, 4, 5, 6, 7, 8, 9, 10, 11, 12, 13, 14, 15, 16, 0, 1, 2] (k0 := 17) rfl rfl (by decide)
  have hl : lv_has ls 10 [(0, .ref b), (1, .ref x9), (2, .ref (m9 0)), (3, .ref o9), (4, .ref p9), (5, .int (nI (5 * k)))] := lv_sub hl [2, 3, 4, 5, 6, 7] rfl
  refine W.widen (k := cells + 7) (n := slots + 5790) (by omega) (by omega) ?_
  exact kk H locs ls ⟨st, ad, sv, ol, n7, n8, tx, ln, po, ki, rp, tg, nu, fo, fd, sa, nI 1, po2, lt, fi, sc, nu2, ad2, rv, hw, LV_m hLV (by omega)⟩ hl
set_option maxHeartbeats 4000000 in
set_option maxRecDepth 100000 in
theorem law_latestMerge_e1 {p : Program} {l : Launch} {e : Env} {s : State} {m : MethodId} {args : Array Value} {below : List Frame} {meth : Method} {c : Code} {Q : State → Prop} {D : va_G} {A : Nat → Prop} {b L : Nat} {xs : Nat → Int32} {cells slots : Nat} {cI cR cC cJ cD : ClassId} {x9 : Nat} {q h9 t9 : Nat → Nat} {o9 p9 : Nat} {m9 : Nat → Nat} {B k : Nat} (F : LF p l s m c args A b L xs) (hk5 : 5 * k + 5 ≤ L) (hB : B + 100 < 2 ^ 31) (hR : cells + 7 ≤ room_1.cells ∧ slots + 5790 ≤ room_1.slots) {st : St} {ad : Nat → Nat → Nat} {sv : Nat → St} {ol n7 n8 : Nat} {tx : Nat → Nat} {ln po : Nat} {ki rp tg nu : Int32} {fo : Nat → Int64} {fd : Nat → UInt64} {sa : Nat → Int32} {th : Int32} {po2 : Nat} {lt fi sc nu2 : Int32} {ad2 rv : Nat} {H : Heap} {locs : List Loc} (hw : Wd D A [(cI, .int), (cR, .object RX1), (cC, .char), (cJ, .long), (cD, .double)] ([(x9, .inr (3, [.ref (q 0), .ref (h9 0), .ref (t9 0)]))] ++ wS cI q st ++ wR cR h9 (fr7 ad n8) ol n7 ++ wT cC t9 tx ln po ki rp tg nu ++ [(o9, .inl (cJ, 1, .inr (.inl fo)))] ++ [(p9, .inl (cD, 1, .inr (.inr (.inr (.inl fd)))))] ++ wM cI m9 sa tx th n7 ln po2 lt fi sc nu2 ad2 rv ++ wP cI ad sv n8) s s.heap H locs) (hLV : LV st sv ol n7 n8 tx ln po sa po2 B) {ls : Array Slot} (hl : lv_has ls 10 [(0, .ref b), (1, .ref x9), (2, .ref (m9 0)), (3, .ref o9), (4, .ref p9), (5, .int (nI (5 * k)))]) {p0 : Int32} (hv : ¬ inP p0 (nI 0) (nI 3)) (h1 : xs (5 * k + 1) = p0) (kk : ∀ (H : Heap) (locs : List Loc) (ls : Array Slot), LW D A s cI cR cC cJ cD x9 q h9 t9 o9 p9 m9 (B + 41) H locs → lv_has ls 10 [(0, .ref b), (1, .ref x9), (2, .ref (m9 0)), (3, .ref o9), (4, .ref p9), (5, .int (nI (5 * k)))] → W p l e room_1 s m args below meth c H locs (cells + 7) (slots + 5790) Q (F0 m 1875 ls [])) : W p l e room_1 s m args below meth c H locs cells slots Q (F0 m 1713 ls []) := by
  obtain ⟨S, hz, hxe, hzq, hl9, hA, hX, hbl, hbA, hL⟩ := id F
  obtain ⟨hh, hRl, hHs, htx, hln, hpo, hpo2⟩ := id hLV
  have h6 : n7 ≤ 6 := Nat.le_trans hh.2.1 hh.2.2.1
  obtain ⟨hx, hb, hml, hown, hts⟩ := id S
  refine lv_aload_n hx hb dL_law_1713 rfl (lv_at hl 1 rfl) ?_
  refine lv_aload_n hx hb dL_law_1714 rfl (lv_at hl 0 rfl) ?_
  refine lv_iload hx hb dL_law_1715 (lv_at hl 5 rfl) ?_
  refine lv_iconst (v := nI 1) hx hb dL_law_1717 kc_iconst_1 ?_
  refine r_addN hx hb dL_law_1718 ?_
  refine r_sld hx hb hX hbl hbA hL hw (i := (5 * k) + 1) (by omega) (v := p0) h1 dL_law_1719 ?_
  refine lv_aload_n hx hb dL_law_1720 rfl (lv_at hl 3 rfl) ?_
  refine cpz_S (w1 := fun (u9 : Unit) => ([(x9, .inr (3, [.ref (q 0), .ref (h9 0), .ref (t9 0)]))] : va_W) ++ wS cI q st ++ wR cR h9 (fr7 ad n8) ol n7 ++ wT cC t9 tx ln po ki rp tg nu ++ ([(o9, .inl (cJ, 1, .inr (.inl fo)))] : va_W)) (pl := fun (u9 : Unit) => wP cI ad sv n8) (As := [.ref x9, .int p0, .ref o9]) (rest := []) (wc := ([(x9, .inr (3, [.ref (q 0), .ref (h9 0), .ref (t9 0)]))] : va_W) ++ wS cI q st ++ wR cR h9 (fr7 ad n8) ol n7 ++ wT cC t9 tx ln po ki rp tg nu ++ ([(o9, .inl (cJ, 1, .inr (.inl fo)))] : va_W)) (wr := ([(p9, .inl (cD, 1, .inr (.inr (.inr (.inl fd)))))] : va_W) ++ wM cI m9 sa tx th n7 ln po2 lt fi sc nu2 ad2 rv) S hz hxe hzq (c_L_latestMerge_e1 l D (hl9 := hl9) (sz := H.size) (cI := cI) (cR := cR) (cC := cC) (x9 := x9) (q := q) (st := st) (h9 := h9) (ad := ad) (sv := sv) (ol := ol) (n7 := n7) (n8 := n8) (t9 := t9) (tx := tx) (ln := ln) (po := po) (ki := ki) (rp := rp) (tg := tg) (nu := nu) (cJ := cJ) (o9 := o9) (fo := fo) (p0 := p0) (hh := hh) (hv := hv)) (vx_cwSW 3 hts gL_law_L_latestMerge rfl rfl rfl (by decide +kernel) ⟨Nat.le_of_ble_eq_true rfl, Nat.le_of_ble_eq_true rfl⟩) hw hA [0, 1, 2, 3, 4, 5, 6, 7, 8, 9, 10, 11, 12] [13, 14, 15, 16] [0, 1, 2, 3] rfl rfl (k0 := 17) rfl (by decide) rfl rfl hl.1 (Nat.le_of_ble_eq_true rfl) ⟨(show cells + 1 ≤ room_1.cells by omega), (show slots + 6 ≤ room_1.slots by omega)⟩ rfl dL_law_1721 (fun r_1721 u_1721 H locs e_1721 hw => ?_)
  have hw : Wd D A [(cI, .int), (cR, .object RX1), (cC, .char), (cJ, .long), (cD, .double)] (([(x9, .inr (3, [.ref (q 0), .ref (h9 0), .ref (t9 0)]))] : va_W) ++ wS cI q st ++ wR cR h9 (fr7 ad n8) ol n7 ++ wT cC t9 tx ln po ki rp tg nu ++ ([(o9, .inl (cJ, 1, .inr (.inl fo)))] : va_W) ++ ([(p9, .inl (cD, 1, .inr (.inr (.inr (.inl fd)))))] : va_W) ++ wM cI m9 sa tx th n7 ln po2 lt fi sc nu2 ad2 rv ++ wP cI ad sv n8) s s.heap H locs := hw
  have e_1721 : r_1721 = nI 1 := e_1721
  subst e_1721
  refine lv_istore (lv' := [(6, .int (nI 1)), (0, .ref b), (1, .ref x9), (2, .ref (m9 0)), (3, .ref o9), (4, .ref p9), (5, .int (nI (5 * k)))]) hx hb dL_law_1724 hl (by decide) rfl (fun ls hl => ?_)
  refine lv_aload_n hx hb dL_law_1726 rfl (lv_at hl 3 rfl) ?_
  refine lv_aload_n hx hb dL_law_1727 rfl (lv_at hl 1 rfl) ?_
  refine lv_iload hx hb dL_law_1728 (lv_at hl 6 rfl) ?_
  refine lv_iconst (v := nI 1) hx hb dL_law_1730 kc_iconst_1 ?_
  refine r_addN hx hb dL_law_1731 ?_
  refine r_sld hx hb hX hbl hbA hL hw (i := (5 * k) + 1) (by omega) (v := p0) h1 dL_law_1732 ?_
  refine cp_Vi (As := [.int p0]) (rest := []) (wc := wM cI m9 sa tx th n7 ln po2 lt fi sc nu2 ad2 rv) (wr := ([(x9, .inr (3, [.ref (q 0), .ref (h9 0), .ref (t9 0)]))] : va_W) ++ wS cI q st ++ wR cR h9 (fr7 ad n8) ol n7 ++ wT cC t9 tx ln po ki rp tg nu ++ ([(o9, .inl (cJ, 1, .inr (.inl fo)))] : va_W) ++ ([(p9, .inl (cD, 1, .inr (.inr (.inr (.inl fd)))))] : va_W)) S (c_X4_latestMerge_e1 l D (sz := H.size) (cI := cI) (m9 := m9) (sa := sa) (tx := tx) (th := th) (sv := n7) (ln := ln) (po := po2) (lt := lt) (fi := fi) (sc := sc) (nu := nu2) (ad := ad2) (rv := rv) (p0 := p0) (hv := hv)) (cwV 1 hts gL_law_X4_latestMerge rfl rfl rfl (by decide +kernel) ⟨Nat.le_of_ble_eq_true rfl, Nat.le_of_ble_eq_true rfl⟩) hw hA [14, 15, 16] [0, 1, 2, 3, 4, 5, 6, 7, 8, 9, 10, 11, 12, 13] [0] rfl rfl (k0 := 17) rfl (by decide) rfl 0 rfl rfl rfl hl.1 (Nat.le_of_ble_eq_true rfl) ⟨(show (cells + 1) + 0 ≤ room_1.cells by omega), (show (slots + 6) + 0 ≤ room_1.slots by omega)⟩ rfl dL_law_1733 (fun r_1733 u_1733 H locs e_1733 hw => ?_)
  have hw : Wd D A [(cI, .int), (cR, .object RX1), (cC, .char), (cJ, .long), (cD, .double)] (wM cI m9 sa tx (nI 1) n7 ln po2 lt fi sc nu2 ad2 rv ++ ([(x9, .inr (3, [.ref (q 0), .ref (h9 0), .ref (t9 0)]))] : va_W) ++ wS cI q st ++ wR cR h9 (fr7 ad n8) ol n7 ++ wT cC t9 tx ln po ki rp tg nu ++ ([(o9, .inl (cJ, 1, .inr (.inl fo)))] : va_W) ++ ([(p9, .inl (cD, 1, .inr (.inr (.inr (.inl fd)))))] : va_W) ++ wP cI ad sv n8) s s.heap H locs := hw
  have e_1733 : r_1733 = nI 0 := e_1733
  subst e_1733
  refine lv_istore (lv' := [(7, .int (nI 0)), (6, .int (nI 1)), (0, .ref b), (1, .ref x9), (2, .ref (m9 0)), (3, .ref o9), (4, .ref p9), (5, .int (nI (5 * k)))]) hx hb dL_law_1736 hl (by decide) rfl (fun ls hl => ?_)
  refine lv_aload_n hx hb dL_law_1738 rfl (lv_at hl 4 rfl) ?_
  refine cq_V (As := []) (rest := []) S (c_X4_thrown l D (cI := cI) (m9 := m9) (sa := sa) (tx := tx) (th := nI 1) (sv := n7) (ln := ln) (po := po2) (lt := lt) (fi := fi) (sc := sc) (nu := nu2) (ad := ad2) (rv := rv)) (cwV 0 hts gL_law_X4_thrown rfl rfl rfl (by decide +kernel) ⟨Nat.le_of_ble_eq_true rfl, Nat.le_of_ble_eq_true rfl⟩) (hw.q.sub [0, 1, 2] [0] rfl rfl) 0 rfl rfl rfl hl.1 (Nat.le_of_ble_eq_true rfl) ⟨(show (cells + 1) ≤ room_1.cells by omega), (show (slots + 6) ≤ room_1.slots by omega)⟩ rfl dL_law_1739 (fun r_1739 e_1739 => ?_)
  have e_1739 : r_1739 = (nI 1) := e_1739
  subst e_1739
  refine lv_iload hx hb dL_law_1742 (lv_at hl 1 rfl) ?_
  refine r_icmp_eqN (tgt := 1749) hx hb (by decide) (by decide) dL_law_1744 (by decide) (fun _ => ?_) (fun h => absurd h (by decide))
  refine lv_iload hx hb dL_law_1749 (lv_at hl 1 rfl) ?_
  refine lv_if_ne (tgt := 1766) hx hb dL_law_1751 (by decide) (fun _ => ?_) (fun h => absurd h (by decide))
  refine lv_goto (tgt := 1875) hx hb dL_law_1766 (by decide) ?_
  have hw : Wd D A [(cI, .int), (cR, .object RX1), (cC, .char), (cJ, .long), (cD, .double)] (([(x9, .inr (3, [.ref (q 0), .ref (h9 0), .ref (t9 0)]))] : va_W) ++ wS cI q st ++ wR cR h9 (fr7 ad n8) ol n7 ++ wT cC t9 tx ln po ki rp tg nu ++ ([(o9, .inl (cJ, 1, .inr (.inl fo)))] : va_W) ++ ([(p9, .inl (cD, 1, .inr (.inr (.inr (.inl fd)))))] : va_W) ++ wM cI m9 sa tx (nI 1) n7 ln po2 lt fi sc nu2 ad2 rv ++ wP cI ad sv n8) s s.heap H locs := hw.ord [3, 4, 5, 6, 7, 8, 9, 10, 11, 12, 13, 14, 15, 16, 0, 1, 2] (k0 := 17) rfl rfl (by decide)
  have hl : lv_has ls 10 [(0, .ref b), (1, .ref x9), (2, .ref (m9 0)), (3, .ref o9), (4, .ref p9), (5, .int (nI (5 * k)))] := lv_sub hl [2, 3, 4, 5, 6, 7] rfl
  refine W.widen (k := cells + 7) (n := slots + 5790) (by omega) (by omega) ?_
  exact kk H locs ls ⟨st, ad, sv, ol, n7, n8, tx, ln, po, ki, rp, tg, nu, fo, fd, sa, nI 1, po2, lt, fi, sc, nu2, ad2, rv, hw, LV_m hLV (by omega)⟩ hl
set_option maxHeartbeats 4000000 in
set_option maxRecDepth 100000 in
theorem law_appendText_e1 {p : Program} {l : Launch} {e : Env} {s : State} {m : MethodId} {args : Array Value} {below : List Frame} {meth : Method} {c : Code} {Q : State → Prop} {D : va_G} {A : Nat → Prop} {b L : Nat} {xs : Nat → Int32} {cells slots : Nat} {cI cR cC cJ cD : ClassId} {x9 : Nat} {q h9 t9 : Nat → Nat} {o9 p9 : Nat} {m9 : Nat → Nat} {B k : Nat} (F : LF p l s m c args A b L xs) (hk5 : 5 * k + 5 ≤ L) (hB : B + 100 < 2 ^ 31) (hR : cells + 7 ≤ room_1.cells ∧ slots + 5790 ≤ room_1.slots) {st : St} {ad : Nat → Nat → Nat} {sv : Nat → St} {ol n7 n8 : Nat} {tx : Nat → Nat} {ln po : Nat} {ki rp tg nu : Int32} {fo : Nat → Int64} {fd : Nat → UInt64} {sa : Nat → Int32} {th : Int32} {po2 : Nat} {lt fi sc nu2 : Int32} {ad2 rv : Nat} {H : Heap} {locs : List Loc} (hw : Wd D A [(cI, .int), (cR, .object RX1), (cC, .char), (cJ, .long), (cD, .double)] ([(x9, .inr (3, [.ref (q 0), .ref (h9 0), .ref (t9 0)]))] ++ wS cI q st ++ wR cR h9 (fr7 ad n8) ol n7 ++ wT cC t9 tx ln po ki rp tg nu ++ [(o9, .inl (cJ, 1, .inr (.inl fo)))] ++ [(p9, .inl (cD, 1, .inr (.inr (.inr (.inl fd)))))] ++ wM cI m9 sa tx th n7 ln po2 lt fi sc nu2 ad2 rv ++ wP cI ad sv n8) s s.heap H locs) (hLV : LV st sv ol n7 n8 tx ln po sa po2 B) {ls : Array Slot} (hl : lv_has ls 10 [(0, .ref b), (1, .ref x9), (2, .ref (m9 0)), (3, .ref o9), (4, .ref p9), (5, .int (nI (5 * k)))]) {p0 : Int32} (hv : ¬ inP p0 (nI 32) (nI 126)) (h1 : xs (5 * k + 1) = p0) (kk : ∀ (H : Heap) (locs : List Loc) (ls : Array Slot), LW D A s cI cR cC cJ cD x9 q h9 t9 o9 p9 m9 (B + 41) H locs → lv_has ls 10 [(0, .ref b), (1, .ref x9), (2, .ref (m9 0)), (3, .ref o9), (4, .ref p9), (5, .int (nI (5 * k)))] → W p l e room_1 s m args below meth c H locs (cells + 7) (slots + 5790) Q (F0 m 1875 ls [])) : W p l e room_1 s m args below meth c H locs cells slots Q (F0 m 657 ls []) := by
  obtain ⟨S, hz, hxe, hzq, hl9, hA, hX, hbl, hbA, hL⟩ := id F
  obtain ⟨hh, hRl, hHs, htx, hln, hpo, hpo2⟩ := id hLV
  have h6 : n7 ≤ 6 := Nat.le_trans hh.2.1 hh.2.2.1
  obtain ⟨hx, hb, hml, hown, hts⟩ := id S
  refine lv_aload_n hx hb dL_law_657 rfl (lv_at hl 1 rfl) ?_
  refine lv_aload_n hx hb dL_law_658 rfl (lv_at hl 0 rfl) ?_
  refine lv_iload hx hb dL_law_659 (lv_at hl 5 rfl) ?_
  refine lv_iconst (v := nI 1) hx hb dL_law_661 kc_iconst_1 ?_
  refine r_addN hx hb dL_law_662 ?_
  refine r_sld hx hb hX hbl hbA hL hw (i := (5 * k) + 1) (by omega) (v := p0) h1 dL_law_663 ?_
  refine lv_aload_n hx hb dL_law_664 rfl (lv_at hl 3 rfl) ?_
  refine cpz_S (w1 := fun (u9 : Unit) => ([(x9, .inr (3, [.ref (q 0), .ref (h9 0), .ref (t9 0)]))] : va_W) ++ wS cI q st ++ wR cR h9 (fr7 ad n8) ol n7 ++ wT cC t9 tx ln po ki rp tg nu ++ ([(o9, .inl (cJ, 1, .inr (.inl fo)))] : va_W)) (pl := fun (u9 : Unit) => wP cI ad sv n8) (As := [.ref x9, .int p0, .ref o9]) (rest := []) (wc := ([(x9, .inr (3, [.ref (q 0), .ref (h9 0), .ref (t9 0)]))] : va_W) ++ wS cI q st ++ wR cR h9 (fr7 ad n8) ol n7 ++ wT cC t9 tx ln po ki rp tg nu ++ ([(o9, .inl (cJ, 1, .inr (.inl fo)))] : va_W)) (wr := ([(p9, .inl (cD, 1, .inr (.inr (.inr (.inl fd)))))] : va_W) ++ wM cI m9 sa tx th n7 ln po2 lt fi sc nu2 ad2 rv) S hz hxe hzq (c_L_appendText_e1 l D (hl9 := hl9) (sz := H.size) (cI := cI) (cR := cR) (cC := cC) (x9 := x9) (q := q) (st := st) (h9 := h9) (ad := ad) (sv := sv) (ol := ol) (n7 := n7) (n8 := n8) (t9 := t9) (tx := tx) (ln := ln) (po := po) (ki := ki) (rp := rp) (tg := tg) (nu := nu) (cJ := cJ) (o9 := o9) (fo := fo) (p0 := p0) (hh := hh) (hv := hv)) (vx_cwSW 3 hts gL_law_L_appendText rfl rfl rfl (by decide +kernel) ⟨Nat.le_of_ble_eq_true rfl, Nat.le_of_ble_eq_true rfl⟩) hw hA [0, 1, 2, 3, 4, 5, 6, 7, 8, 9, 10, 11, 12] [13, 14, 15, 16] [0, 1, 2, 3] rfl rfl (k0 := 17) rfl (by decide) rfl rfl hl.1 (Nat.le_of_ble_eq_true rfl) ⟨(show cells + 1 ≤ room_1.cells by omega), (show slots + 6 ≤ room_1.slots by omega)⟩ rfl dL_law_665 (fun r_665 u_665 H locs e_665 hw => ?_)
  have hw : Wd D A [(cI, .int), (cR, .object RX1), (cC, .char), (cJ, .long), (cD, .double)] (([(x9, .inr (3, [.ref (q 0), .ref (h9 0), .ref (t9 0)]))] : va_W) ++ wS cI q st ++ wR cR h9 (fr7 ad n8) ol n7 ++ wT cC t9 tx ln po ki rp tg nu ++ ([(o9, .inl (cJ, 1, .inr (.inl fo)))] : va_W) ++ ([(p9, .inl (cD, 1, .inr (.inr (.inr (.inl fd)))))] : va_W) ++ wM cI m9 sa tx th n7 ln po2 lt fi sc nu2 ad2 rv ++ wP cI ad sv n8) s s.heap H locs := hw
  have e_665 : r_665 = nI 1 := e_665
  subst e_665
  refine lv_istore (lv' := [(6, .int (nI 1)), (0, .ref b), (1, .ref x9), (2, .ref (m9 0)), (3, .ref o9), (4, .ref p9), (5, .int (nI (5 * k)))]) hx hb dL_law_668 hl (by decide) rfl (fun ls hl => ?_)
  refine lv_aload_n hx hb dL_law_670 rfl (lv_at hl 3 rfl) ?_
  refine lv_aload_n hx hb dL_law_671 rfl (lv_at hl 1 rfl) ?_
  refine lv_iload hx hb dL_law_672 (lv_at hl 6 rfl) ?_
  refine lv_iconst (v := nI 1) hx hb dL_law_674 kc_iconst_1 ?_
  refine r_addN hx hb dL_law_675 ?_
  refine r_sld hx hb hX hbl hbA hL hw (i := (5 * k) + 1) (by omega) (v := p0) h1 dL_law_676 ?_
  refine cp_Vi (As := [.int p0]) (rest := []) (wc := wM cI m9 sa tx th n7 ln po2 lt fi sc nu2 ad2 rv) (wr := ([(x9, .inr (3, [.ref (q 0), .ref (h9 0), .ref (t9 0)]))] : va_W) ++ wS cI q st ++ wR cR h9 (fr7 ad n8) ol n7 ++ wT cC t9 tx ln po ki rp tg nu ++ ([(o9, .inl (cJ, 1, .inr (.inl fo)))] : va_W) ++ ([(p9, .inl (cD, 1, .inr (.inr (.inr (.inl fd)))))] : va_W)) S (c_X4_appendText_e1 l D (sz := H.size) (cI := cI) (m9 := m9) (sa := sa) (tx := tx) (th := th) (sv := n7) (ln := ln) (po := po2) (lt := lt) (fi := fi) (sc := sc) (nu := nu2) (ad := ad2) (rv := rv) (p0 := p0) (hv := hv)) (cwV 1 hts gL_law_X4_appendText rfl rfl rfl (by decide +kernel) ⟨Nat.le_of_ble_eq_true rfl, Nat.le_of_ble_eq_true rfl⟩) hw hA [14, 15, 16] [0, 1, 2, 3, 4, 5, 6, 7, 8, 9, 10, 11, 12, 13] [0] rfl rfl (k0 := 17) rfl (by decide) rfl 0 rfl rfl rfl hl.1 (Nat.le_of_ble_eq_true rfl) ⟨(show (cells + 1) + 0 ≤ room_1.cells by omega), (show (slots + 6) + 0 ≤ room_1.slots by omega)⟩ rfl dL_law_677 (fun r_677 u_677 H locs e_677 hw => ?_)
  have hw : Wd D A [(cI, .int), (cR, .object RX1), (cC, .char), (cJ, .long), (cD, .double)] (wM cI m9 sa tx (nI 1) n7 ln po2 lt fi sc nu2 ad2 rv ++ ([(x9, .inr (3, [.ref (q 0), .ref (h9 0), .ref (t9 0)]))] : va_W) ++ wS cI q st ++ wR cR h9 (fr7 ad n8) ol n7 ++ wT cC t9 tx ln po ki rp tg nu ++ ([(o9, .inl (cJ, 1, .inr (.inl fo)))] : va_W) ++ ([(p9, .inl (cD, 1, .inr (.inr (.inr (.inl fd)))))] : va_W) ++ wP cI ad sv n8) s s.heap H locs := hw
  have e_677 : r_677 = nI 0 := e_677
  subst e_677
  refine lv_istore (lv' := [(7, .int (nI 0)), (6, .int (nI 1)), (0, .ref b), (1, .ref x9), (2, .ref (m9 0)), (3, .ref o9), (4, .ref p9), (5, .int (nI (5 * k)))]) hx hb dL_law_680 hl (by decide) rfl (fun ls hl => ?_)
  refine lv_aload_n hx hb dL_law_682 rfl (lv_at hl 4 rfl) ?_
  refine cq_V (As := []) (rest := []) S (c_X4_thrown l D (cI := cI) (m9 := m9) (sa := sa) (tx := tx) (th := nI 1) (sv := n7) (ln := ln) (po := po2) (lt := lt) (fi := fi) (sc := sc) (nu := nu2) (ad := ad2) (rv := rv)) (cwV 0 hts gL_law_X4_thrown rfl rfl rfl (by decide +kernel) ⟨Nat.le_of_ble_eq_true rfl, Nat.le_of_ble_eq_true rfl⟩) (hw.q.sub [0, 1, 2] [0] rfl rfl) 0 rfl rfl rfl hl.1 (Nat.le_of_ble_eq_true rfl) ⟨(show (cells + 1) ≤ room_1.cells by omega), (show (slots + 6) ≤ room_1.slots by omega)⟩ rfl dL_law_683 (fun r_683 e_683 => ?_)
  have e_683 : r_683 = (nI 1) := e_683
  subst e_683
  refine lv_iload hx hb dL_law_686 (lv_at hl 1 rfl) ?_
  refine r_icmp_eqN (tgt := 693) hx hb (by decide) (by decide) dL_law_688 (by decide) (fun _ => ?_) (fun h => absurd h (by decide))
  refine lv_iload hx hb dL_law_693 (lv_at hl 1 rfl) ?_
  refine lv_if_ne (tgt := 710) hx hb dL_law_695 (by decide) (fun _ => ?_) (fun h => absurd h (by decide))
  refine lv_goto (tgt := 1875) hx hb dL_law_710 (by decide) ?_
  have hw : Wd D A [(cI, .int), (cR, .object RX1), (cC, .char), (cJ, .long), (cD, .double)] (([(x9, .inr (3, [.ref (q 0), .ref (h9 0), .ref (t9 0)]))] : va_W) ++ wS cI q st ++ wR cR h9 (fr7 ad n8) ol n7 ++ wT cC t9 tx ln po ki rp tg nu ++ ([(o9, .inl (cJ, 1, .inr (.inl fo)))] : va_W) ++ ([(p9, .inl (cD, 1, .inr (.inr (.inr (.inl fd)))))] : va_W) ++ wM cI m9 sa tx (nI 1) n7 ln po2 lt fi sc nu2 ad2 rv ++ wP cI ad sv n8) s s.heap H locs := hw.ord [3, 4, 5, 6, 7, 8, 9, 10, 11, 12, 13, 14, 15, 16, 0, 1, 2] (k0 := 17) rfl rfl (by decide)
  have hl : lv_has ls 10 [(0, .ref b), (1, .ref x9), (2, .ref (m9 0)), (3, .ref o9), (4, .ref p9), (5, .int (nI (5 * k)))] := lv_sub hl [2, 3, 4, 5, 6, 7] rfl
  refine W.widen (k := cells + 7) (n := slots + 5790) (by omega) (by omega) ?_
  exact kk H locs ls ⟨st, ad, sv, ol, n7, n8, tx, ln, po, ki, rp, tg, nu, fo, fd, sa, nI 1, po2, lt, fi, sc, nu2, ad2, rv, hw, LV_m hLV (by omega)⟩ hl
set_option maxHeartbeats 4000000 in
set_option maxRecDepth 100000 in
theorem law_put_e2 {p : Program} {l : Launch} {e : Env} {s : State} {m : MethodId} {args : Array Value} {below : List Frame} {meth : Method} {c : Code} {Q : State → Prop} {D : va_G} {A : Nat → Prop} {b L : Nat} {xs : Nat → Int32} {cells slots : Nat} {cI cR cC cJ cD : ClassId} {x9 : Nat} {q h9 t9 : Nat → Nat} {o9 p9 : Nat} {m9 : Nat → Nat} {B k : Nat} (F : LF p l s m c args A b L xs) (hk5 : 5 * k + 5 ≤ L) (hB : B + 100 < 2 ^ 31) (hR : cells + 7 ≤ room_1.cells ∧ slots + 5790 ≤ room_1.slots) {st : St} {ad : Nat → Nat → Nat} {sv : Nat → St} {ol n7 n8 : Nat} {tx : Nat → Nat} {ln po : Nat} {ki rp tg nu : Int32} {fo : Nat → Int64} {fd : Nat → UInt64} {sa : Nat → Int32} {th : Int32} {po2 : Nat} {lt fi sc nu2 : Int32} {ad2 rv : Nat} {H : Heap} {locs : List Loc} (hw : Wd D A [(cI, .int), (cR, .object RX1), (cC, .char), (cJ, .long), (cD, .double)] ([(x9, .inr (3, [.ref (q 0), .ref (h9 0), .ref (t9 0)]))] ++ wS cI q st ++ wR cR h9 (fr7 ad n8) ol n7 ++ wT cC t9 tx ln po ki rp tg nu ++ [(o9, .inl (cJ, 1, .inr (.inl fo)))] ++ [(p9, .inl (cD, 1, .inr (.inr (.inr (.inl fd)))))] ++ wM cI m9 sa tx th n7 ln po2 lt fi sc nu2 ad2 rv ++ wP cI ad sv n8) s s.heap H locs) (hLV : LV st sv ol n7 n8 tx ln po sa po2 B) {ls : Array Slot} (hl : lv_has ls 10 [(0, .ref b), (1, .ref x9), (2, .ref (m9 0)), (3, .ref o9), (4, .ref p9), (5, .int (nI (5 * k)))]) {r w g : Nat} {v : Int32} (hr : r < 4) (hw5 : w < 6) (hg : g < 3) (hv : ¬ inP v (nI 0) (nI 999)) (h1 : xs (5 * k + 1) = nI r) (h2 : xs (5 * k + 2) = nI w) (h3 : xs (5 * k + 3) = nI g) (h4 : xs (5 * k + 4) = v) (kk : ∀ (H : Heap) (locs : List Loc) (ls : Array Slot), LW D A s cI cR cC cJ cD x9 q h9 t9 o9 p9 m9 (B + 41) H locs → lv_has ls 10 [(0, .ref b), (1, .ref x9), (2, .ref (m9 0)), (3, .ref o9), (4, .ref p9), (5, .int (nI (5 * k)))] → W p l e room_1 s m args below meth c H locs (cells + 7) (slots + 5790) Q (F0 m 1875 ls [])) : W p l e room_1 s m args below meth c H locs cells slots Q (F0 m 176 ls []) := by
  obtain ⟨S, hz, hxe, hzq, hl9, hA, hX, hbl, hbA, hL⟩ := id F
  obtain ⟨hh, hRl, hHs, htx, hln, hpo, hpo2⟩ := id hLV
  have h6 : n7 ≤ 6 := Nat.le_trans hh.2.1 hh.2.2.1
  obtain ⟨hx, hb, hml, hown, hts⟩ := id S
  refine lv_aload_n hx hb dL_law_176 rfl (lv_at hl 1 rfl) ?_
  refine lv_aload_n hx hb dL_law_177 rfl (lv_at hl 0 rfl) ?_
  refine lv_iload hx hb dL_law_178 (lv_at hl 5 rfl) ?_
  refine lv_iconst (v := nI 1) hx hb dL_law_180 kc_iconst_1 ?_
  refine r_addN hx hb dL_law_181 ?_
  refine r_sld hx hb hX hbl hbA hL hw (i := (5 * k) + 1) (by omega) (v := nI r) h1 dL_law_182 ?_
  refine lv_aload_n hx hb dL_law_183 rfl (lv_at hl 0 rfl) ?_
  refine lv_iload hx hb dL_law_184 (lv_at hl 5 rfl) ?_
  refine lv_iconst (v := nI 2) hx hb dL_law_186 kc_iconst_2 ?_
  refine r_addN hx hb dL_law_187 ?_
  refine r_sld hx hb hX hbl hbA hL hw (i := (5 * k) + 2) (by omega) (v := nI w) h2 dL_law_188 ?_
  refine lv_aload_n hx hb dL_law_189 rfl (lv_at hl 0 rfl) ?_
  refine lv_iload hx hb dL_law_190 (lv_at hl 5 rfl) ?_
  refine lv_iconst (v := nI 3) hx hb dL_law_192 kc_iconst_3 ?_
  refine r_addN hx hb dL_law_193 ?_
  refine r_sld hx hb hX hbl hbA hL hw (i := (5 * k) + 3) (by omega) (v := nI g) h3 dL_law_194 ?_
  refine lv_aload_n hx hb dL_law_195 rfl (lv_at hl 0 rfl) ?_
  refine lv_iload hx hb dL_law_196 (lv_at hl 5 rfl) ?_
  refine lv_iconst (v := nI 4) hx hb dL_law_198 kc_iconst_4 ?_
  refine r_addN hx hb dL_law_199 ?_
  refine r_sld hx hb hX hbl hbA hL hw (i := (5 * k) + 4) (by omega) (v := v) h4 dL_law_200 ?_
  refine lv_aload_n hx hb dL_law_201 rfl (lv_at hl 3 rfl) ?_
  refine cpz_S (w1 := fun (u9 : Unit) => ([(x9, .inr (3, [.ref (q 0), .ref (h9 0), .ref (t9 0)]))] : va_W) ++ wS cI q st ++ wR cR h9 (fr7 ad n8) ol n7 ++ wT cC t9 tx ln po ki rp tg nu ++ ([(o9, .inl (cJ, 1, .inr (.inl fo)))] : va_W)) (pl := fun (u9 : Unit) => wP cI ad sv n8) (As := [.ref x9, .int (nI r), .int (nI w), .int (nI g), .int v, .ref o9]) (rest := []) (wc := ([(x9, .inr (3, [.ref (q 0), .ref (h9 0), .ref (t9 0)]))] : va_W) ++ wS cI q st ++ wR cR h9 (fr7 ad n8) ol n7 ++ wT cC t9 tx ln po ki rp tg nu ++ ([(o9, .inl (cJ, 1, .inr (.inl fo)))] : va_W)) (wr := ([(p9, .inl (cD, 1, .inr (.inr (.inr (.inl fd)))))] : va_W) ++ wM cI m9 sa tx th n7 ln po2 lt fi sc nu2 ad2 rv) S hz hxe hzq (c_L_put_e2 l D (hl9 := hl9) (sz := H.size) (cI := cI) (cR := cR) (cC := cC) (x9 := x9) (q := q) (st := st) (h9 := h9) (ad := ad) (sv := sv) (ol := ol) (n7 := n7) (n8 := n8) (t9 := t9) (tx := tx) (ln := ln) (po := po) (ki := ki) (rp := rp) (tg := tg) (nu := nu) (cJ := cJ) (o9 := o9) (fo := fo) (r := r) (w := w) (g := g) (v := v) (hh := hh) (hr := by omega) (hw5 := by omega) (hg := by omega) (hv := hv)) (vx_cwSW 6 hts gL_law_L_put rfl rfl rfl (by decide +kernel) ⟨Nat.le_of_ble_eq_true rfl, Nat.le_of_ble_eq_true rfl⟩) hw hA [0, 1, 2, 3, 4, 5, 6, 7, 8, 9, 10, 11, 12] [13, 14, 15, 16] [0, 1, 2, 3] rfl rfl (k0 := 17) rfl (by decide) rfl rfl hl.1 (Nat.le_of_ble_eq_true rfl) ⟨(show cells + 1 ≤ room_1.cells by omega), (show slots + 6 ≤ room_1.slots by omega)⟩ rfl dL_law_202 (fun r_202 u_202 H locs e_202 hw => ?_)
  have hw : Wd D A [(cI, .int), (cR, .object RX1), (cC, .char), (cJ, .long), (cD, .double)] (([(x9, .inr (3, [.ref (q 0), .ref (h9 0), .ref (t9 0)]))] : va_W) ++ wS cI q st ++ wR cR h9 (fr7 ad n8) ol n7 ++ wT cC t9 tx ln po ki rp tg nu ++ ([(o9, .inl (cJ, 1, .inr (.inl fo)))] : va_W) ++ ([(p9, .inl (cD, 1, .inr (.inr (.inr (.inl fd)))))] : va_W) ++ wM cI m9 sa tx th n7 ln po2 lt fi sc nu2 ad2 rv ++ wP cI ad sv n8) s s.heap H locs := hw
  have e_202 : r_202 = nI 2 := e_202
  subst e_202
  refine lv_istore (lv' := [(6, .int (nI 2)), (0, .ref b), (1, .ref x9), (2, .ref (m9 0)), (3, .ref o9), (4, .ref p9), (5, .int (nI (5 * k)))]) hx hb dL_law_205 hl (by decide) rfl (fun ls hl => ?_)
  refine lv_aload_n hx hb dL_law_207 rfl (lv_at hl 3 rfl) ?_
  refine lv_aload_n hx hb dL_law_208 rfl (lv_at hl 1 rfl) ?_
  refine lv_iload hx hb dL_law_209 (lv_at hl 6 rfl) ?_
  refine lv_iconst (v := nI 1) hx hb dL_law_211 kc_iconst_1 ?_
  refine r_addN hx hb dL_law_212 ?_
  refine r_sld hx hb hX hbl hbA hL hw (i := (5 * k) + 1) (by omega) (v := nI r) h1 dL_law_213 ?_
  refine lv_aload_n hx hb dL_law_214 rfl (lv_at hl 1 rfl) ?_
  refine lv_iload hx hb dL_law_215 (lv_at hl 6 rfl) ?_
  refine lv_iconst (v := nI 2) hx hb dL_law_217 kc_iconst_2 ?_
  refine r_addN hx hb dL_law_218 ?_
  refine r_sld hx hb hX hbl hbA hL hw (i := (5 * k) + 2) (by omega) (v := nI w) h2 dL_law_219 ?_
  refine lv_aload_n hx hb dL_law_220 rfl (lv_at hl 1 rfl) ?_
  refine lv_iload hx hb dL_law_221 (lv_at hl 6 rfl) ?_
  refine lv_iconst (v := nI 3) hx hb dL_law_223 kc_iconst_3 ?_
  refine r_addN hx hb dL_law_224 ?_
  refine r_sld hx hb hX hbl hbA hL hw (i := (5 * k) + 3) (by omega) (v := nI g) h3 dL_law_225 ?_
  refine lv_aload_n hx hb dL_law_226 rfl (lv_at hl 1 rfl) ?_
  refine lv_iload hx hb dL_law_227 (lv_at hl 6 rfl) ?_
  refine lv_iconst (v := nI 4) hx hb dL_law_229 kc_iconst_4 ?_
  refine r_addN hx hb dL_law_230 ?_
  refine r_sld hx hb hX hbl hbA hL hw (i := (5 * k) + 4) (by omega) (v := v) h4 dL_law_231 ?_
  refine cp_Vi (As := [.int (nI r), .int (nI w), .int (nI g), .int v]) (rest := []) (wc := wM cI m9 sa tx th n7 ln po2 lt fi sc nu2 ad2 rv) (wr := ([(x9, .inr (3, [.ref (q 0), .ref (h9 0), .ref (t9 0)]))] : va_W) ++ wS cI q st ++ wR cR h9 (fr7 ad n8) ol n7 ++ wT cC t9 tx ln po ki rp tg nu ++ ([(o9, .inl (cJ, 1, .inr (.inl fo)))] : va_W) ++ ([(p9, .inl (cD, 1, .inr (.inr (.inr (.inl fd)))))] : va_W)) S (c_X4_put_e2 l D (sz := H.size) (cI := cI) (m9 := m9) (sa := sa) (tx := tx) (th := th) (sv := n7) (ln := ln) (po := po2) (lt := lt) (fi := fi) (sc := sc) (nu := nu2) (ad := ad2) (rv := rv) (r := r) (w := w) (c9 := g) (v := v) (hr := by omega) (hw5 := by omega) (hc := by omega) (hv := hv)) (cwV 4 hts gL_law_X4_put rfl rfl rfl (by decide +kernel) ⟨Nat.le_of_ble_eq_true rfl, Nat.le_of_ble_eq_true rfl⟩) hw hA [14, 15, 16] [0, 1, 2, 3, 4, 5, 6, 7, 8, 9, 10, 11, 12, 13] [0] rfl rfl (k0 := 17) rfl (by decide) rfl 0 rfl rfl rfl hl.1 (Nat.le_of_ble_eq_true rfl) ⟨(show (cells + 1) + 0 ≤ room_1.cells by omega), (show (slots + 6) + 0 ≤ room_1.slots by omega)⟩ rfl dL_law_232 (fun r_232 u_232 H locs e_232 hw => ?_)
  have hw : Wd D A [(cI, .int), (cR, .object RX1), (cC, .char), (cJ, .long), (cD, .double)] (wM cI m9 sa tx (nI 2) n7 ln po2 lt fi sc nu2 ad2 rv ++ ([(x9, .inr (3, [.ref (q 0), .ref (h9 0), .ref (t9 0)]))] : va_W) ++ wS cI q st ++ wR cR h9 (fr7 ad n8) ol n7 ++ wT cC t9 tx ln po ki rp tg nu ++ ([(o9, .inl (cJ, 1, .inr (.inl fo)))] : va_W) ++ ([(p9, .inl (cD, 1, .inr (.inr (.inr (.inl fd)))))] : va_W) ++ wP cI ad sv n8) s s.heap H locs := hw
  have e_232 : r_232 = nI 0 := e_232
  subst e_232
  refine lv_istore (lv' := [(7, .int (nI 0)), (6, .int (nI 2)), (0, .ref b), (1, .ref x9), (2, .ref (m9 0)), (3, .ref o9), (4, .ref p9), (5, .int (nI (5 * k)))]) hx hb dL_law_235 hl (by decide) rfl (fun ls hl => ?_)
  refine lv_aload_n hx hb dL_law_237 rfl (lv_at hl 4 rfl) ?_
  refine cq_V (As := []) (rest := []) S (c_X4_thrown l D (cI := cI) (m9 := m9) (sa := sa) (tx := tx) (th := nI 2) (sv := n7) (ln := ln) (po := po2) (lt := lt) (fi := fi) (sc := sc) (nu := nu2) (ad := ad2) (rv := rv)) (cwV 0 hts gL_law_X4_thrown rfl rfl rfl (by decide +kernel) ⟨Nat.le_of_ble_eq_true rfl, Nat.le_of_ble_eq_true rfl⟩) (hw.q.sub [0, 1, 2] [0] rfl rfl) 0 rfl rfl rfl hl.1 (Nat.le_of_ble_eq_true rfl) ⟨(show (cells + 1) ≤ room_1.cells by omega), (show (slots + 6) ≤ room_1.slots by omega)⟩ rfl dL_law_238 (fun r_238 e_238 => ?_)
  have e_238 : r_238 = (nI 2) := e_238
  subst e_238
  refine lv_iload hx hb dL_law_241 (lv_at hl 1 rfl) ?_
  refine r_icmp_eqN (tgt := 248) hx hb (by decide) (by decide) dL_law_243 (by decide) (fun _ => ?_) (fun h => absurd h (by decide))
  refine lv_iload hx hb dL_law_248 (lv_at hl 1 rfl) ?_
  refine lv_if_ne (tgt := 265) hx hb dL_law_250 (by decide) (fun _ => ?_) (fun h => absurd h (by decide))
  refine lv_goto (tgt := 1875) hx hb dL_law_265 (by decide) ?_
  have hw : Wd D A [(cI, .int), (cR, .object RX1), (cC, .char), (cJ, .long), (cD, .double)] (([(x9, .inr (3, [.ref (q 0), .ref (h9 0), .ref (t9 0)]))] : va_W) ++ wS cI q st ++ wR cR h9 (fr7 ad n8) ol n7 ++ wT cC t9 tx ln po ki rp tg nu ++ ([(o9, .inl (cJ, 1, .inr (.inl fo)))] : va_W) ++ ([(p9, .inl (cD, 1, .inr (.inr (.inr (.inl fd)))))] : va_W) ++ wM cI m9 sa tx (nI 2) n7 ln po2 lt fi sc nu2 ad2 rv ++ wP cI ad sv n8) s s.heap H locs := hw.ord [3, 4, 5, 6, 7, 8, 9, 10, 11, 12, 13, 14, 15, 16, 0, 1, 2] (k0 := 17) rfl rfl (by decide)
  have hl : lv_has ls 10 [(0, .ref b), (1, .ref x9), (2, .ref (m9 0)), (3, .ref o9), (4, .ref p9), (5, .int (nI (5 * k)))] := lv_sub hl [2, 3, 4, 5, 6, 7] rfl
  refine W.widen (k := cells + 7) (n := slots + 5790) (by omega) (by omega) ?_
  exact kk H locs ls ⟨st, ad, sv, ol, n7, n8, tx, ln, po, ki, rp, tg, nu, fo, fd, sa, nI 2, po2, lt, fi, sc, nu2, ad2, rv, hw, LV_m hLV (by omega)⟩ hl
set_option maxHeartbeats 4000000 in
set_option maxRecDepth 100000 in
theorem law_add_e2 {p : Program} {l : Launch} {e : Env} {s : State} {m : MethodId} {args : Array Value} {below : List Frame} {meth : Method} {c : Code} {Q : State → Prop} {D : va_G} {A : Nat → Prop} {b L : Nat} {xs : Nat → Int32} {cells slots : Nat} {cI cR cC cJ cD : ClassId} {x9 : Nat} {q h9 t9 : Nat → Nat} {o9 p9 : Nat} {m9 : Nat → Nat} {B k : Nat} (F : LF p l s m c args A b L xs) (hk5 : 5 * k + 5 ≤ L) (hB : B + 100 < 2 ^ 31) (hR : cells + 7 ≤ room_1.cells ∧ slots + 5790 ≤ room_1.slots) {st : St} {ad : Nat → Nat → Nat} {sv : Nat → St} {ol n7 n8 : Nat} {tx : Nat → Nat} {ln po : Nat} {ki rp tg nu : Int32} {fo : Nat → Int64} {fd : Nat → UInt64} {sa : Nat → Int32} {th : Int32} {po2 : Nat} {lt fi sc nu2 : Int32} {ad2 rv : Nat} {H : Heap} {locs : List Loc} (hw : Wd D A [(cI, .int), (cR, .object RX1), (cC, .char), (cJ, .long), (cD, .double)] ([(x9, .inr (3, [.ref (q 0), .ref (h9 0), .ref (t9 0)]))] ++ wS cI q st ++ wR cR h9 (fr7 ad n8) ol n7 ++ wT cC t9 tx ln po ki rp tg nu ++ [(o9, .inl (cJ, 1, .inr (.inl fo)))] ++ [(p9, .inl (cD, 1, .inr (.inr (.inr (.inl fd)))))] ++ wM cI m9 sa tx th n7 ln po2 lt fi sc nu2 ad2 rv ++ wP cI ad sv n8) s s.heap H locs) (hLV : LV st sv ol n7 n8 tx ln po sa po2 B) {ls : Array Slot} (hl : lv_has ls 10 [(0, .ref b), (1, .ref x9), (2, .ref (m9 0)), (3, .ref o9), (4, .ref p9), (5, .int (nI (5 * k)))]) {r w : Nat} {v : Int32} (hr : r < 4) (hw5 : w < 6) (hv : v = 0 ∨ ¬ inP v (-99) (nI 99)) (h1 : xs (5 * k + 1) = nI r) (h2 : xs (5 * k + 2) = nI w) (h3 : xs (5 * k + 3) = v) (kk : ∀ (H : Heap) (locs : List Loc) (ls : Array Slot), LW D A s cI cR cC cJ cD x9 q h9 t9 o9 p9 m9 (B + 41) H locs → lv_has ls 10 [(0, .ref b), (1, .ref x9), (2, .ref (m9 0)), (3, .ref o9), (4, .ref p9), (5, .int (nI (5 * k)))] → W p l e room_1 s m args below meth c H locs (cells + 7) (slots + 5790) Q (F0 m 1875 ls [])) : W p l e room_1 s m args below meth c H locs cells slots Q (F0 m 268 ls []) := by
  obtain ⟨S, hz, hxe, hzq, hl9, hA, hX, hbl, hbA, hL⟩ := id F
  obtain ⟨hh, hRl, hHs, htx, hln, hpo, hpo2⟩ := id hLV
  have h6 : n7 ≤ 6 := Nat.le_trans hh.2.1 hh.2.2.1
  obtain ⟨hx, hb, hml, hown, hts⟩ := id S
  refine lv_aload_n hx hb dL_law_268 rfl (lv_at hl 1 rfl) ?_
  refine lv_aload_n hx hb dL_law_269 rfl (lv_at hl 0 rfl) ?_
  refine lv_iload hx hb dL_law_270 (lv_at hl 5 rfl) ?_
  refine lv_iconst (v := nI 1) hx hb dL_law_272 kc_iconst_1 ?_
  refine r_addN hx hb dL_law_273 ?_
  refine r_sld hx hb hX hbl hbA hL hw (i := (5 * k) + 1) (by omega) (v := nI r) h1 dL_law_274 ?_
  refine lv_aload_n hx hb dL_law_275 rfl (lv_at hl 0 rfl) ?_
  refine lv_iload hx hb dL_law_276 (lv_at hl 5 rfl) ?_
  refine lv_iconst (v := nI 2) hx hb dL_law_278 kc_iconst_2 ?_
  refine r_addN hx hb dL_law_279 ?_
  refine r_sld hx hb hX hbl hbA hL hw (i := (5 * k) + 2) (by omega) (v := nI w) h2 dL_law_280 ?_
  refine lv_aload_n hx hb dL_law_281 rfl (lv_at hl 0 rfl) ?_
  refine lv_iload hx hb dL_law_282 (lv_at hl 5 rfl) ?_
  refine lv_iconst (v := nI 3) hx hb dL_law_284 kc_iconst_3 ?_
  refine r_addN hx hb dL_law_285 ?_
  refine r_sld hx hb hX hbl hbA hL hw (i := (5 * k) + 3) (by omega) (v := v) h3 dL_law_286 ?_
  refine lv_aload_n hx hb dL_law_287 rfl (lv_at hl 3 rfl) ?_
  refine cpz_S (w1 := fun (u9 : Unit) => ([(x9, .inr (3, [.ref (q 0), .ref (h9 0), .ref (t9 0)]))] : va_W) ++ wS cI q st ++ wR cR h9 (fr7 ad n8) ol n7 ++ wT cC t9 tx ln po ki rp tg nu ++ ([(o9, .inl (cJ, 1, .inr (.inl fo)))] : va_W)) (pl := fun (u9 : Unit) => wP cI ad sv n8) (As := [.ref x9, .int (nI r), .int (nI w), .int v, .ref o9]) (rest := []) (wc := ([(x9, .inr (3, [.ref (q 0), .ref (h9 0), .ref (t9 0)]))] : va_W) ++ wS cI q st ++ wR cR h9 (fr7 ad n8) ol n7 ++ wT cC t9 tx ln po ki rp tg nu ++ ([(o9, .inl (cJ, 1, .inr (.inl fo)))] : va_W)) (wr := ([(p9, .inl (cD, 1, .inr (.inr (.inr (.inl fd)))))] : va_W) ++ wM cI m9 sa tx th n7 ln po2 lt fi sc nu2 ad2 rv) S hz hxe hzq (c_L_add_e2 l D (hl9 := hl9) (sz := H.size) (cI := cI) (cR := cR) (cC := cC) (x9 := x9) (q := q) (st := st) (h9 := h9) (ad := ad) (sv := sv) (ol := ol) (n7 := n7) (n8 := n8) (t9 := t9) (tx := tx) (ln := ln) (po := po) (ki := ki) (rp := rp) (tg := tg) (nu := nu) (cJ := cJ) (o9 := o9) (fo := fo) (r := r) (w := w) (v := v) (hh := hh) (hr := by omega) (hw5 := by omega) (hv := hv)) (vx_cwSW 5 hts gL_law_L_add rfl rfl rfl (by decide +kernel) ⟨Nat.le_of_ble_eq_true rfl, Nat.le_of_ble_eq_true rfl⟩) hw hA [0, 1, 2, 3, 4, 5, 6, 7, 8, 9, 10, 11, 12] [13, 14, 15, 16] [0, 1, 2, 3] rfl rfl (k0 := 17) rfl (by decide) rfl rfl hl.1 (Nat.le_of_ble_eq_true rfl) ⟨(show cells + 1 ≤ room_1.cells by omega), (show slots + 6 ≤ room_1.slots by omega)⟩ rfl dL_law_288 (fun r_288 u_288 H locs e_288 hw => ?_)
  have hw : Wd D A [(cI, .int), (cR, .object RX1), (cC, .char), (cJ, .long), (cD, .double)] (([(x9, .inr (3, [.ref (q 0), .ref (h9 0), .ref (t9 0)]))] : va_W) ++ wS cI q st ++ wR cR h9 (fr7 ad n8) ol n7 ++ wT cC t9 tx ln po ki rp tg nu ++ ([(o9, .inl (cJ, 1, .inr (.inl fo)))] : va_W) ++ ([(p9, .inl (cD, 1, .inr (.inr (.inr (.inl fd)))))] : va_W) ++ wM cI m9 sa tx th n7 ln po2 lt fi sc nu2 ad2 rv ++ wP cI ad sv n8) s s.heap H locs := hw
  have e_288 : r_288 = nI 2 := e_288
  subst e_288
  refine lv_istore (lv' := [(6, .int (nI 2)), (0, .ref b), (1, .ref x9), (2, .ref (m9 0)), (3, .ref o9), (4, .ref p9), (5, .int (nI (5 * k)))]) hx hb dL_law_291 hl (by decide) rfl (fun ls hl => ?_)
  refine lv_aload_n hx hb dL_law_293 rfl (lv_at hl 3 rfl) ?_
  refine lv_aload_n hx hb dL_law_294 rfl (lv_at hl 1 rfl) ?_
  refine lv_iload hx hb dL_law_295 (lv_at hl 6 rfl) ?_
  refine lv_iconst (v := nI 1) hx hb dL_law_297 kc_iconst_1 ?_
  refine r_addN hx hb dL_law_298 ?_
  refine r_sld hx hb hX hbl hbA hL hw (i := (5 * k) + 1) (by omega) (v := nI r) h1 dL_law_299 ?_
  refine lv_aload_n hx hb dL_law_300 rfl (lv_at hl 1 rfl) ?_
  refine lv_iload hx hb dL_law_301 (lv_at hl 6 rfl) ?_
  refine lv_iconst (v := nI 2) hx hb dL_law_303 kc_iconst_2 ?_
  refine r_addN hx hb dL_law_304 ?_
  refine r_sld hx hb hX hbl hbA hL hw (i := (5 * k) + 2) (by omega) (v := nI w) h2 dL_law_305 ?_
  refine lv_aload_n hx hb dL_law_306 rfl (lv_at hl 1 rfl) ?_
  refine lv_iload hx hb dL_law_307 (lv_at hl 6 rfl) ?_
  refine lv_iconst (v := nI 3) hx hb dL_law_309 kc_iconst_3 ?_
  refine r_addN hx hb dL_law_310 ?_
  refine r_sld hx hb hX hbl hbA hL hw (i := (5 * k) + 3) (by omega) (v := v) h3 dL_law_311 ?_
  refine cp_Vi (As := [.int (nI r), .int (nI w), .int v]) (rest := []) (wc := wM cI m9 sa tx th n7 ln po2 lt fi sc nu2 ad2 rv) (wr := ([(x9, .inr (3, [.ref (q 0), .ref (h9 0), .ref (t9 0)]))] : va_W) ++ wS cI q st ++ wR cR h9 (fr7 ad n8) ol n7 ++ wT cC t9 tx ln po ki rp tg nu ++ ([(o9, .inl (cJ, 1, .inr (.inl fo)))] : va_W) ++ ([(p9, .inl (cD, 1, .inr (.inr (.inr (.inl fd)))))] : va_W)) S (c_X4_add_e2 l D (sz := H.size) (cI := cI) (m9 := m9) (sa := sa) (tx := tx) (th := th) (sv := n7) (ln := ln) (po := po2) (lt := lt) (fi := fi) (sc := sc) (nu := nu2) (ad := ad2) (rv := rv) (r := r) (w := w) (v := v) (hr := by omega) (hw5 := by omega) (hv := hv)) (cwV 3 hts gL_law_X4_add rfl rfl rfl (by decide +kernel) ⟨Nat.le_of_ble_eq_true rfl, Nat.le_of_ble_eq_true rfl⟩) hw hA [14, 15, 16] [0, 1, 2, 3, 4, 5, 6, 7, 8, 9, 10, 11, 12, 13] [0] rfl rfl (k0 := 17) rfl (by decide) rfl 0 rfl rfl rfl hl.1 (Nat.le_of_ble_eq_true rfl) ⟨(show (cells + 1) + 0 ≤ room_1.cells by omega), (show (slots + 6) + 0 ≤ room_1.slots by omega)⟩ rfl dL_law_312 (fun r_312 u_312 H locs e_312 hw => ?_)
  have hw : Wd D A [(cI, .int), (cR, .object RX1), (cC, .char), (cJ, .long), (cD, .double)] (wM cI m9 sa tx (nI 2) n7 ln po2 lt fi sc nu2 ad2 rv ++ ([(x9, .inr (3, [.ref (q 0), .ref (h9 0), .ref (t9 0)]))] : va_W) ++ wS cI q st ++ wR cR h9 (fr7 ad n8) ol n7 ++ wT cC t9 tx ln po ki rp tg nu ++ ([(o9, .inl (cJ, 1, .inr (.inl fo)))] : va_W) ++ ([(p9, .inl (cD, 1, .inr (.inr (.inr (.inl fd)))))] : va_W) ++ wP cI ad sv n8) s s.heap H locs := hw
  have e_312 : r_312 = nI 0 := e_312
  subst e_312
  refine lv_istore (lv' := [(7, .int (nI 0)), (6, .int (nI 2)), (0, .ref b), (1, .ref x9), (2, .ref (m9 0)), (3, .ref o9), (4, .ref p9), (5, .int (nI (5 * k)))]) hx hb dL_law_315 hl (by decide) rfl (fun ls hl => ?_)
  refine lv_aload_n hx hb dL_law_317 rfl (lv_at hl 4 rfl) ?_
  refine cq_V (As := []) (rest := []) S (c_X4_thrown l D (cI := cI) (m9 := m9) (sa := sa) (tx := tx) (th := nI 2) (sv := n7) (ln := ln) (po := po2) (lt := lt) (fi := fi) (sc := sc) (nu := nu2) (ad := ad2) (rv := rv)) (cwV 0 hts gL_law_X4_thrown rfl rfl rfl (by decide +kernel) ⟨Nat.le_of_ble_eq_true rfl, Nat.le_of_ble_eq_true rfl⟩) (hw.q.sub [0, 1, 2] [0] rfl rfl) 0 rfl rfl rfl hl.1 (Nat.le_of_ble_eq_true rfl) ⟨(show (cells + 1) ≤ room_1.cells by omega), (show (slots + 6) ≤ room_1.slots by omega)⟩ rfl dL_law_318 (fun r_318 e_318 => ?_)
  have e_318 : r_318 = (nI 2) := e_318
  subst e_318
  refine lv_iload hx hb dL_law_321 (lv_at hl 1 rfl) ?_
  refine r_icmp_eqN (tgt := 328) hx hb (by decide) (by decide) dL_law_323 (by decide) (fun _ => ?_) (fun h => absurd h (by decide))
  refine lv_iload hx hb dL_law_328 (lv_at hl 1 rfl) ?_
  refine lv_if_ne (tgt := 345) hx hb dL_law_330 (by decide) (fun _ => ?_) (fun h => absurd h (by decide))
  refine lv_goto (tgt := 1875) hx hb dL_law_345 (by decide) ?_
  have hw : Wd D A [(cI, .int), (cR, .object RX1), (cC, .char), (cJ, .long), (cD, .double)] (([(x9, .inr (3, [.ref (q 0), .ref (h9 0), .ref (t9 0)]))] : va_W) ++ wS cI q st ++ wR cR h9 (fr7 ad n8) ol n7 ++ wT cC t9 tx ln po ki rp tg nu ++ ([(o9, .inl (cJ, 1, .inr (.inl fo)))] : va_W) ++ ([(p9, .inl (cD, 1, .inr (.inr (.inr (.inl fd)))))] : va_W) ++ wM cI m9 sa tx (nI 2) n7 ln po2 lt fi sc nu2 ad2 rv ++ wP cI ad sv n8) s s.heap H locs := hw.ord [3, 4, 5, 6, 7, 8, 9, 10, 11, 12, 13, 14, 15, 16, 0, 1, 2] (k0 := 17) rfl rfl (by decide)
  have hl : lv_has ls 10 [(0, .ref b), (1, .ref x9), (2, .ref (m9 0)), (3, .ref o9), (4, .ref p9), (5, .int (nI (5 * k)))] := lv_sub hl [2, 3, 4, 5, 6, 7] rfl
  refine W.widen (k := cells + 7) (n := slots + 5790) (by omega) (by omega) ?_
  exact kk H locs ls ⟨st, ad, sv, ol, n7, n8, tx, ln, po, ki, rp, tg, nu, fo, fd, sa, nI 2, po2, lt, fi, sc, nu2, ad2, rv, hw, LV_m hLV (by omega)⟩ hl
set_option maxHeartbeats 4000000 in
set_option maxRecDepth 100000 in
theorem law_include_e2 {p : Program} {l : Launch} {e : Env} {s : State} {m : MethodId} {args : Array Value} {below : List Frame} {meth : Method} {c : Code} {Q : State → Prop} {D : va_G} {A : Nat → Prop} {b L : Nat} {xs : Nat → Int32} {cells slots : Nat} {cI cR cC cJ cD : ClassId} {x9 : Nat} {q h9 t9 : Nat → Nat} {o9 p9 : Nat} {m9 : Nat → Nat} {B k : Nat} (F : LF p l s m c args A b L xs) (hk5 : 5 * k + 5 ≤ L) (hB : B + 100 < 2 ^ 31) (hR : cells + 7 ≤ room_1.cells ∧ slots + 5790 ≤ room_1.slots) {st : St} {ad : Nat → Nat → Nat} {sv : Nat → St} {ol n7 n8 : Nat} {tx : Nat → Nat} {ln po : Nat} {ki rp tg nu : Int32} {fo : Nat → Int64} {fd : Nat → UInt64} {sa : Nat → Int32} {th : Int32} {po2 : Nat} {lt fi sc nu2 : Int32} {ad2 rv : Nat} {H : Heap} {locs : List Loc} (hw : Wd D A [(cI, .int), (cR, .object RX1), (cC, .char), (cJ, .long), (cD, .double)] ([(x9, .inr (3, [.ref (q 0), .ref (h9 0), .ref (t9 0)]))] ++ wS cI q st ++ wR cR h9 (fr7 ad n8) ol n7 ++ wT cC t9 tx ln po ki rp tg nu ++ [(o9, .inl (cJ, 1, .inr (.inl fo)))] ++ [(p9, .inl (cD, 1, .inr (.inr (.inr (.inl fd)))))] ++ wM cI m9 sa tx th n7 ln po2 lt fi sc nu2 ad2 rv ++ wP cI ad sv n8) s s.heap H locs) (hLV : LV st sv ol n7 n8 tx ln po sa po2 B) {ls : Array Slot} (hl : lv_has ls 10 [(0, .ref b), (1, .ref x9), (2, .ref (m9 0)), (3, .ref o9), (4, .ref p9), (5, .int (nI (5 * k)))]) {r w : Nat} {p2 : Int32} (hr : r < 4) (hw5 : w < 6) (hv : ¬ inP p2 (nI 0) (nI 15)) (h1 : xs (5 * k + 1) = nI r) (h2 : xs (5 * k + 2) = nI w) (h3 : xs (5 * k + 3) = p2) (kk : ∀ (H : Heap) (locs : List Loc) (ls : Array Slot), LW D A s cI cR cC cJ cD x9 q h9 t9 o9 p9 m9 (B + 41) H locs → lv_has ls 10 [(0, .ref b), (1, .ref x9), (2, .ref (m9 0)), (3, .ref o9), (4, .ref p9), (5, .int (nI (5 * k)))] → W p l e room_1 s m args below meth c H locs (cells + 7) (slots + 5790) Q (F0 m 1875 ls [])) : W p l e room_1 s m args below meth c H locs cells slots Q (F0 m 348 ls []) := by
  obtain ⟨S, hz, hxe, hzq, hl9, hA, hX, hbl, hbA, hL⟩ := id F
  obtain ⟨hh, hRl, hHs, htx, hln, hpo, hpo2⟩ := id hLV
  have h6 : n7 ≤ 6 := Nat.le_trans hh.2.1 hh.2.2.1
  obtain ⟨hx, hb, hml, hown, hts⟩ := id S
  refine lv_aload_n hx hb dL_law_348 rfl (lv_at hl 1 rfl) ?_
  refine lv_aload_n hx hb dL_law_349 rfl (lv_at hl 0 rfl) ?_
  refine lv_iload hx hb dL_law_350 (lv_at hl 5 rfl) ?_
  refine lv_iconst (v := nI 1) hx hb dL_law_352 kc_iconst_1 ?_
  refine r_addN hx hb dL_law_353 ?_
  refine r_sld hx hb hX hbl hbA hL hw (i := (5 * k) + 1) (by omega) (v := nI r) h1 dL_law_354 ?_
  refine lv_aload_n hx hb dL_law_355 rfl (lv_at hl 0 rfl) ?_
  refine lv_iload hx hb dL_law_356 (lv_at hl 5 rfl) ?_
  refine lv_iconst (v := nI 2) hx hb dL_law_358 kc_iconst_2 ?_
  refine r_addN hx hb dL_law_359 ?_
  refine r_sld hx hb hX hbl hbA hL hw (i := (5 * k) + 2) (by omega) (v := nI w) h2 dL_law_360 ?_
  refine lv_aload_n hx hb dL_law_361 rfl (lv_at hl 0 rfl) ?_
  refine lv_iload hx hb dL_law_362 (lv_at hl 5 rfl) ?_
  refine lv_iconst (v := nI 3) hx hb dL_law_364 kc_iconst_3 ?_
  refine r_addN hx hb dL_law_365 ?_
  refine r_sld hx hb hX hbl hbA hL hw (i := (5 * k) + 3) (by omega) (v := p2) h3 dL_law_366 ?_
  refine lv_aload_n hx hb dL_law_367 rfl (lv_at hl 3 rfl) ?_
  refine cpz_S (w1 := fun (u9 : Unit) => ([(x9, .inr (3, [.ref (q 0), .ref (h9 0), .ref (t9 0)]))] : va_W) ++ wS cI q st ++ wR cR h9 (fr7 ad n8) ol n7 ++ wT cC t9 tx ln po ki rp tg nu ++ ([(o9, .inl (cJ, 1, .inr (.inl fo)))] : va_W)) (pl := fun (u9 : Unit) => wP cI ad sv n8) (As := [.ref x9, .int (nI r), .int (nI w), .int p2, .ref o9]) (rest := []) (wc := ([(x9, .inr (3, [.ref (q 0), .ref (h9 0), .ref (t9 0)]))] : va_W) ++ wS cI q st ++ wR cR h9 (fr7 ad n8) ol n7 ++ wT cC t9 tx ln po ki rp tg nu ++ ([(o9, .inl (cJ, 1, .inr (.inl fo)))] : va_W)) (wr := ([(p9, .inl (cD, 1, .inr (.inr (.inr (.inl fd)))))] : va_W) ++ wM cI m9 sa tx th n7 ln po2 lt fi sc nu2 ad2 rv) S hz hxe hzq (c_L_include_e2 l D (hl9 := hl9) (sz := H.size) (cI := cI) (cR := cR) (cC := cC) (x9 := x9) (q := q) (st := st) (h9 := h9) (ad := ad) (sv := sv) (ol := ol) (n7 := n7) (n8 := n8) (t9 := t9) (tx := tx) (ln := ln) (po := po) (ki := ki) (rp := rp) (tg := tg) (nu := nu) (cJ := cJ) (o9 := o9) (fo := fo) (r := r) (w := w) (p2 := p2) (hh := hh) (hr := by omega) (hw5 := by omega) (hv := hv)) (vx_cwSW 5 hts gL_law_L_include rfl rfl rfl (by decide +kernel) ⟨Nat.le_of_ble_eq_true rfl, Nat.le_of_ble_eq_true rfl⟩) hw hA [0, 1, 2, 3, 4, 5, 6, 7, 8, 9, 10, 11, 12] [13, 14, 15, 16] [0, 1, 2, 3] rfl rfl (k0 := 17) rfl (by decide) rfl rfl hl.1 (Nat.le_of_ble_eq_true rfl) ⟨(show cells + 1 ≤ room_1.cells by omega), (show slots + 6 ≤ room_1.slots by omega)⟩ rfl dL_law_368 (fun r_368 u_368 H locs e_368 hw => ?_)
  have hw : Wd D A [(cI, .int), (cR, .object RX1), (cC, .char), (cJ, .long), (cD, .double)] (([(x9, .inr (3, [.ref (q 0), .ref (h9 0), .ref (t9 0)]))] : va_W) ++ wS cI q st ++ wR cR h9 (fr7 ad n8) ol n7 ++ wT cC t9 tx ln po ki rp tg nu ++ ([(o9, .inl (cJ, 1, .inr (.inl fo)))] : va_W) ++ ([(p9, .inl (cD, 1, .inr (.inr (.inr (.inl fd)))))] : va_W) ++ wM cI m9 sa tx th n7 ln po2 lt fi sc nu2 ad2 rv ++ wP cI ad sv n8) s s.heap H locs := hw
  have e_368 : r_368 = nI 2 := e_368
  subst e_368
  refine lv_istore (lv' := [(6, .int (nI 2)), (0, .ref b), (1, .ref x9), (2, .ref (m9 0)), (3, .ref o9), (4, .ref p9), (5, .int (nI (5 * k)))]) hx hb dL_law_371 hl (by decide) rfl (fun ls hl => ?_)
  refine lv_aload_n hx hb dL_law_373 rfl (lv_at hl 3 rfl) ?_
  refine lv_aload_n hx hb dL_law_374 rfl (lv_at hl 1 rfl) ?_
  refine lv_iload hx hb dL_law_375 (lv_at hl 6 rfl) ?_
  refine lv_iconst (v := nI 1) hx hb dL_law_377 kc_iconst_1 ?_
  refine r_addN hx hb dL_law_378 ?_
  refine r_sld hx hb hX hbl hbA hL hw (i := (5 * k) + 1) (by omega) (v := nI r) h1 dL_law_379 ?_
  refine lv_aload_n hx hb dL_law_380 rfl (lv_at hl 1 rfl) ?_
  refine lv_iload hx hb dL_law_381 (lv_at hl 6 rfl) ?_
  refine lv_iconst (v := nI 2) hx hb dL_law_383 kc_iconst_2 ?_
  refine r_addN hx hb dL_law_384 ?_
  refine r_sld hx hb hX hbl hbA hL hw (i := (5 * k) + 2) (by omega) (v := nI w) h2 dL_law_385 ?_
  refine lv_aload_n hx hb dL_law_386 rfl (lv_at hl 1 rfl) ?_
  refine lv_iload hx hb dL_law_387 (lv_at hl 6 rfl) ?_
  refine lv_iconst (v := nI 3) hx hb dL_law_389 kc_iconst_3 ?_
  refine r_addN hx hb dL_law_390 ?_
  refine r_sld hx hb hX hbl hbA hL hw (i := (5 * k) + 3) (by omega) (v := p2) h3 dL_law_391 ?_
  refine cp_Vi (As := [.int (nI r), .int (nI w), .int p2]) (rest := []) (wc := wM cI m9 sa tx th n7 ln po2 lt fi sc nu2 ad2 rv) (wr := ([(x9, .inr (3, [.ref (q 0), .ref (h9 0), .ref (t9 0)]))] : va_W) ++ wS cI q st ++ wR cR h9 (fr7 ad n8) ol n7 ++ wT cC t9 tx ln po ki rp tg nu ++ ([(o9, .inl (cJ, 1, .inr (.inl fo)))] : va_W) ++ ([(p9, .inl (cD, 1, .inr (.inr (.inr (.inl fd)))))] : va_W)) S (c_X4_include_e2 l D (sz := H.size) (cI := cI) (m9 := m9) (sa := sa) (tx := tx) (th := th) (sv := n7) (ln := ln) (po := po2) (lt := lt) (fi := fi) (sc := sc) (nu := nu2) (ad := ad2) (rv := rv) (r := r) (w := w) (p2 := p2) (hr := by omega) (hw5 := by omega) (hv := hv)) (cwV 3 hts gL_law_X4_include rfl rfl rfl (by decide +kernel) ⟨Nat.le_of_ble_eq_true rfl, Nat.le_of_ble_eq_true rfl⟩) hw hA [14, 15, 16] [0, 1, 2, 3, 4, 5, 6, 7, 8, 9, 10, 11, 12, 13] [0] rfl rfl (k0 := 17) rfl (by decide) rfl 0 rfl rfl rfl hl.1 (Nat.le_of_ble_eq_true rfl) ⟨(show (cells + 1) + 0 ≤ room_1.cells by omega), (show (slots + 6) + 0 ≤ room_1.slots by omega)⟩ rfl dL_law_392 (fun r_392 u_392 H locs e_392 hw => ?_)
  have hw : Wd D A [(cI, .int), (cR, .object RX1), (cC, .char), (cJ, .long), (cD, .double)] (wM cI m9 sa tx (nI 2) n7 ln po2 lt fi sc nu2 ad2 rv ++ ([(x9, .inr (3, [.ref (q 0), .ref (h9 0), .ref (t9 0)]))] : va_W) ++ wS cI q st ++ wR cR h9 (fr7 ad n8) ol n7 ++ wT cC t9 tx ln po ki rp tg nu ++ ([(o9, .inl (cJ, 1, .inr (.inl fo)))] : va_W) ++ ([(p9, .inl (cD, 1, .inr (.inr (.inr (.inl fd)))))] : va_W) ++ wP cI ad sv n8) s s.heap H locs := hw
  have e_392 : r_392 = nI 0 := e_392
  subst e_392
  refine lv_istore (lv' := [(7, .int (nI 0)), (6, .int (nI 2)), (0, .ref b), (1, .ref x9), (2, .ref (m9 0)), (3, .ref o9), (4, .ref p9), (5, .int (nI (5 * k)))]) hx hb dL_law_395 hl (by decide) rfl (fun ls hl => ?_)
  refine lv_aload_n hx hb dL_law_397 rfl (lv_at hl 4 rfl) ?_
  refine cq_V (As := []) (rest := []) S (c_X4_thrown l D (cI := cI) (m9 := m9) (sa := sa) (tx := tx) (th := nI 2) (sv := n7) (ln := ln) (po := po2) (lt := lt) (fi := fi) (sc := sc) (nu := nu2) (ad := ad2) (rv := rv)) (cwV 0 hts gL_law_X4_thrown rfl rfl rfl (by decide +kernel) ⟨Nat.le_of_ble_eq_true rfl, Nat.le_of_ble_eq_true rfl⟩) (hw.q.sub [0, 1, 2] [0] rfl rfl) 0 rfl rfl rfl hl.1 (Nat.le_of_ble_eq_true rfl) ⟨(show (cells + 1) ≤ room_1.cells by omega), (show (slots + 6) ≤ room_1.slots by omega)⟩ rfl dL_law_398 (fun r_398 e_398 => ?_)
  have e_398 : r_398 = (nI 2) := e_398
  subst e_398
  refine lv_iload hx hb dL_law_401 (lv_at hl 1 rfl) ?_
  refine r_icmp_eqN (tgt := 408) hx hb (by decide) (by decide) dL_law_403 (by decide) (fun _ => ?_) (fun h => absurd h (by decide))
  refine lv_iload hx hb dL_law_408 (lv_at hl 1 rfl) ?_
  refine lv_if_ne (tgt := 425) hx hb dL_law_410 (by decide) (fun _ => ?_) (fun h => absurd h (by decide))
  refine lv_goto (tgt := 1875) hx hb dL_law_425 (by decide) ?_
  have hw : Wd D A [(cI, .int), (cR, .object RX1), (cC, .char), (cJ, .long), (cD, .double)] (([(x9, .inr (3, [.ref (q 0), .ref (h9 0), .ref (t9 0)]))] : va_W) ++ wS cI q st ++ wR cR h9 (fr7 ad n8) ol n7 ++ wT cC t9 tx ln po ki rp tg nu ++ ([(o9, .inl (cJ, 1, .inr (.inl fo)))] : va_W) ++ ([(p9, .inl (cD, 1, .inr (.inr (.inr (.inl fd)))))] : va_W) ++ wM cI m9 sa tx (nI 2) n7 ln po2 lt fi sc nu2 ad2 rv ++ wP cI ad sv n8) s s.heap H locs := hw.ord [3, 4, 5, 6, 7, 8, 9, 10, 11, 12, 13, 14, 15, 16, 0, 1, 2] (k0 := 17) rfl rfl (by decide)
  have hl : lv_has ls 10 [(0, .ref b), (1, .ref x9), (2, .ref (m9 0)), (3, .ref o9), (4, .ref p9), (5, .int (nI (5 * k)))] := lv_sub hl [2, 3, 4, 5, 6, 7] rfl
  refine W.widen (k := cells + 7) (n := slots + 5790) (by omega) (by omega) ?_
  exact kk H locs ls ⟨st, ad, sv, ol, n7, n8, tx, ln, po, ki, rp, tg, nu, fo, fd, sa, nI 2, po2, lt, fi, sc, nu2, ad2, rv, hw, LV_m hLV (by omega)⟩ hl
set_option maxHeartbeats 4000000 in
set_option maxRecDepth 100000 in
theorem law_exclude_e2 {p : Program} {l : Launch} {e : Env} {s : State} {m : MethodId} {args : Array Value} {below : List Frame} {meth : Method} {c : Code} {Q : State → Prop} {D : va_G} {A : Nat → Prop} {b L : Nat} {xs : Nat → Int32} {cells slots : Nat} {cI cR cC cJ cD : ClassId} {x9 : Nat} {q h9 t9 : Nat → Nat} {o9 p9 : Nat} {m9 : Nat → Nat} {B k : Nat} (F : LF p l s m c args A b L xs) (hk5 : 5 * k + 5 ≤ L) (hB : B + 100 < 2 ^ 31) (hR : cells + 7 ≤ room_1.cells ∧ slots + 5790 ≤ room_1.slots) {st : St} {ad : Nat → Nat → Nat} {sv : Nat → St} {ol n7 n8 : Nat} {tx : Nat → Nat} {ln po : Nat} {ki rp tg nu : Int32} {fo : Nat → Int64} {fd : Nat → UInt64} {sa : Nat → Int32} {th : Int32} {po2 : Nat} {lt fi sc nu2 : Int32} {ad2 rv : Nat} {H : Heap} {locs : List Loc} (hw : Wd D A [(cI, .int), (cR, .object RX1), (cC, .char), (cJ, .long), (cD, .double)] ([(x9, .inr (3, [.ref (q 0), .ref (h9 0), .ref (t9 0)]))] ++ wS cI q st ++ wR cR h9 (fr7 ad n8) ol n7 ++ wT cC t9 tx ln po ki rp tg nu ++ [(o9, .inl (cJ, 1, .inr (.inl fo)))] ++ [(p9, .inl (cD, 1, .inr (.inr (.inr (.inl fd)))))] ++ wM cI m9 sa tx th n7 ln po2 lt fi sc nu2 ad2 rv ++ wP cI ad sv n8) s s.heap H locs) (hLV : LV st sv ol n7 n8 tx ln po sa po2 B) {ls : Array Slot} (hl : lv_has ls 10 [(0, .ref b), (1, .ref x9), (2, .ref (m9 0)), (3, .ref o9), (4, .ref p9), (5, .int (nI (5 * k)))]) {r w : Nat} {p2 : Int32} (hr : r < 4) (hw5 : w < 6) (hv : ¬ inP p2 (nI 0) (nI 15)) (h1 : xs (5 * k + 1) = nI r) (h2 : xs (5 * k + 2) = nI w) (h3 : xs (5 * k + 3) = p2) (kk : ∀ (H : Heap) (locs : List Loc) (ls : Array Slot), LW D A s cI cR cC cJ cD x9 q h9 t9 o9 p9 m9 (B + 41) H locs → lv_has ls 10 [(0, .ref b), (1, .ref x9), (2, .ref (m9 0)), (3, .ref o9), (4, .ref p9), (5, .int (nI (5 * k)))] → W p l e room_1 s m args below meth c H locs (cells + 7) (slots + 5790) Q (F0 m 1875 ls [])) : W p l e room_1 s m args below meth c H locs cells slots Q (F0 m 428 ls []) := by
  obtain ⟨S, hz, hxe, hzq, hl9, hA, hX, hbl, hbA, hL⟩ := id F
  obtain ⟨hh, hRl, hHs, htx, hln, hpo, hpo2⟩ := id hLV
  have h6 : n7 ≤ 6 := Nat.le_trans hh.2.1 hh.2.2.1
  obtain ⟨hx, hb, hml, hown, hts⟩ := id S
  refine lv_aload_n hx hb dL_law_428 rfl (lv_at hl 1 rfl) ?_
  refine lv_aload_n hx hb dL_law_429 rfl (lv_at hl 0 rfl) ?_
  refine lv_iload hx hb dL_law_430 (lv_at hl 5 rfl) ?_
  refine lv_iconst (v := nI 1) hx hb dL_law_432 kc_iconst_1 ?_
  refine r_addN hx hb dL_law_433 ?_
  refine r_sld hx hb hX hbl hbA hL hw (i := (5 * k) + 1) (by omega) (v := nI r) h1 dL_law_434 ?_
  refine lv_aload_n hx hb dL_law_435 rfl (lv_at hl 0 rfl) ?_
  refine lv_iload hx hb dL_law_436 (lv_at hl 5 rfl) ?_
  refine lv_iconst (v := nI 2) hx hb dL_law_438 kc_iconst_2 ?_
  refine r_addN hx hb dL_law_439 ?_
  refine r_sld hx hb hX hbl hbA hL hw (i := (5 * k) + 2) (by omega) (v := nI w) h2 dL_law_440 ?_
  refine lv_aload_n hx hb dL_law_441 rfl (lv_at hl 0 rfl) ?_
  refine lv_iload hx hb dL_law_442 (lv_at hl 5 rfl) ?_
  refine lv_iconst (v := nI 3) hx hb dL_law_444 kc_iconst_3 ?_
  refine r_addN hx hb dL_law_445 ?_
  refine r_sld hx hb hX hbl hbA hL hw (i := (5 * k) + 3) (by omega) (v := p2) h3 dL_law_446 ?_
  refine lv_aload_n hx hb dL_law_447 rfl (lv_at hl 3 rfl) ?_
  refine cpz_S (w1 := fun (u9 : Unit) => ([(x9, .inr (3, [.ref (q 0), .ref (h9 0), .ref (t9 0)]))] : va_W) ++ wS cI q st ++ wR cR h9 (fr7 ad n8) ol n7 ++ wT cC t9 tx ln po ki rp tg nu ++ ([(o9, .inl (cJ, 1, .inr (.inl fo)))] : va_W)) (pl := fun (u9 : Unit) => wP cI ad sv n8) (As := [.ref x9, .int (nI r), .int (nI w), .int p2, .ref o9]) (rest := []) (wc := ([(x9, .inr (3, [.ref (q 0), .ref (h9 0), .ref (t9 0)]))] : va_W) ++ wS cI q st ++ wR cR h9 (fr7 ad n8) ol n7 ++ wT cC t9 tx ln po ki rp tg nu ++ ([(o9, .inl (cJ, 1, .inr (.inl fo)))] : va_W)) (wr := ([(p9, .inl (cD, 1, .inr (.inr (.inr (.inl fd)))))] : va_W) ++ wM cI m9 sa tx th n7 ln po2 lt fi sc nu2 ad2 rv) S hz hxe hzq (c_L_exclude_e2 l D (hl9 := hl9) (sz := H.size) (cI := cI) (cR := cR) (cC := cC) (x9 := x9) (q := q) (st := st) (h9 := h9) (ad := ad) (sv := sv) (ol := ol) (n7 := n7) (n8 := n8) (t9 := t9) (tx := tx) (ln := ln) (po := po) (ki := ki) (rp := rp) (tg := tg) (nu := nu) (cJ := cJ) (o9 := o9) (fo := fo) (r := r) (w := w) (p2 := p2) (hh := hh) (hr := by omega) (hw5 := by omega) (hv := hv)) (vx_cwSW 5 hts gL_law_L_exclude rfl rfl rfl (by decide +kernel) ⟨Nat.le_of_ble_eq_true rfl, Nat.le_of_ble_eq_true rfl⟩) hw hA [0, 1, 2, 3, 4, 5, 6, 7, 8, 9, 10, 11, 12] [13, 14, 15, 16] [0, 1, 2, 3] rfl rfl (k0 := 17) rfl (by decide) rfl rfl hl.1 (Nat.le_of_ble_eq_true rfl) ⟨(show cells + 1 ≤ room_1.cells by omega), (show slots + 6 ≤ room_1.slots by omega)⟩ rfl dL_law_448 (fun r_448 u_448 H locs e_448 hw => ?_)
  have hw : Wd D A [(cI, .int), (cR, .object RX1), (cC, .char), (cJ, .long), (cD, .double)] (([(x9, .inr (3, [.ref (q 0), .ref (h9 0), .ref (t9 0)]))] : va_W) ++ wS cI q st ++ wR cR h9 (fr7 ad n8) ol n7 ++ wT cC t9 tx ln po ki rp tg nu ++ ([(o9, .inl (cJ, 1, .inr (.inl fo)))] : va_W) ++ ([(p9, .inl (cD, 1, .inr (.inr (.inr (.inl fd)))))] : va_W) ++ wM cI m9 sa tx th n7 ln po2 lt fi sc nu2 ad2 rv ++ wP cI ad sv n8) s s.heap H locs := hw
  have e_448 : r_448 = nI 2 := e_448
  subst e_448
  refine lv_istore (lv' := [(6, .int (nI 2)), (0, .ref b), (1, .ref x9), (2, .ref (m9 0)), (3, .ref o9), (4, .ref p9), (5, .int (nI (5 * k)))]) hx hb dL_law_451 hl (by decide) rfl (fun ls hl => ?_)
  refine lv_aload_n hx hb dL_law_453 rfl (lv_at hl 3 rfl) ?_
  refine lv_aload_n hx hb dL_law_454 rfl (lv_at hl 1 rfl) ?_
  refine lv_iload hx hb dL_law_455 (lv_at hl 6 rfl) ?_
  refine lv_iconst (v := nI 1) hx hb dL_law_457 kc_iconst_1 ?_
  refine r_addN hx hb dL_law_458 ?_
  refine r_sld hx hb hX hbl hbA hL hw (i := (5 * k) + 1) (by omega) (v := nI r) h1 dL_law_459 ?_
  refine lv_aload_n hx hb dL_law_460 rfl (lv_at hl 1 rfl) ?_
  refine lv_iload hx hb dL_law_461 (lv_at hl 6 rfl) ?_
  refine lv_iconst (v := nI 2) hx hb dL_law_463 kc_iconst_2 ?_
  refine r_addN hx hb dL_law_464 ?_
  refine r_sld hx hb hX hbl hbA hL hw (i := (5 * k) + 2) (by omega) (v := nI w) h2 dL_law_465 ?_
  refine lv_aload_n hx hb dL_law_466 rfl (lv_at hl 1 rfl) ?_
  refine lv_iload hx hb dL_law_467 (lv_at hl 6 rfl) ?_
  refine lv_iconst (v := nI 3) hx hb dL_law_469 kc_iconst_3 ?_
  refine r_addN hx hb dL_law_470 ?_
  refine r_sld hx hb hX hbl hbA hL hw (i := (5 * k) + 3) (by omega) (v := p2) h3 dL_law_471 ?_
  refine cp_Vi (As := [.int (nI r), .int (nI w), .int p2]) (rest := []) (wc := wM cI m9 sa tx th n7 ln po2 lt fi sc nu2 ad2 rv) (wr := ([(x9, .inr (3, [.ref (q 0), .ref (h9 0), .ref (t9 0)]))] : va_W) ++ wS cI q st ++ wR cR h9 (fr7 ad n8) ol n7 ++ wT cC t9 tx ln po ki rp tg nu ++ ([(o9, .inl (cJ, 1, .inr (.inl fo)))] : va_W) ++ ([(p9, .inl (cD, 1, .inr (.inr (.inr (.inl fd)))))] : va_W)) S (c_X4_exclude_e2 l D (sz := H.size) (cI := cI) (m9 := m9) (sa := sa) (tx := tx) (th := th) (sv := n7) (ln := ln) (po := po2) (lt := lt) (fi := fi) (sc := sc) (nu := nu2) (ad := ad2) (rv := rv) (r := r) (w := w) (p2 := p2) (hr := by omega) (hw5 := by omega) (hv := hv)) (cwV 3 hts gL_law_X4_exclude rfl rfl rfl (by decide +kernel) ⟨Nat.le_of_ble_eq_true rfl, Nat.le_of_ble_eq_true rfl⟩) hw hA [14, 15, 16] [0, 1, 2, 3, 4, 5, 6, 7, 8, 9, 10, 11, 12, 13] [0] rfl rfl (k0 := 17) rfl (by decide) rfl 0 rfl rfl rfl hl.1 (Nat.le_of_ble_eq_true rfl) ⟨(show (cells + 1) + 0 ≤ room_1.cells by omega), (show (slots + 6) + 0 ≤ room_1.slots by omega)⟩ rfl dL_law_472 (fun r_472 u_472 H locs e_472 hw => ?_)
  have hw : Wd D A [(cI, .int), (cR, .object RX1), (cC, .char), (cJ, .long), (cD, .double)] (wM cI m9 sa tx (nI 2) n7 ln po2 lt fi sc nu2 ad2 rv ++ ([(x9, .inr (3, [.ref (q 0), .ref (h9 0), .ref (t9 0)]))] : va_W) ++ wS cI q st ++ wR cR h9 (fr7 ad n8) ol n7 ++ wT cC t9 tx ln po ki rp tg nu ++ ([(o9, .inl (cJ, 1, .inr (.inl fo)))] : va_W) ++ ([(p9, .inl (cD, 1, .inr (.inr (.inr (.inl fd)))))] : va_W) ++ wP cI ad sv n8) s s.heap H locs := hw
  have e_472 : r_472 = nI 0 := e_472
  subst e_472
  refine lv_istore (lv' := [(7, .int (nI 0)), (6, .int (nI 2)), (0, .ref b), (1, .ref x9), (2, .ref (m9 0)), (3, .ref o9), (4, .ref p9), (5, .int (nI (5 * k)))]) hx hb dL_law_475 hl (by decide) rfl (fun ls hl => ?_)
  refine lv_aload_n hx hb dL_law_477 rfl (lv_at hl 4 rfl) ?_
  refine cq_V (As := []) (rest := []) S (c_X4_thrown l D (cI := cI) (m9 := m9) (sa := sa) (tx := tx) (th := nI 2) (sv := n7) (ln := ln) (po := po2) (lt := lt) (fi := fi) (sc := sc) (nu := nu2) (ad := ad2) (rv := rv)) (cwV 0 hts gL_law_X4_thrown rfl rfl rfl (by decide +kernel) ⟨Nat.le_of_ble_eq_true rfl, Nat.le_of_ble_eq_true rfl⟩) (hw.q.sub [0, 1, 2] [0] rfl rfl) 0 rfl rfl rfl hl.1 (Nat.le_of_ble_eq_true rfl) ⟨(show (cells + 1) ≤ room_1.cells by omega), (show (slots + 6) ≤ room_1.slots by omega)⟩ rfl dL_law_478 (fun r_478 e_478 => ?_)
  have e_478 : r_478 = (nI 2) := e_478
  subst e_478
  refine lv_iload hx hb dL_law_481 (lv_at hl 1 rfl) ?_
  refine r_icmp_eqN (tgt := 488) hx hb (by decide) (by decide) dL_law_483 (by decide) (fun _ => ?_) (fun h => absurd h (by decide))
  refine lv_iload hx hb dL_law_488 (lv_at hl 1 rfl) ?_
  refine lv_if_ne (tgt := 505) hx hb dL_law_490 (by decide) (fun _ => ?_) (fun h => absurd h (by decide))
  refine lv_goto (tgt := 1875) hx hb dL_law_505 (by decide) ?_
  have hw : Wd D A [(cI, .int), (cR, .object RX1), (cC, .char), (cJ, .long), (cD, .double)] (([(x9, .inr (3, [.ref (q 0), .ref (h9 0), .ref (t9 0)]))] : va_W) ++ wS cI q st ++ wR cR h9 (fr7 ad n8) ol n7 ++ wT cC t9 tx ln po ki rp tg nu ++ ([(o9, .inl (cJ, 1, .inr (.inl fo)))] : va_W) ++ ([(p9, .inl (cD, 1, .inr (.inr (.inr (.inl fd)))))] : va_W) ++ wM cI m9 sa tx (nI 2) n7 ln po2 lt fi sc nu2 ad2 rv ++ wP cI ad sv n8) s s.heap H locs := hw.ord [3, 4, 5, 6, 7, 8, 9, 10, 11, 12, 13, 14, 15, 16, 0, 1, 2] (k0 := 17) rfl rfl (by decide)
  have hl : lv_has ls 10 [(0, .ref b), (1, .ref x9), (2, .ref (m9 0)), (3, .ref o9), (4, .ref p9), (5, .int (nI (5 * k)))] := lv_sub hl [2, 3, 4, 5, 6, 7] rfl
  refine W.widen (k := cells + 7) (n := slots + 5790) (by omega) (by omega) ?_
  exact kk H locs ls ⟨st, ad, sv, ol, n7, n8, tx, ln, po, ki, rp, tg, nu, fo, fd, sa, nI 2, po2, lt, fi, sc, nu2, ad2, rv, hw, LV_m hLV (by omega)⟩ hl
set_option maxHeartbeats 4000000 in
set_option maxRecDepth 100000 in
theorem law_merge_e2 {p : Program} {l : Launch} {e : Env} {s : State} {m : MethodId} {args : Array Value} {below : List Frame} {meth : Method} {c : Code} {Q : State → Prop} {D : va_G} {A : Nat → Prop} {b L : Nat} {xs : Nat → Int32} {cells slots : Nat} {cI cR cC cJ cD : ClassId} {x9 : Nat} {q h9 t9 : Nat → Nat} {o9 p9 : Nat} {m9 : Nat → Nat} {B k : Nat} (F : LF p l s m c args A b L xs) (hk5 : 5 * k + 5 ≤ L) (hB : B + 100 < 2 ^ 31) (hR : cells + 7 ≤ room_1.cells ∧ slots + 5790 ≤ room_1.slots) {st : St} {ad : Nat → Nat → Nat} {sv : Nat → St} {ol n7 n8 : Nat} {tx : Nat → Nat} {ln po : Nat} {ki rp tg nu : Int32} {fo : Nat → Int64} {fd : Nat → UInt64} {sa : Nat → Int32} {th : Int32} {po2 : Nat} {lt fi sc nu2 : Int32} {ad2 rv : Nat} {H : Heap} {locs : List Loc} (hw : Wd D A [(cI, .int), (cR, .object RX1), (cC, .char), (cJ, .long), (cD, .double)] ([(x9, .inr (3, [.ref (q 0), .ref (h9 0), .ref (t9 0)]))] ++ wS cI q st ++ wR cR h9 (fr7 ad n8) ol n7 ++ wT cC t9 tx ln po ki rp tg nu ++ [(o9, .inl (cJ, 1, .inr (.inl fo)))] ++ [(p9, .inl (cD, 1, .inr (.inr (.inr (.inl fd)))))] ++ wM cI m9 sa tx th n7 ln po2 lt fi sc nu2 ad2 rv ++ wP cI ad sv n8) s s.heap H locs) (hLV : LV st sv ol n7 n8 tx ln po sa po2 B) {ls : Array Slot} (hl : lv_has ls 10 [(0, .ref b), (1, .ref x9), (2, .ref (m9 0)), (3, .ref o9), (4, .ref p9), (5, .int (nI (5 * k)))]) {f : Nat} (hf4 : f < 4) (h1 : xs (5 * k + 1) = nI f) (h2 : xs (5 * k + 2) = nI f) (kk : ∀ (H : Heap) (locs : List Loc) (ls : Array Slot), LW D A s cI cR cC cJ cD x9 q h9 t9 o9 p9 m9 (B + 41) H locs → lv_has ls 10 [(0, .ref b), (1, .ref x9), (2, .ref (m9 0)), (3, .ref o9), (4, .ref p9), (5, .int (nI (5 * k)))] → W p l e room_1 s m args below meth c H locs (cells + 7) (slots + 5790) Q (F0 m 1875 ls [])) : W p l e room_1 s m args below meth c H locs cells slots Q (F0 m 576 ls []) := by
  obtain ⟨S, hz, hxe, hzq, hl9, hA, hX, hbl, hbA, hL⟩ := id F
  obtain ⟨hh, hRl, hHs, htx, hln, hpo, hpo2⟩ := id hLV
  have h6 : n7 ≤ 6 := Nat.le_trans hh.2.1 hh.2.2.1
  obtain ⟨hx, hb, hml, hown, hts⟩ := id S
  refine lv_aload_n hx hb dL_law_576 rfl (lv_at hl 1 rfl) ?_
  refine lv_aload_n hx hb dL_law_577 rfl (lv_at hl 0 rfl) ?_
  refine lv_iload hx hb dL_law_578 (lv_at hl 5 rfl) ?_
  refine lv_iconst (v := nI 1) hx hb dL_law_580 kc_iconst_1 ?_
  refine r_addN hx hb dL_law_581 ?_
  refine r_sld hx hb hX hbl hbA hL hw (i := (5 * k) + 1) (by omega) (v := nI f) h1 dL_law_582 ?_
  refine lv_aload_n hx hb dL_law_583 rfl (lv_at hl 0 rfl) ?_
  refine lv_iload hx hb dL_law_584 (lv_at hl 5 rfl) ?_
  refine lv_iconst (v := nI 2) hx hb dL_law_586 kc_iconst_2 ?_
  refine r_addN hx hb dL_law_587 ?_
  refine r_sld hx hb hX hbl hbA hL hw (i := (5 * k) + 2) (by omega) (v := nI f) h2 dL_law_588 ?_
  refine lv_aload_n hx hb dL_law_589 rfl (lv_at hl 3 rfl) ?_
  refine cpz_S (w1 := fun (u9 : Unit) => ([(x9, .inr (3, [.ref (q 0), .ref (h9 0), .ref (t9 0)]))] : va_W) ++ wS cI q st ++ wR cR h9 (fr7 ad n8) ol n7 ++ wT cC t9 tx ln po ki rp tg nu ++ ([(o9, .inl (cJ, 1, .inr (.inl fo)))] : va_W)) (pl := fun (u9 : Unit) => wP cI ad sv n8) (As := [.ref x9, .int (nI f), .int (nI f), .ref o9]) (rest := []) (wc := ([(x9, .inr (3, [.ref (q 0), .ref (h9 0), .ref (t9 0)]))] : va_W) ++ wS cI q st ++ wR cR h9 (fr7 ad n8) ol n7 ++ wT cC t9 tx ln po ki rp tg nu ++ ([(o9, .inl (cJ, 1, .inr (.inl fo)))] : va_W)) (wr := ([(p9, .inl (cD, 1, .inr (.inr (.inr (.inl fd)))))] : va_W) ++ wM cI m9 sa tx th n7 ln po2 lt fi sc nu2 ad2 rv) S hz hxe hzq (c_L_merge_e2 l D (hl9 := hl9) (sz := H.size) (cI := cI) (cR := cR) (cC := cC) (x9 := x9) (q := q) (st := st) (h9 := h9) (ad := ad) (sv := sv) (ol := ol) (n7 := n7) (n8 := n8) (t9 := t9) (tx := tx) (ln := ln) (po := po) (ki := ki) (rp := rp) (tg := tg) (nu := nu) (cJ := cJ) (o9 := o9) (fo := fo) (f := f) (hh := hh) (hf4 := by omega)) (vx_cwSW 4 hts gL_law_L_merge rfl rfl rfl (by decide +kernel) ⟨Nat.le_of_ble_eq_true rfl, Nat.le_of_ble_eq_true rfl⟩) hw hA [0, 1, 2, 3, 4, 5, 6, 7, 8, 9, 10, 11, 12] [13, 14, 15, 16] [0, 1, 2, 3] rfl rfl (k0 := 17) rfl (by decide) rfl rfl hl.1 (Nat.le_of_ble_eq_true rfl) ⟨(show cells + 1 ≤ room_1.cells by omega), (show slots + 6 ≤ room_1.slots by omega)⟩ rfl dL_law_590 (fun r_590 u_590 H locs e_590 hw => ?_)
  have hw : Wd D A [(cI, .int), (cR, .object RX1), (cC, .char), (cJ, .long), (cD, .double)] (([(x9, .inr (3, [.ref (q 0), .ref (h9 0), .ref (t9 0)]))] : va_W) ++ wS cI q st ++ wR cR h9 (fr7 ad n8) ol n7 ++ wT cC t9 tx ln po ki rp tg nu ++ ([(o9, .inl (cJ, 1, .inr (.inl fo)))] : va_W) ++ ([(p9, .inl (cD, 1, .inr (.inr (.inr (.inl fd)))))] : va_W) ++ wM cI m9 sa tx th n7 ln po2 lt fi sc nu2 ad2 rv ++ wP cI ad sv n8) s s.heap H locs := hw
  have e_590 : r_590 = nI 2 := e_590
  subst e_590
  refine lv_istore (lv' := [(6, .int (nI 2)), (0, .ref b), (1, .ref x9), (2, .ref (m9 0)), (3, .ref o9), (4, .ref p9), (5, .int (nI (5 * k)))]) hx hb dL_law_593 hl (by decide) rfl (fun ls hl => ?_)
  refine lv_aload_n hx hb dL_law_595 rfl (lv_at hl 3 rfl) ?_
  refine lv_aload_n hx hb dL_law_596 rfl (lv_at hl 1 rfl) ?_
  refine lv_iload hx hb dL_law_597 (lv_at hl 6 rfl) ?_
  refine lv_iconst (v := nI 1) hx hb dL_law_599 kc_iconst_1 ?_
  refine r_addN hx hb dL_law_600 ?_
  refine r_sld hx hb hX hbl hbA hL hw (i := (5 * k) + 1) (by omega) (v := nI f) h1 dL_law_601 ?_
  refine lv_aload_n hx hb dL_law_602 rfl (lv_at hl 1 rfl) ?_
  refine lv_iload hx hb dL_law_603 (lv_at hl 6 rfl) ?_
  refine lv_iconst (v := nI 2) hx hb dL_law_605 kc_iconst_2 ?_
  refine r_addN hx hb dL_law_606 ?_
  refine r_sld hx hb hX hbl hbA hL hw (i := (5 * k) + 2) (by omega) (v := nI f) h2 dL_law_607 ?_
  refine cp_Vi (As := [.int (nI f), .int (nI f)]) (rest := []) (wc := wM cI m9 sa tx th n7 ln po2 lt fi sc nu2 ad2 rv) (wr := ([(x9, .inr (3, [.ref (q 0), .ref (h9 0), .ref (t9 0)]))] : va_W) ++ wS cI q st ++ wR cR h9 (fr7 ad n8) ol n7 ++ wT cC t9 tx ln po ki rp tg nu ++ ([(o9, .inl (cJ, 1, .inr (.inl fo)))] : va_W) ++ ([(p9, .inl (cD, 1, .inr (.inr (.inr (.inl fd)))))] : va_W)) S (c_X4_merge_e2 l D (sz := H.size) (cI := cI) (m9 := m9) (sa := sa) (tx := tx) (th := th) (sv := n7) (ln := ln) (po := po2) (lt := lt) (fi := fi) (sc := sc) (nu := nu2) (ad := ad2) (rv := rv) (f := f) (hf4 := by omega)) (cwV 2 hts gL_law_X4_merge rfl rfl rfl (by decide +kernel) ⟨Nat.le_of_ble_eq_true rfl, Nat.le_of_ble_eq_true rfl⟩) hw hA [14, 15, 16] [0, 1, 2, 3, 4, 5, 6, 7, 8, 9, 10, 11, 12, 13] [0] rfl rfl (k0 := 17) rfl (by decide) rfl 0 rfl rfl rfl hl.1 (Nat.le_of_ble_eq_true rfl) ⟨(show (cells + 1) + 0 ≤ room_1.cells by omega), (show (slots + 6) + 0 ≤ room_1.slots by omega)⟩ rfl dL_law_608 (fun r_608 u_608 H locs e_608 hw => ?_)
  have hw : Wd D A [(cI, .int), (cR, .object RX1), (cC, .char), (cJ, .long), (cD, .double)] (wM cI m9 sa tx (nI 2) n7 ln po2 lt fi sc nu2 ad2 rv ++ ([(x9, .inr (3, [.ref (q 0), .ref (h9 0), .ref (t9 0)]))] : va_W) ++ wS cI q st ++ wR cR h9 (fr7 ad n8) ol n7 ++ wT cC t9 tx ln po ki rp tg nu ++ ([(o9, .inl (cJ, 1, .inr (.inl fo)))] : va_W) ++ ([(p9, .inl (cD, 1, .inr (.inr (.inr (.inl fd)))))] : va_W) ++ wP cI ad sv n8) s s.heap H locs := hw
  have e_608 : r_608 = nI 0 := e_608
  subst e_608
  refine lv_istore (lv' := [(7, .int (nI 0)), (6, .int (nI 2)), (0, .ref b), (1, .ref x9), (2, .ref (m9 0)), (3, .ref o9), (4, .ref p9), (5, .int (nI (5 * k)))]) hx hb dL_law_611 hl (by decide) rfl (fun ls hl => ?_)
  refine lv_aload_n hx hb dL_law_613 rfl (lv_at hl 4 rfl) ?_
  refine cq_V (As := []) (rest := []) S (c_X4_thrown l D (cI := cI) (m9 := m9) (sa := sa) (tx := tx) (th := nI 2) (sv := n7) (ln := ln) (po := po2) (lt := lt) (fi := fi) (sc := sc) (nu := nu2) (ad := ad2) (rv := rv)) (cwV 0 hts gL_law_X4_thrown rfl rfl rfl (by decide +kernel) ⟨Nat.le_of_ble_eq_true rfl, Nat.le_of_ble_eq_true rfl⟩) (hw.q.sub [0, 1, 2] [0] rfl rfl) 0 rfl rfl rfl hl.1 (Nat.le_of_ble_eq_true rfl) ⟨(show (cells + 1) ≤ room_1.cells by omega), (show (slots + 6) ≤ room_1.slots by omega)⟩ rfl dL_law_614 (fun r_614 e_614 => ?_)
  have e_614 : r_614 = (nI 2) := e_614
  subst e_614
  refine lv_iload hx hb dL_law_617 (lv_at hl 1 rfl) ?_
  refine r_icmp_eqN (tgt := 624) hx hb (by decide) (by decide) dL_law_619 (by decide) (fun _ => ?_) (fun h => absurd h (by decide))
  refine lv_iload hx hb dL_law_624 (lv_at hl 1 rfl) ?_
  refine lv_if_ne (tgt := 641) hx hb dL_law_626 (by decide) (fun _ => ?_) (fun h => absurd h (by decide))
  refine lv_goto (tgt := 1875) hx hb dL_law_641 (by decide) ?_
  have hw : Wd D A [(cI, .int), (cR, .object RX1), (cC, .char), (cJ, .long), (cD, .double)] (([(x9, .inr (3, [.ref (q 0), .ref (h9 0), .ref (t9 0)]))] : va_W) ++ wS cI q st ++ wR cR h9 (fr7 ad n8) ol n7 ++ wT cC t9 tx ln po ki rp tg nu ++ ([(o9, .inl (cJ, 1, .inr (.inl fo)))] : va_W) ++ ([(p9, .inl (cD, 1, .inr (.inr (.inr (.inl fd)))))] : va_W) ++ wM cI m9 sa tx (nI 2) n7 ln po2 lt fi sc nu2 ad2 rv ++ wP cI ad sv n8) s s.heap H locs := hw.ord [3, 4, 5, 6, 7, 8, 9, 10, 11, 12, 13, 14, 15, 16, 0, 1, 2] (k0 := 17) rfl rfl (by decide)
  have hl : lv_has ls 10 [(0, .ref b), (1, .ref x9), (2, .ref (m9 0)), (3, .ref o9), (4, .ref p9), (5, .int (nI (5 * k)))] := lv_sub hl [2, 3, 4, 5, 6, 7] rfl
  refine W.widen (k := cells + 7) (n := slots + 5790) (by omega) (by omega) ?_
  exact kk H locs ls ⟨st, ad, sv, ol, n7, n8, tx, ln, po, ki, rp, tg, nu, fo, fd, sa, nI 2, po2, lt, fi, sc, nu2, ad2, rv, hw, LV_m hLV (by omega)⟩ hl
set_option maxHeartbeats 4000000 in
set_option maxRecDepth 100000 in
theorem law_ifMerged_e2 {p : Program} {l : Launch} {e : Env} {s : State} {m : MethodId} {args : Array Value} {below : List Frame} {meth : Method} {c : Code} {Q : State → Prop} {D : va_G} {A : Nat → Prop} {b L : Nat} {xs : Nat → Int32} {cells slots : Nat} {cI cR cC cJ cD : ClassId} {x9 : Nat} {q h9 t9 : Nat → Nat} {o9 p9 : Nat} {m9 : Nat → Nat} {B k : Nat} (F : LF p l s m c args A b L xs) (hk5 : 5 * k + 5 ≤ L) (hB : B + 100 < 2 ^ 31) (hR : cells + 7 ≤ room_1.cells ∧ slots + 5790 ≤ room_1.slots) {st : St} {ad : Nat → Nat → Nat} {sv : Nat → St} {ol n7 n8 : Nat} {tx : Nat → Nat} {ln po : Nat} {ki rp tg nu : Int32} {fo : Nat → Int64} {fd : Nat → UInt64} {sa : Nat → Int32} {th : Int32} {po2 : Nat} {lt fi sc nu2 : Int32} {ad2 rv : Nat} {H : Heap} {locs : List Loc} (hw : Wd D A [(cI, .int), (cR, .object RX1), (cC, .char), (cJ, .long), (cD, .double)] ([(x9, .inr (3, [.ref (q 0), .ref (h9 0), .ref (t9 0)]))] ++ wS cI q st ++ wR cR h9 (fr7 ad n8) ol n7 ++ wT cC t9 tx ln po ki rp tg nu ++ [(o9, .inl (cJ, 1, .inr (.inl fo)))] ++ [(p9, .inl (cD, 1, .inr (.inr (.inr (.inl fd)))))] ++ wM cI m9 sa tx th n7 ln po2 lt fi sc nu2 ad2 rv ++ wP cI ad sv n8) s s.heap H locs) (hLV : LV st sv ol n7 n8 tx ln po sa po2 B) {ls : Array Slot} (hl : lv_has ls 10 [(0, .ref b), (1, .ref x9), (2, .ref (m9 0)), (3, .ref o9), (4, .ref p9), (5, .int (nI (5 * k)))]) {f t : Nat} {p2 : Int32} (hf4 : f < 4) (ht4 : t < 4) (hv : f = t ∨ ¬ inP p2 (nI 2) (nI 3)) (h1 : xs (5 * k + 1) = nI f) (h2 : xs (5 * k + 2) = nI t) (h3 : xs (5 * k + 3) = p2) (kk : ∀ (H : Heap) (locs : List Loc) (ls : Array Slot), LW D A s cI cR cC cJ cD x9 q h9 t9 o9 p9 m9 (B + 41) H locs → lv_has ls 10 [(0, .ref b), (1, .ref x9), (2, .ref (m9 0)), (3, .ref o9), (4, .ref p9), (5, .int (nI (5 * k)))] → W p l e room_1 s m args below meth c H locs (cells + 7) (slots + 5790) Q (F0 m 1875 ls [])) : W p l e room_1 s m args below meth c H locs cells slots Q (F0 m 1769 ls []) := by
  obtain ⟨S, hz, hxe, hzq, hl9, hA, hX, hbl, hbA, hL⟩ := id F
  obtain ⟨hh, hRl, hHs, htx, hln, hpo, hpo2⟩ := id hLV
  have h6 : n7 ≤ 6 := Nat.le_trans hh.2.1 hh.2.2.1
  obtain ⟨hx, hb, hml, hown, hts⟩ := id S
  refine lv_aload_n hx hb dL_law_1769 rfl (lv_at hl 1 rfl) ?_
  refine lv_aload_n hx hb dL_law_1770 rfl (lv_at hl 0 rfl) ?_
  refine lv_iload hx hb dL_law_1771 (lv_at hl 5 rfl) ?_
  refine lv_iconst (v := nI 1) hx hb dL_law_1773 kc_iconst_1 ?_
  refine r_addN hx hb dL_law_1774 ?_
  refine r_sld hx hb hX hbl hbA hL hw (i := (5 * k) + 1) (by omega) (v := nI f) h1 dL_law_1775 ?_
  refine lv_aload_n hx hb dL_law_1776 rfl (lv_at hl 0 rfl) ?_
  refine lv_iload hx hb dL_law_1777 (lv_at hl 5 rfl) ?_
  refine lv_iconst (v := nI 2) hx hb dL_law_1779 kc_iconst_2 ?_
  refine r_addN hx hb dL_law_1780 ?_
  refine r_sld hx hb hX hbl hbA hL hw (i := (5 * k) + 2) (by omega) (v := nI t) h2 dL_law_1781 ?_
  refine lv_aload_n hx hb dL_law_1782 rfl (lv_at hl 0 rfl) ?_
  refine lv_iload hx hb dL_law_1783 (lv_at hl 5 rfl) ?_
  refine lv_iconst (v := nI 3) hx hb dL_law_1785 kc_iconst_3 ?_
  refine r_addN hx hb dL_law_1786 ?_
  refine r_sld hx hb hX hbl hbA hL hw (i := (5 * k) + 3) (by omega) (v := p2) h3 dL_law_1787 ?_
  refine lv_aload_n hx hb dL_law_1788 rfl (lv_at hl 3 rfl) ?_
  refine cpz_S (w1 := fun (u9 : Unit) => ([(x9, .inr (3, [.ref (q 0), .ref (h9 0), .ref (t9 0)]))] : va_W) ++ wS cI q st ++ wR cR h9 (fr7 ad n8) ol n7 ++ wT cC t9 tx ln po ki rp tg nu ++ ([(o9, .inl (cJ, 1, .inr (.inl fo)))] : va_W)) (pl := fun (u9 : Unit) => wP cI ad sv n8) (As := [.ref x9, .int (nI f), .int (nI t), .int p2, .ref o9]) (rest := []) (wc := ([(x9, .inr (3, [.ref (q 0), .ref (h9 0), .ref (t9 0)]))] : va_W) ++ wS cI q st ++ wR cR h9 (fr7 ad n8) ol n7 ++ wT cC t9 tx ln po ki rp tg nu ++ ([(o9, .inl (cJ, 1, .inr (.inl fo)))] : va_W)) (wr := ([(p9, .inl (cD, 1, .inr (.inr (.inr (.inl fd)))))] : va_W) ++ wM cI m9 sa tx th n7 ln po2 lt fi sc nu2 ad2 rv) S hz hxe hzq (c_L_ifMerged_e2 l D (hl9 := hl9) (sz := H.size) (cI := cI) (cR := cR) (cC := cC) (x9 := x9) (q := q) (st := st) (h9 := h9) (ad := ad) (sv := sv) (ol := ol) (n7 := n7) (n8 := n8) (t9 := t9) (tx := tx) (ln := ln) (po := po) (ki := ki) (rp := rp) (tg := tg) (nu := nu) (cJ := cJ) (o9 := o9) (fo := fo) (f := f) (t := t) (p2 := p2) (hh := hh) (hf4 := by omega) (ht4 := by omega) (hv := hv)) (vx_cwSW 5 hts gL_law_L_ifMerged rfl rfl rfl (by decide +kernel) ⟨Nat.le_of_ble_eq_true rfl, Nat.le_of_ble_eq_true rfl⟩) hw hA [0, 1, 2, 3, 4, 5, 6, 7, 8, 9, 10, 11, 12] [13, 14, 15, 16] [0, 1, 2, 3] rfl rfl (k0 := 17) rfl (by decide) rfl rfl hl.1 (Nat.le_of_ble_eq_true rfl) ⟨(show cells + 1 ≤ room_1.cells by omega), (show slots + 6 ≤ room_1.slots by omega)⟩ rfl dL_law_1789 (fun r_1789 u_1789 H locs e_1789 hw => ?_)
  have hw : Wd D A [(cI, .int), (cR, .object RX1), (cC, .char), (cJ, .long), (cD, .double)] (([(x9, .inr (3, [.ref (q 0), .ref (h9 0), .ref (t9 0)]))] : va_W) ++ wS cI q st ++ wR cR h9 (fr7 ad n8) ol n7 ++ wT cC t9 tx ln po ki rp tg nu ++ ([(o9, .inl (cJ, 1, .inr (.inl fo)))] : va_W) ++ ([(p9, .inl (cD, 1, .inr (.inr (.inr (.inl fd)))))] : va_W) ++ wM cI m9 sa tx th n7 ln po2 lt fi sc nu2 ad2 rv ++ wP cI ad sv n8) s s.heap H locs := hw
  have e_1789 : r_1789 = nI 2 := e_1789
  subst e_1789
  refine lv_istore (lv' := [(6, .int (nI 2)), (0, .ref b), (1, .ref x9), (2, .ref (m9 0)), (3, .ref o9), (4, .ref p9), (5, .int (nI (5 * k)))]) hx hb dL_law_1792 hl (by decide) rfl (fun ls hl => ?_)
  refine lv_aload_n hx hb dL_law_1794 rfl (lv_at hl 3 rfl) ?_
  refine lv_aload_n hx hb dL_law_1795 rfl (lv_at hl 1 rfl) ?_
  refine lv_iload hx hb dL_law_1796 (lv_at hl 6 rfl) ?_
  refine lv_iconst (v := nI 1) hx hb dL_law_1798 kc_iconst_1 ?_
  refine r_addN hx hb dL_law_1799 ?_
  refine r_sld hx hb hX hbl hbA hL hw (i := (5 * k) + 1) (by omega) (v := nI f) h1 dL_law_1800 ?_
  refine lv_aload_n hx hb dL_law_1801 rfl (lv_at hl 1 rfl) ?_
  refine lv_iload hx hb dL_law_1802 (lv_at hl 6 rfl) ?_
  refine lv_iconst (v := nI 2) hx hb dL_law_1804 kc_iconst_2 ?_
  refine r_addN hx hb dL_law_1805 ?_
  refine r_sld hx hb hX hbl hbA hL hw (i := (5 * k) + 2) (by omega) (v := nI t) h2 dL_law_1806 ?_
  refine lv_aload_n hx hb dL_law_1807 rfl (lv_at hl 1 rfl) ?_
  refine lv_iload hx hb dL_law_1808 (lv_at hl 6 rfl) ?_
  refine lv_iconst (v := nI 3) hx hb dL_law_1810 kc_iconst_3 ?_
  refine r_addN hx hb dL_law_1811 ?_
  refine r_sld hx hb hX hbl hbA hL hw (i := (5 * k) + 3) (by omega) (v := p2) h3 dL_law_1812 ?_
  refine cp_Vi (As := [.int (nI f), .int (nI t), .int p2]) (rest := []) (wc := wM cI m9 sa tx th n7 ln po2 lt fi sc nu2 ad2 rv) (wr := ([(x9, .inr (3, [.ref (q 0), .ref (h9 0), .ref (t9 0)]))] : va_W) ++ wS cI q st ++ wR cR h9 (fr7 ad n8) ol n7 ++ wT cC t9 tx ln po ki rp tg nu ++ ([(o9, .inl (cJ, 1, .inr (.inl fo)))] : va_W) ++ ([(p9, .inl (cD, 1, .inr (.inr (.inr (.inl fd)))))] : va_W)) S (c_X4_ifMerged_e2 l D (sz := H.size) (cI := cI) (m9 := m9) (sa := sa) (tx := tx) (th := th) (sv := n7) (ln := ln) (po := po2) (lt := lt) (fi := fi) (sc := sc) (nu := nu2) (ad := ad2) (rv := rv) (f := f) (t := t) (p2 := p2) (hf4 := by omega) (ht4 := by omega) (hv := hv)) (cwV 3 hts gL_law_X4_ifMerged rfl rfl rfl (by decide +kernel) ⟨Nat.le_of_ble_eq_true rfl, Nat.le_of_ble_eq_true rfl⟩) hw hA [14, 15, 16] [0, 1, 2, 3, 4, 5, 6, 7, 8, 9, 10, 11, 12, 13] [0] rfl rfl (k0 := 17) rfl (by decide) rfl 0 rfl rfl rfl hl.1 (Nat.le_of_ble_eq_true rfl) ⟨(show (cells + 1) + 0 ≤ room_1.cells by omega), (show (slots + 6) + 0 ≤ room_1.slots by omega)⟩ rfl dL_law_1813 (fun r_1813 u_1813 H locs e_1813 hw => ?_)
  have hw : Wd D A [(cI, .int), (cR, .object RX1), (cC, .char), (cJ, .long), (cD, .double)] (wM cI m9 sa tx (nI 2) n7 ln po2 lt fi sc nu2 ad2 rv ++ ([(x9, .inr (3, [.ref (q 0), .ref (h9 0), .ref (t9 0)]))] : va_W) ++ wS cI q st ++ wR cR h9 (fr7 ad n8) ol n7 ++ wT cC t9 tx ln po ki rp tg nu ++ ([(o9, .inl (cJ, 1, .inr (.inl fo)))] : va_W) ++ ([(p9, .inl (cD, 1, .inr (.inr (.inr (.inl fd)))))] : va_W) ++ wP cI ad sv n8) s s.heap H locs := hw
  have e_1813 : r_1813 = nI 0 := e_1813
  subst e_1813
  refine lv_istore (lv' := [(7, .int (nI 0)), (6, .int (nI 2)), (0, .ref b), (1, .ref x9), (2, .ref (m9 0)), (3, .ref o9), (4, .ref p9), (5, .int (nI (5 * k)))]) hx hb dL_law_1816 hl (by decide) rfl (fun ls hl => ?_)
  refine lv_aload_n hx hb dL_law_1818 rfl (lv_at hl 4 rfl) ?_
  refine cq_V (As := []) (rest := []) S (c_X4_thrown l D (cI := cI) (m9 := m9) (sa := sa) (tx := tx) (th := nI 2) (sv := n7) (ln := ln) (po := po2) (lt := lt) (fi := fi) (sc := sc) (nu := nu2) (ad := ad2) (rv := rv)) (cwV 0 hts gL_law_X4_thrown rfl rfl rfl (by decide +kernel) ⟨Nat.le_of_ble_eq_true rfl, Nat.le_of_ble_eq_true rfl⟩) (hw.q.sub [0, 1, 2] [0] rfl rfl) 0 rfl rfl rfl hl.1 (Nat.le_of_ble_eq_true rfl) ⟨(show (cells + 1) ≤ room_1.cells by omega), (show (slots + 6) ≤ room_1.slots by omega)⟩ rfl dL_law_1819 (fun r_1819 e_1819 => ?_)
  have e_1819 : r_1819 = (nI 2) := e_1819
  subst e_1819
  refine lv_iload hx hb dL_law_1822 (lv_at hl 1 rfl) ?_
  refine r_icmp_eqN (tgt := 1829) hx hb (by decide) (by decide) dL_law_1824 (by decide) (fun _ => ?_) (fun h => absurd h (by decide))
  refine lv_iload hx hb dL_law_1829 (lv_at hl 1 rfl) ?_
  refine lv_if_ne (tgt := 1846) hx hb dL_law_1831 (by decide) (fun _ => ?_) (fun h => absurd h (by decide))
  refine lv_goto (tgt := 1875) hx hb dL_law_1846 (by decide) ?_
  have hw : Wd D A [(cI, .int), (cR, .object RX1), (cC, .char), (cJ, .long), (cD, .double)] (([(x9, .inr (3, [.ref (q 0), .ref (h9 0), .ref (t9 0)]))] : va_W) ++ wS cI q st ++ wR cR h9 (fr7 ad n8) ol n7 ++ wT cC t9 tx ln po ki rp tg nu ++ ([(o9, .inl (cJ, 1, .inr (.inl fo)))] : va_W) ++ ([(p9, .inl (cD, 1, .inr (.inr (.inr (.inl fd)))))] : va_W) ++ wM cI m9 sa tx (nI 2) n7 ln po2 lt fi sc nu2 ad2 rv ++ wP cI ad sv n8) s s.heap H locs := hw.ord [3, 4, 5, 6, 7, 8, 9, 10, 11, 12, 13, 14, 15, 16, 0, 1, 2] (k0 := 17) rfl rfl (by decide)
  have hl : lv_has ls 10 [(0, .ref b), (1, .ref x9), (2, .ref (m9 0)), (3, .ref o9), (4, .ref p9), (5, .int (nI (5 * k)))] := lv_sub hl [2, 3, 4, 5, 6, 7] rfl
  refine W.widen (k := cells + 7) (n := slots + 5790) (by omega) (by omega) ?_
  exact kk H locs ls ⟨st, ad, sv, ol, n7, n8, tx, ln, po, ki, rp, tg, nu, fo, fd, sa, nI 2, po2, lt, fi, sc, nu2, ad2, rv, hw, LV_m hLV (by omega)⟩ hl
