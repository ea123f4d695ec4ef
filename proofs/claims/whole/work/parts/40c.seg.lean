set_option maxHeartbeats 4000000 in
set_option maxRecDepth 100000 in
theorem law_savedStates {p : Program} {l : Launch} {e : Env} {s : State} {m : MethodId} {args : Array Value} {below : List Frame} {meth : Method} {c : Code} {Q : State → Prop} {D : va_G} {A : Nat → Prop} {b L : Nat} {xs : Nat → Int32} {cells slots : Nat} {cI cR cC cJ cD : ClassId} {x9 : Nat} {q h9 t9 : Nat → Nat} {o9 p9 : Nat} {m9 : Nat → Nat} {B k : Nat} (F : LF p l s m c args A b L xs) (hk5 : 5 * k + 5 ≤ L) (hB : B + 100 < 2 ^ 31) (hR : cells + 7 ≤ room_1.cells ∧ slots + 5790 ≤ room_1.slots) {st : St} {ad : Nat → Nat → Nat} {sv : Nat → St} {ol n7 n8 : Nat} {tx : Nat → Nat} {ln po : Nat} {ki rp tg nu : Int32} {fo : Nat → Int64} {fd : Nat → UInt64} {sa : Nat → Int32} {th : Int32} {po2 : Nat} {lt fi sc nu2 : Int32} {ad2 rv : Nat} {H : Heap} {locs : List Loc} (hw : Wd D A [(cI, .int), (cR, .object RX1), (cC, .char), (cJ, .long), (cD, .double)] ([(x9, .inr (3, [.ref (q 0), .ref (h9 0), .ref (t9 0)]))] ++ wS cI q st ++ wR cR h9 (fr7 ad n8) ol n7 ++ wT cC t9 tx ln po ki rp tg nu ++ [(o9, .inl (cJ, 1, .inr (.inl fo)))] ++ [(p9, .inl (cD, 1, .inr (.inr (.inr (.inl fd)))))] ++ wM cI m9 sa tx th n7 ln po2 lt fi sc nu2 ad2 rv ++ wP cI ad sv n8) s s.heap H locs) (hLV : LV st sv ol n7 n8 tx ln po sa po2 B) {ls : Array Slot} (hl : lv_has ls 10 [(0, .ref b), (1, .ref x9), (2, .ref (m9 0)), (3, .ref o9), (4, .ref p9), (5, .int (nI (5 * k)))])    (kk : ∀ (H : Heap) (locs : List Loc) (ls : Array Slot), LW D A s cI cR cC cJ cD x9 q h9 t9 o9 p9 m9 (B + 41) H locs → lv_has ls 10 [(0, .ref b), (1, .ref x9), (2, .ref (m9 0)), (3, .ref o9), (4, .ref p9), (5, .int (nI (5 * k)))] → W p l e room_1 s m args below meth c H locs (cells + 7) (slots + 5790) Q (F0 m 1875 ls [])) : W p l e room_1 s m args below meth c H locs cells slots Q (F0 m 1849 ls []) := by
  obtain ⟨S, hz, hxe, hzq, hl9, hA, hX, hbl, hbA, hL⟩ := id F
  obtain ⟨hh, hRl, hHs, htx, hln, hpo, hpo2⟩ := id hLV
  have h6 : n7 ≤ 6 := Nat.le_trans hh.2.1 hh.2.2.1
  obtain ⟨hx, hb, hml, hown, hts⟩ := id S
  refine lv_aload_n hx hb dL_law_1849 rfl (lv_at hl 1 rfl) ?_
  refine cpx_i (w1 := fun (u9 : Unit) => ([(x9, .inr (3, [.ref (q 0), .ref (h9 0), .ref (t9 0)]))] : va_W) ++ wS cI q st ++ wR cR h9 (fr7 ad n8) ol n7 ++ wT cC t9 tx ln po ki rp tg nu) (pl := fun (u9 : Unit) => wP cI ad sv n8) (As := []) (rest := []) (wc := ([(x9, .inr (3, [.ref (q 0), .ref (h9 0), .ref (t9 0)]))] : va_W) ++ wS cI q st ++ wR cR h9 (fr7 ad n8) ol n7 ++ wT cC t9 tx ln po ki rp tg nu) (wr := ([(o9, .inl (cJ, 1, .inr (.inl fo)))] : va_W) ++ ([(p9, .inl (cD, 1, .inr (.inr (.inr (.inl fd)))))] : va_W) ++ wM cI m9 sa tx th n7 ln po2 lt fi sc nu2 ad2 rv) S hz (c_X3_savedStates l D (sz := H.size) (cI := cI) (cR := cR) (cC := cC) (x9 := x9) (q := q) (st := st) (h9 := h9) (ad := ad) (sv := sv) (ol := ol) (n7 := n7) (n8 := n8) (t9 := t9) (tx := tx) (ln := ln) (po := po) (ki := ki) (rp := rp) (tg := tg) (nu := nu) (hh := hh)) (cwV 0 hts gL_law_X3_savedStates rfl rfl rfl (by decide +kernel) ⟨Nat.le_of_ble_eq_true rfl, Nat.le_of_ble_eq_true rfl⟩) hw hA [0, 1, 2, 3, 4, 5, 6, 7, 8, 9, 10, 11] [12, 13, 14, 15, 16] [0, 1, 2] rfl rfl (k0 := 17) rfl (by decide) rfl 0 rfl rfl rfl hl.1 (Nat.le_of_ble_eq_true rfl) ⟨(show cells + 0 ≤ room_1.cells by omega), (show slots + 0 ≤ room_1.slots by omega)⟩ rfl dL_law_1850 (fun r_1850 u_1850 H locs e_1850 hw => ?_)
  obtain ⟨⟩ := u_1850
  have hw : Wd D A [(cI, .int), (cR, .object RX1), (cC, .char), (cJ, .long), (cD, .double)] (([(x9, .inr (3, [.ref (q 0), .ref (h9 0), .ref (t9 0)]))] : va_W) ++ wS cI q st ++ wR cR h9 (fr7 ad n8) ol n7 ++ wT cC t9 tx ln po ki rp tg nu ++ ([(o9, .inl (cJ, 1, .inr (.inl fo)))] : va_W) ++ ([(p9, .inl (cD, 1, .inr (.inr (.inr (.inl fd)))))] : va_W) ++ wM cI m9 sa tx th n7 ln po2 lt fi sc nu2 ad2 rv ++ wP cI ad sv n8) s s.heap H locs := hw
  have e_1850 : r_1850 = nI n7 := e_1850
  subst e_1850
  refine lv_aload_n hx hb dL_law_1853 rfl (lv_at hl 2 rfl) ?_
  refine cp_Vi (As := []) (rest := [.int (nI n7)]) (wc := wM cI m9 sa tx th n7 ln po2 lt fi sc nu2 ad2 rv) (wr := ([(x9, .inr (3, [.ref (q 0), .ref (h9 0), .ref (t9 0)]))] : va_W) ++ wS cI q st ++ wR cR h9 (fr7 ad n8) ol n7 ++ wT cC t9 tx ln po ki rp tg nu ++ ([(o9, .inl (cJ, 1, .inr (.inl fo)))] : va_W) ++ ([(p9, .inl (cD, 1, .inr (.inr (.inr (.inl fd)))))] : va_W)) S (c_X4_savedStates l D (sz := H.size) (cI := cI) (m9 := m9) (sa := sa) (tx := tx) (th := th) (sv := n7) (ln := ln) (po := po2) (lt := lt) (fi := fi) (sc := sc) (nu := nu2) (ad := ad2) (rv := rv)) (cwV 0 hts gL_law_X4_savedStates rfl rfl rfl (by decide +kernel) ⟨Nat.le_of_ble_eq_true rfl, Nat.le_of_ble_eq_true rfl⟩) hw hA [14, 15, 16] [0, 1, 2, 3, 4, 5, 6, 7, 8, 9, 10, 11, 12, 13] [0] rfl rfl (k0 := 17) rfl (by decide) rfl 0 rfl rfl rfl hl.1 (Nat.le_of_ble_eq_true rfl) ⟨(show cells + 0 ≤ room_1.cells by omega), (show slots + 0 ≤ room_1.slots by omega)⟩ rfl dL_law_1854 (fun r_1854 u_1854 H locs e_1854 hw => ?_)
  have hw : Wd D A [(cI, .int), (cR, .object RX1), (cC, .char), (cJ, .long), (cD, .double)] (wM cI m9 sa tx (nI 0) n7 ln po2 lt fi sc nu2 ad2 rv ++ ([(x9, .inr (3, [.ref (q 0), .ref (h9 0), .ref (t9 0)]))] : va_W) ++ wS cI q st ++ wR cR h9 (fr7 ad n8) ol n7 ++ wT cC t9 tx ln po ki rp tg nu ++ ([(o9, .inl (cJ, 1, .inr (.inl fo)))] : va_W) ++ ([(p9, .inl (cD, 1, .inr (.inr (.inr (.inl fd)))))] : va_W) ++ wP cI ad sv n8) s s.heap H locs := hw
  have e_1854 : r_1854 = nI n7 := e_1854
  subst e_1854
  refine lv_icmp_eq (tgt := 1875) hx hb dL_law_1857 (by decide) (fun _ => ?_) (fun h => absurd (rfl) h)
  have hw : Wd D A [(cI, .int), (cR, .object RX1), (cC, .char), (cJ, .long), (cD, .double)] (([(x9, .inr (3, [.ref (q 0), .ref (h9 0), .ref (t9 0)]))] : va_W) ++ wS cI q st ++ wR cR h9 (fr7 ad n8) ol n7 ++ wT cC t9 tx ln po ki rp tg nu ++ ([(o9, .inl (cJ, 1, .inr (.inl fo)))] : va_W) ++ ([(p9, .inl (cD, 1, .inr (.inr (.inr (.inl fd)))))] : va_W) ++ wM cI m9 sa tx (nI 0) n7 ln po2 lt fi sc nu2 ad2 rv ++ wP cI ad sv n8) s s.heap H locs := hw.ord [3, 4, 5, 6, 7, 8, 9, 10, 11, 12, 13, 14, 15, 16, 0, 1, 2] (k0 := 17) rfl rfl (by decide)
  refine W.widen (k := cells + 7) (n := slots + 5790) (by omega) (by omega) ?_
  exact kk H locs ls ⟨st, ad, sv, ol, n7, n8, tx, ln, po, ki, rp, tg, nu, fo, fd, sa, nI 0, po2, lt, fi, sc, nu2, ad2, rv, hw, LV_m hLV (by omega)⟩ hl
set_option maxHeartbeats 4000000 in
set_option maxRecDepth 100000 in
theorem law_textLength {p : Program} {l : Launch} {e : Env} {s : State} {m : MethodId} {args : Array Value} {below : List Frame} {meth : Method} {c : Code} {Q : State → Prop} {D : va_G} {A : Nat → Prop} {b L : Nat} {xs : Nat → Int32} {cells slots : Nat} {cI cR cC cJ cD : ClassId} {x9 : Nat} {q h9 t9 : Nat → Nat} {o9 p9 : Nat} {m9 : Nat → Nat} {B k : Nat} (F : LF p l s m c args A b L xs) (hk5 : 5 * k + 5 ≤ L) (hB : B + 100 < 2 ^ 31) (hR : cells + 7 ≤ room_1.cells ∧ slots + 5790 ≤ room_1.slots) {st : St} {ad : Nat → Nat → Nat} {sv : Nat → St} {ol n7 n8 : Nat} {tx : Nat → Nat} {ln po : Nat} {ki rp tg nu : Int32} {fo : Nat → Int64} {fd : Nat → UInt64} {sa : Nat → Int32} {th : Int32} {po2 : Nat} {lt fi sc nu2 : Int32} {ad2 rv : Nat} {H : Heap} {locs : List Loc} (hw : Wd D A [(cI, .int), (cR, .object RX1), (cC, .char), (cJ, .long), (cD, .double)] ([(x9, .inr (3, [.ref (q 0), .ref (h9 0), .ref (t9 0)]))] ++ wS cI q st ++ wR cR h9 (fr7 ad n8) ol n7 ++ wT cC t9 tx ln po ki rp tg nu ++ [(o9, .inl (cJ, 1, .inr (.inl fo)))] ++ [(p9, .inl (cD, 1, .inr (.inr (.inr (.inl fd)))))] ++ wM cI m9 sa tx th n7 ln po2 lt fi sc nu2 ad2 rv ++ wP cI ad sv n8) s s.heap H locs) (hLV : LV st sv ol n7 n8 tx ln po sa po2 B) {ls : Array Slot} (hl : lv_has ls 10 [(0, .ref b), (1, .ref x9), (2, .ref (m9 0)), (3, .ref o9), (4, .ref p9), (5, .int (nI (5 * k)))])    (kk : ∀ (H : Heap) (locs : List Loc) (ls : Array Slot), LW D A s cI cR cC cJ cD x9 q h9 t9 o9 p9 m9 (B + 41) H locs → lv_has ls 10 [(0, .ref b), (1, .ref x9), (2, .ref (m9 0)), (3, .ref o9), (4, .ref p9), (5, .int (nI (5 * k)))] → W p l e room_1 s m args below meth c H locs (cells + 7) (slots + 5790) Q (F0 m 1875 ls [])) : W p l e room_1 s m args below meth c H locs cells slots Q (F0 m 1862 ls []) := by
  obtain ⟨S, hz, hxe, hzq, hl9, hA, hX, hbl, hbA, hL⟩ := id F
  obtain ⟨hh, hRl, hHs, htx, hln, hpo, hpo2⟩ := id hLV
  have h6 : n7 ≤ 6 := Nat.le_trans hh.2.1 hh.2.2.1
  obtain ⟨hx, hb, hml, hown, hts⟩ := id S
  refine lv_aload_n hx hb dL_law_1862 rfl (lv_at hl 1 rfl) ?_
  refine cpx_i (w1 := fun (u9 : Unit) => ([(x9, .inr (3, [.ref (q 0), .ref (h9 0), .ref (t9 0)]))] : va_W) ++ wS cI q st ++ wR cR h9 (fr7 ad n8) ol n7 ++ wT cC t9 tx ln po ki rp tg nu) (pl := fun (u9 : Unit) => wP cI ad sv n8) (As := []) (rest := []) (wc := ([(x9, .inr (3, [.ref (q 0), .ref (h9 0), .ref (t9 0)]))] : va_W) ++ wS cI q st ++ wR cR h9 (fr7 ad n8) ol n7 ++ wT cC t9 tx ln po ki rp tg nu) (wr := ([(o9, .inl (cJ, 1, .inr (.inl fo)))] : va_W) ++ ([(p9, .inl (cD, 1, .inr (.inr (.inr (.inl fd)))))] : va_W) ++ wM cI m9 sa tx th n7 ln po2 lt fi sc nu2 ad2 rv) S hz (c_X3_textLength l D (sz := H.size) (cI := cI) (cR := cR) (cC := cC) (x9 := x9) (q := q) (st := st) (h9 := h9) (ad := ad) (sv := sv) (ol := ol) (n7 := n7) (n8 := n8) (t9 := t9) (tx := tx) (ln := ln) (po := po) (ki := ki) (rp := rp) (tg := tg) (nu := nu) (hh := hh) (hln := by omega)) (cwV 0 hts gL_law_X3_textLength rfl rfl rfl (by decide +kernel) ⟨Nat.le_of_ble_eq_true rfl, Nat.le_of_ble_eq_true rfl⟩) hw hA [0, 1, 2, 3, 4, 5, 6, 7, 8, 9, 10, 11] [12, 13, 14, 15, 16] [0, 1, 2] rfl rfl (k0 := 17) rfl (by decide) rfl 0 rfl rfl rfl hl.1 (Nat.le_of_ble_eq_true rfl) ⟨(show cells + 0 ≤ room_1.cells by omega), (show slots + 0 ≤ room_1.slots by omega)⟩ rfl dL_law_1863 (fun r_1863 u_1863 H locs e_1863 hw => ?_)
  obtain ⟨⟩ := u_1863
  have hw : Wd D A [(cI, .int), (cR, .object RX1), (cC, .char), (cJ, .long), (cD, .double)] (([(x9, .inr (3, [.ref (q 0), .ref (h9 0), .ref (t9 0)]))] : va_W) ++ wS cI q st ++ wR cR h9 (fr7 ad n8) ol n7 ++ wT cC t9 tx ln po ki rp tg nu ++ ([(o9, .inl (cJ, 1, .inr (.inl fo)))] : va_W) ++ ([(p9, .inl (cD, 1, .inr (.inr (.inr (.inl fd)))))] : va_W) ++ wM cI m9 sa tx th n7 ln po2 lt fi sc nu2 ad2 rv ++ wP cI ad sv n8) s s.heap H locs := hw
  have e_1863 : r_1863 = nI ln := e_1863
  subst e_1863
  refine lv_aload_n hx hb dL_law_1866 rfl (lv_at hl 2 rfl) ?_
  refine cp_Vi (As := []) (rest := [.int (nI ln)]) (wc := wM cI m9 sa tx th n7 ln po2 lt fi sc nu2 ad2 rv) (wr := ([(x9, .inr (3, [.ref (q 0), .ref (h9 0), .ref (t9 0)]))] : va_W) ++ wS cI q st ++ wR cR h9 (fr7 ad n8) ol n7 ++ wT cC t9 tx ln po ki rp tg nu ++ ([(o9, .inl (cJ, 1, .inr (.inl fo)))] : va_W) ++ ([(p9, .inl (cD, 1, .inr (.inr (.inr (.inl fd)))))] : va_W)) S (c_X4_textLength l D (sz := H.size) (cI := cI) (m9 := m9) (sa := sa) (tx := tx) (th := th) (sv := n7) (ln := ln) (po := po2) (lt := lt) (fi := fi) (sc := sc) (nu := nu2) (ad := ad2) (rv := rv)) (cwV 0 hts gL_law_X4_textLength rfl rfl rfl (by decide +kernel) ⟨Nat.le_of_ble_eq_true rfl, Nat.le_of_ble_eq_true rfl⟩) hw hA [14, 15, 16] [0, 1, 2, 3, 4, 5, 6, 7, 8, 9, 10, 11, 12, 13] [0] rfl rfl (k0 := 17) rfl (by decide) rfl 0 rfl rfl rfl hl.1 (Nat.le_of_ble_eq_true rfl) ⟨(show cells + 0 ≤ room_1.cells by omega), (show slots + 0 ≤ room_1.slots by omega)⟩ rfl dL_law_1867 (fun r_1867 u_1867 H locs e_1867 hw => ?_)
  have hw : Wd D A [(cI, .int), (cR, .object RX1), (cC, .char), (cJ, .long), (cD, .double)] (wM cI m9 sa tx (nI 0) n7 ln po2 lt fi sc nu2 ad2 rv ++ ([(x9, .inr (3, [.ref (q 0), .ref (h9 0), .ref (t9 0)]))] : va_W) ++ wS cI q st ++ wR cR h9 (fr7 ad n8) ol n7 ++ wT cC t9 tx ln po ki rp tg nu ++ ([(o9, .inl (cJ, 1, .inr (.inl fo)))] : va_W) ++ ([(p9, .inl (cD, 1, .inr (.inr (.inr (.inl fd)))))] : va_W) ++ wP cI ad sv n8) s s.heap H locs := hw
  have e_1867 : r_1867 = nI ln := e_1867
  subst e_1867
  refine lv_icmp_eq (tgt := 1875) hx hb dL_law_1870 (by decide) (fun _ => ?_) (fun h => absurd (rfl) h)
  have hw : Wd D A [(cI, .int), (cR, .object RX1), (cC, .char), (cJ, .long), (cD, .double)] (([(x9, .inr (3, [.ref (q 0), .ref (h9 0), .ref (t9 0)]))] : va_W) ++ wS cI q st ++ wR cR h9 (fr7 ad n8) ol n7 ++ wT cC t9 tx ln po ki rp tg nu ++ ([(o9, .inl (cJ, 1, .inr (.inl fo)))] : va_W) ++ ([(p9, .inl (cD, 1, .inr (.inr (.inr (.inl fd)))))] : va_W) ++ wM cI m9 sa tx (nI 0) n7 ln po2 lt fi sc nu2 ad2 rv ++ wP cI ad sv n8) s s.heap H locs := hw.ord [3, 4, 5, 6, 7, 8, 9, 10, 11, 12, 13, 14, 15, 16, 0, 1, 2] (k0 := 17) rfl rfl (by decide)
  refine W.widen (k := cells + 7) (n := slots + 5790) (by omega) (by omega) ?_
  exact kk H locs ls ⟨st, ad, sv, ol, n7, n8, tx, ln, po, ki, rp, tg, nu, fo, fd, sa, nI 0, po2, lt, fi, sc, nu2, ad2, rv, hw, LV_m hLV (by omega)⟩ hl
set_option maxHeartbeats 4000000 in
set_option maxRecDepth 100000 in
theorem law_put_e1 {p : Program} {l : Launch} {e : Env} {s : State} {m : MethodId} {args : Array Value} {below : List Frame} {meth : Method} {c : Code} {Q : State → Prop} {D : va_G} {A : Nat → Prop} {b L : Nat} {xs : Nat → Int32} {cells slots : Nat} {cI cR cC cJ cD : ClassId} {x9 : Nat} {q h9 t9 : Nat → Nat} {o9 p9 : Nat} {m9 : Nat → Nat} {B k : Nat} (F : LF p l s m c args A b L xs) (hk5 : 5 * k + 5 ≤ L) (hB : B + 100 < 2 ^ 31) (hR : cells + 7 ≤ room_1.cells ∧ slots + 5790 ≤ room_1.slots) {st : St} {ad : Nat → Nat → Nat} {sv : Nat → St} {ol n7 n8 : Nat} {tx : Nat → Nat} {ln po : Nat} {ki rp tg nu : Int32} {fo : Nat → Int64} {fd : Nat → UInt64} {sa : Nat → Int32} {th : Int32} {po2 : Nat} {lt fi sc nu2 : Int32} {ad2 rv : Nat} {H : Heap} {locs : List Loc} (hw : Wd D A [(cI, .int), (cR, .object RX1), (cC, .char), (cJ, .long), (cD, .double)] ([(x9, .inr (3, [.ref (q 0), .ref (h9 0), .ref (t9 0)]))] ++ wS cI q st ++ wR cR h9 (fr7 ad n8) ol n7 ++ wT cC t9 tx ln po ki rp tg nu ++ [(o9, .inl (cJ, 1, .inr (.inl fo)))] ++ [(p9, .inl (cD, 1, .inr (.inr (.inr (.inl fd)))))] ++ wM cI m9 sa tx th n7 ln po2 lt fi sc nu2 ad2 rv ++ wP cI ad sv n8) s s.heap H locs) (hLV : LV st sv ol n7 n8 tx ln po sa po2 B) {ls : Array Slot} (hl : lv_has ls 10 [(0, .ref b), (1, .ref x9), (2, .ref (m9 0)), (3, .ref o9), (4, .ref p9), (5, .int (nI (5 * k)))]) {p0 p1 p2 p3 : Int32} (hv : ¬ ((inP p0 (nI 0) (nI 3) ∧ inP p1 (nI 0) (nI 5)) ∧ inP p2 (nI 0) (nI 2))) (h1 : xs (5 * k + 1) = p0) (h2 : xs (5 * k + 2) = p1) (h3 : xs (5 * k + 3) = p2) (h4 : xs (5 * k + 4) = p3) (kk : ∀ (H : Heap) (locs : List Loc) (ls : Array Slot), LW D A s cI cR cC cJ cD x9 q h9 t9 o9 p9 m9 (B + 41) H locs → lv_has ls 10 [(0, .ref b), (1, .ref x9), (2, .ref (m9 0)), (3, .ref o9), (4, .ref p9), (5, .int (nI (5 * k)))] → W p l e room_1 s m args below meth c H locs (cells + 7) (slots + 5790) Q (F0 m 1875 ls [])) : W p l e room_1 s m args below meth c H locs cells slots Q (F0 m 176 ls []) := by
  obtain ⟨S, hz, hxe, hzq, hl9, hA, hX, hbl, hbA, hL⟩ := id F
  obtain ⟨hh, hRl, hHs, htx, hln, hpo, hpo2⟩ := id hLV
  have h6 : n7 ≤ 6 := Nat.le_trans hh.2.1 hh.2.2.1
  obtain ⟨hx, hb, hml, hown, hts⟩ := id S
  refine lv_aload_n hx hb dL_law_176 rfl (lv_at hl 1 rfl) ?_
  refine lv_aload_n hx hb dL_law_177 rfl (lv_at hl 0 rfl) ?_
  refine lv_iload hx hb dL_law_178 (lv_at hl 5 rfl) ?_
  refine lv_iconst (v := nI 1) hx hb dL_law_180 kc_iconst_1 ?_
  refine r_addN hx hb dL_law_181 ?_
  refine r_sld hx hb hX hbl hbA hL hw (i := (5 * k) + 1) (by omega) (v := p0) h1 dL_law_182 ?_
  refine lv_aload_n hx hb dL_law_183 rfl (lv_at hl 0 rfl) ?_
  refine lv_iload hx hb dL_law_184 (lv_at hl 5 rfl) ?_
  refine lv_iconst (v := nI 2) hx hb dL_law_186 kc_iconst_2 ?_
  refine r_addN hx hb dL_law_187 ?_
  refine r_sld hx hb hX hbl hbA hL hw (i := (5 * k) + 2) (by omega) (v := p1) h2 dL_law_188 ?_
  refine lv_aload_n hx hb dL_law_189 rfl (lv_at hl 0 rfl) ?_
  refine lv_iload hx hb dL_law_190 (lv_at hl 5 rfl) ?_
  refine lv_iconst (v := nI 3) hx hb dL_law_192 kc_iconst_3 ?_
  refine r_addN hx hb dL_law_193 ?_
  refine r_sld hx hb hX hbl hbA hL hw (i := (5 * k) + 3) (by omega) (v := p2) h3 dL_law_194 ?_
  refine lv_aload_n hx hb dL_law_195 rfl (lv_at hl 0 rfl) ?_
  refine lv_iload hx hb dL_law_196 (lv_at hl 5 rfl) ?_
  refine lv_iconst (v := nI 4) hx hb dL_law_198 kc_iconst_4 ?_
  refine r_addN hx hb dL_law_199 ?_
  refine r_sld hx hb hX hbl hbA hL hw (i := (5 * k) + 4) (by omega) (v := p3) h4 dL_law_200 ?_
  refine lv_aload_n hx hb dL_law_201 rfl (lv_at hl 3 rfl) ?_
  refine cpz_S (w1 := fun (u9 : Unit) => ([(x9, .inr (3, [.ref (q 0), .ref (h9 0), .ref (t9 0)]))] : va_W) ++ wS cI q st ++ wR cR h9 (fr7 ad n8) ol n7 ++ wT cC t9 tx ln po ki rp tg nu ++ ([(o9, .inl (cJ, 1, .inr (.inl fo)))] : va_W)) (pl := fun (u9 : Unit) => wP cI ad sv n8) (As := [.ref x9, .int p0, .int p1, .int p2, .int p3, .ref o9]) (rest := []) (wc := ([(x9, .inr (3, [.ref (q 0), .ref (h9 0), .ref (t9 0)]))] : va_W) ++ wS cI q st ++ wR cR h9 (fr7 ad n8) ol n7 ++ wT cC t9 tx ln po ki rp tg nu ++ ([(o9, .inl (cJ, 1, .inr (.inl fo)))] : va_W)) (wr := ([(p9, .inl (cD, 1, .inr (.inr (.inr (.inl fd)))))] : va_W) ++ wM cI m9 sa tx th n7 ln po2 lt fi sc nu2 ad2 rv) S hz hxe hzq (c_L_put_e1 l D (hl9 := hl9) (sz := H.size) (cI := cI) (cR := cR) (cC := cC) (x9 := x9) (q := q) (st := st) (h9 := h9) (ad := ad) (sv := sv) (ol := ol) (n7 := n7) (n8 := n8) (t9 := t9) (tx := tx) (ln := ln) (po := po) (ki := ki) (rp := rp) (tg := tg) (nu := nu) (cJ := cJ) (o9 := o9) (fo := fo) (p0 := p0) (p1 := p1) (p2 := p2) (p3 := p3) (hh := hh) (hv := hv)) (vx_cwSW 6 hts gL_law_L_put rfl rfl rfl (by decide +kernel) ⟨Nat.le_of_ble_eq_true rfl, Nat.le_of_ble_eq_true rfl⟩) hw hA [0, 1, 2, 3, 4, 5, 6, 7, 8, 9, 10, 11, 12] [13, 14, 15, 16] [0, 1, 2, 3] rfl rfl (k0 := 17) rfl (by decide) rfl rfl hl.1 (Nat.le_of_ble_eq_true rfl) ⟨(show cells + 1 ≤ room_1.cells by omega), (show slots + 6 ≤ room_1.slots by omega)⟩ rfl dL_law_202 (fun r_202 u_202 H locs e_202 hw => ?_)
  have hw : Wd D A [(cI, .int), (cR, .object RX1), (cC, .char), (cJ, .long), (cD, .double)] (([(x9, .inr (3, [.ref (q 0), .ref (h9 0), .ref (t9 0)]))] : va_W) ++ wS cI q st ++ wR cR h9 (fr7 ad n8) ol n7 ++ wT cC t9 tx ln po ki rp tg nu ++ ([(o9, .inl (cJ, 1, .inr (.inl fo)))] : va_W) ++ ([(p9, .inl (cD, 1, .inr (.inr (.inr (.inl fd)))))] : va_W) ++ wM cI m9 sa tx th n7 ln po2 lt fi sc nu2 ad2 rv ++ wP cI ad sv n8) s s.heap H locs := hw
  have e_202 : r_202 = nI 1 := e_202
  subst e_202
  refine lv_istore (lv' := [(6, .int (nI 1)), (0, .ref b), (1, .ref x9), (2, .ref (m9 0)), (3, .ref o9), (4, .ref p9), (5, .int (nI (5 * k)))]) hx hb dL_law_205 hl (by decide) rfl (fun ls hl => ?_)
  refine lv_aload_n hx hb dL_law_207 rfl (lv_at hl 3 rfl) ?_
  refine lv_aload_n hx hb dL_law_208 rfl (lv_at hl 1 rfl) ?_
  refine lv_iload hx hb dL_law_209 (lv_at hl 6 rfl) ?_
  refine lv_iconst (v := nI 1) hx hb dL_law_211 kc_iconst_1 ?_
  refine r_addN hx hb dL_law_212 ?_
  refine r_sld hx hb hX hbl hbA hL hw (i := (5 * k) + 1) (by omega) (v := p0) h1 dL_law_213 ?_
  refine lv_aload_n hx hb dL_law_214 rfl (lv_at hl 1 rfl) ?_
  refine lv_iload hx hb dL_law_215 (lv_at hl 6 rfl) ?_
  refine lv_iconst (v := nI 2) hx hb dL_law_217 kc_iconst_2 ?_
  refine r_addN hx hb dL_law_218 ?_
  refine r_sld hx hb hX hbl hbA hL hw (i := (5 * k) + 2) (by omega) (v := p1) h2 dL_law_219 ?_
  refine lv_aload_n hx hb dL_law_220 rfl (lv_at hl 1 rfl) ?_
  refine lv_iload hx hb dL_law_221 (lv_at hl 6 rfl) ?_
  refine lv_iconst (v := nI 3) hx hb dL_law_223 kc_iconst_3 ?_
  refine r_addN hx hb dL_law_224 ?_
  refine r_sld hx hb hX hbl hbA hL hw (i := (5 * k) + 3) (by omega) (v := p2) h3 dL_law_225 ?_
  refine lv_aload_n hx hb dL_law_226 rfl (lv_at hl 1 rfl) ?_
  refine lv_iload hx hb dL_law_227 (lv_at hl 6 rfl) ?_
  refine lv_iconst (v := nI 4) hx hb dL_law_229 kc_iconst_4 ?_
  refine r_addN hx hb dL_law_230 ?_
  refine r_sld hx hb hX hbl hbA hL hw (i := (5 * k) + 4) (by omega) (v := p3) h4 dL_law_231 ?_
  refine cp_Vi (As := [.int p0, .int p1, .int p2, .int p3]) (rest := []) (wc := wM cI m9 sa tx th n7 ln po2 lt fi sc nu2 ad2 rv) (wr := ([(x9, .inr (3, [.ref (q 0), .ref (h9 0), .ref (t9 0)]))] : va_W) ++ wS cI q st ++ wR cR h9 (fr7 ad n8) ol n7 ++ wT cC t9 tx ln po ki rp tg nu ++ ([(o9, .inl (cJ, 1, .inr (.inl fo)))] : va_W) ++ ([(p9, .inl (cD, 1, .inr (.inr (.inr (.inl fd)))))] : va_W)) S (c_X4_put_e1 l D (sz := H.size) (cI := cI) (m9 := m9) (sa := sa) (tx := tx) (th := th) (sv := n7) (ln := ln) (po := po2) (lt := lt) (fi := fi) (sc := sc) (nu := nu2) (ad := ad2) (rv := rv) (p0 := p0) (p1 := p1) (p2 := p2) (p3 := p3) (hv := hv)) (cwV 4 hts gL_law_X4_put rfl rfl rfl (by decide +kernel) ⟨Nat.le_of_ble_eq_true rfl, Nat.le_of_ble_eq_true rfl⟩) hw hA [14, 15, 16] [0, 1, 2, 3, 4, 5, 6, 7, 8, 9, 10, 11, 12, 13] [0] rfl rfl (k0 := 17) rfl (by decide) rfl 0 rfl rfl rfl hl.1 (Nat.le_of_ble_eq_true rfl) ⟨(show (cells + 1) + 0 ≤ room_1.cells by omega), (show (slots + 6) + 0 ≤ room_1.slots by omega)⟩ rfl dL_law_232 (fun r_232 u_232 H locs e_232 hw => ?_)
  have hw : Wd D A [(cI, .int), (cR, .object RX1), (cC, .char), (cJ, .long), (cD, .double)] (wM cI m9 sa tx (nI 1) n7 ln po2 lt fi sc nu2 ad2 rv ++ ([(x9, .inr (3, [.ref (q 0), .ref (h9 0), .ref (t9 0)]))] : va_W) ++ wS cI q st ++ wR cR h9 (fr7 ad n8) ol n7 ++ wT cC t9 tx ln po ki rp tg nu ++ ([(o9, .inl (cJ, 1, .inr (.inl fo)))] : va_W) ++ ([(p9, .inl (cD, 1, .inr (.inr (.inr (.inl fd)))))] : va_W) ++ wP cI ad sv n8) s s.heap H locs := hw
  have e_232 : r_232 = nI 0 := e_232
  subst e_232
  refine lv_istore (lv' := [(7, .int (nI 0)), (6, .int (nI 1)), (0, .ref b), (1, .ref x9), (2, .ref (m9 0)), (3, .ref o9), (4, .ref p9), (5, .int (nI (5 * k)))]) hx hb dL_law_235 hl (by decide) rfl (fun ls hl => ?_)
  refine lv_aload_n hx hb dL_law_237 rfl (lv_at hl 4 rfl) ?_
  refine cq_V (As := []) (rest := []) S (c_X4_thrown l D (cI := cI) (m9 := m9) (sa := sa) (tx := tx) (th := nI 1) (sv := n7) (ln := ln) (po := po2) (lt := lt) (fi := fi) (sc := sc) (nu := nu2) (ad := ad2) (rv := rv)) (cwV 0 hts gL_law_X4_thrown rfl rfl rfl (by decide +kernel) ⟨Nat.le_of_ble_eq_true rfl, Nat.le_of_ble_eq_true rfl⟩) (hw.q.sub [0, 1, 2] [0] rfl rfl) 0 rfl rfl rfl hl.1 (Nat.le_of_ble_eq_true rfl) ⟨(show (cells + 1) ≤ room_1.cells by omega), (show (slots + 6) ≤ room_1.slots by omega)⟩ rfl dL_law_238 (fun r_238 e_238 => ?_)
  have e_238 : r_238 = (nI 1) := e_238
  subst e_238
  refine lv_iload hx hb dL_law_241 (lv_at hl 1 rfl) ?_
  refine r_icmp_eqN (tgt := 248) hx hb (by decide) (by decide) dL_law_243 (by decide) (fun _ => ?_) (fun h => absurd h (by decide))
  refine lv_iload hx hb dL_law_248 (lv_at hl 1 rfl) ?_
  refine lv_if_ne (tgt := 265) hx hb dL_law_250 (by decide) (fun _ => ?_) (fun h => absurd h (by decide))
  refine lv_goto (tgt := 1875) hx hb dL_law_265 (by decide) ?_
  have hw : Wd D A [(cI, .int), (cR, .object RX1), (cC, .char), (cJ, .long), (cD, .double)] (([(x9, .inr (3, [.ref (q 0), .ref (h9 0), .ref (t9 0)]))] : va_W) ++ wS cI q st ++ wR cR h9 (fr7 ad n8) ol n7 ++ wT cC t9 tx ln po ki rp tg nu ++ ([(o9, .inl (cJ, 1, .inr (.inl fo)))] : va_W) ++ ([(p9, .inl (cD, 1, .inr (.inr (.inr (.inl fd)))))] : va_W) ++ wM cI m9 sa tx (nI 1) n7 ln po2 lt fi sc nu2 ad2 rv ++ wP cI ad sv n8) s s.heap H locs := hw.ord [3, 4, 5, 6, 7, 8, 9, 10, 11, 12, 13, 14, 15, 16, 0, 1, 2] (k0 := 17) rfl rfl (by decide)
  have hl : lv_has ls 10 [(0, .ref b), (1, .ref x9), (2, .ref (m9 0)), (3, .ref o9), (4, .ref p9), (5, .int (nI (5 * k)))] := lv_sub hl [2, 3, 4, 5, 6, 7] rfl
  refine W.widen (k := cells + 7) (n := slots + 5790) (by omega) (by omega) ?_
  exact kk H locs ls ⟨st, ad, sv, ol, n7, n8, tx, ln, po, ki, rp, tg, nu, fo, fd, sa, nI 1, po2, lt, fi, sc, nu2, ad2, rv, hw, LV_m hLV (by omega)⟩ hl
set_option maxHeartbeats 4000000 in
set_option maxRecDepth 100000 in
theorem law_add_e1 {p : Program} {l : Launch} {e : Env} {s : State} {m : MethodId} {args : Array Value} {below : List Frame} {meth : Method} {c : Code} {Q : State → Prop} {D : va_G} {A : Nat → Prop} {b L : Nat} {xs : Nat → Int32} {cells slots : Nat} {cI cR cC cJ cD : ClassId} {x9 : Nat} {q h9 t9 : Nat → Nat} {o9 p9 : Nat} {m9 : Nat → Nat} {B k : Nat} (F : LF p l s m c args A b L xs) (hk5 : 5 * k + 5 ≤ L) (hB : B + 100 < 2 ^ 31) (hR : cells + 7 ≤ room_1.cells ∧ slots + 5790 ≤ room_1.slots) {st : St} {ad : Nat → Nat → Nat} {sv : Nat → St} {ol n7 n8 : Nat} {tx : Nat → Nat} {ln po : Nat} {ki rp tg nu : Int32} {fo : Nat → Int64} {fd : Nat → UInt64} {sa : Nat → Int32} {th : Int32} {po2 : Nat} {lt fi sc nu2 : Int32} {ad2 rv : Nat} {H : Heap} {locs : List Loc} (hw : Wd D A [(cI, .int), (cR, .object RX1), (cC, .char), (cJ, .long), (cD, .double)] ([(x9, .inr (3, [.ref (q 0), .ref (h9 0), .ref (t9 0)]))] ++ wS cI q st ++ wR cR h9 (fr7 ad n8) ol n7 ++ wT cC t9 tx ln po ki rp tg nu ++ [(o9, .inl (cJ, 1, .inr (.inl fo)))] ++ [(p9, .inl (cD, 1, .inr (.inr (.inr (.inl fd)))))] ++ wM cI m9 sa tx th n7 ln po2 lt fi sc nu2 ad2 rv ++ wP cI ad sv n8) s s.heap H locs) (hLV : LV st sv ol n7 n8 tx ln po sa po2 B) {ls : Array Slot} (hl : lv_has ls 10 [(0, .ref b), (1, .ref x9), (2, .ref (m9 0)), (3, .ref o9), (4, .ref p9), (5, .int (nI (5 * k)))]) {p0 p1 p2 : Int32} (hv : ¬ (inP p0 (nI 0) (nI 3) ∧ inP p1 (nI 0) (nI 5))) (h1 : xs (5 * k + 1) = p0) (h2 : xs (5 * k + 2) = p1) (h3 : xs (5 * k + 3) = p2) (kk : ∀ (H : Heap) (locs : List Loc) (ls : Array Slot), LW D A s cI cR cC cJ cD x9 q h9 t9 o9 p9 m9 (B + 41) H locs → lv_has ls 10 [(0, .ref b), (1, .ref x9), (2, .ref (m9 0)), (3, .ref o9), (4, .ref p9), (5, .int (nI (5 * k)))] → W p l e room_1 s m args below meth c H locs (cells + 7) (slots + 5790) Q (F0 m 1875 ls [])) : W p l e room_1 s m args below meth c H locs cells slots Q (F0 m 268 ls []) := by
  obtain ⟨S, hz, hxe, hzq, hl9, hA, hX, hbl, hbA, hL⟩ := id F
  obtain ⟨hh, hRl, hHs, htx, hln, hpo, hpo2⟩ := id hLV
  have h6 : n7 ≤ 6 := Nat.le_trans hh.2.1 hh.2.2.1
  obtain ⟨hx, hb, hml, hown, hts⟩ := id S
  refine lv_aload_n hx hb dL_law_268 rfl (lv_at hl 1 rfl) ?_
  refine lv_aload_n hx hb dL_law_269 rfl (lv_at hl 0 rfl) ?_
  refine lv_iload hx hb dL_law_270 (lv_at hl 5 rfl) ?_
  refine lv_iconst (v := nI 1) hx hb dL_law_272 kc_iconst_1 ?_
  refine r_addN hx hb dL_law_273 ?_
  refine r_sld hx hb hX hbl hbA hL hw (i := (5 * k) + 1) (by omega) (v := p0) h1 dL_law_274 ?_
  refine lv_aload_n hx hb dL_law_275 rfl (lv_at hl 0 rfl) ?_
  refine lv_iload hx hb dL_law_276 (lv_at hl 5 rfl) ?_
  refine lv_iconst (v := nI 2) hx hb dL_law_278 kc_iconst_2 ?_
  refine r_addN hx hb dL_law_279 ?_
  refine r_sld hx hb hX hbl hbA hL hw (i := (5 * k) + 2) (by omega) (v := p1) h2 dL_law_280 ?_
  refine lv_aload_n hx hb dL_law_281 rfl (lv_at hl 0 rfl) ?_
  refine lv_iload hx hb dL_law_282 (lv_at hl 5 rfl) ?_
  refine lv_iconst (v := nI 3) hx hb dL_law_284 kc_iconst_3 ?_
  refine r_addN hx hb dL_law_285 ?_
  refine r_sld hx hb hX hbl hbA hL hw (i := (5 * k) + 3) (by omega) (v := p2) h3 dL_law_286 ?_
  refine lv_aload_n hx hb dL_law_287 rfl (lv_at hl 3 rfl) ?_
  refine cpz_S (w1 := fun (u9 : Unit) => ([(x9, .inr (3, [.ref (q 0), .ref (h9 0), .ref (t9 0)]))] : va_W) ++ wS cI q st ++ wR cR h9 (fr7 ad n8) ol n7 ++ wT cC t9 tx ln po ki rp tg nu ++ ([(o9, .inl (cJ, 1, .inr (.inl fo)))] : va_W)) (pl := fun (u9 : Unit) => wP cI ad sv n8) (As := [.ref x9, .int p0, .int p1, .int p2, .ref o9]) (rest := []) (wc := ([(x9, .inr (3, [.ref (q 0), .ref (h9 0), .ref (t9 0)]))] : va_W) ++ wS cI q st ++ wR cR h9 (fr7 ad n8) ol n7 ++ wT cC t9 tx ln po ki rp tg nu ++ ([(o9, .inl (cJ, 1, .inr (.inl fo)))] : va_W)) (wr := ([(p9, .inl (cD, 1, .inr (.inr (.inr (.inl fd)))))] : va_W) ++ wM cI m9 sa tx th n7 ln po2 lt fi sc nu2 ad2 rv) S hz hxe hzq (c_L_add_e1 l D (hl9 := hl9) (sz := H.size) (cI := cI) (cR := cR) (cC := cC) (x9 := x9) (q := q) (st := st) (h9 := h9) (ad := ad) (sv := sv) (ol := ol) (n7 := n7) (n8 := n8) (t9 := t9) (tx := tx) (ln := ln) (po := po) (ki := ki) (rp := rp) (tg := tg) (nu := nu) (cJ := cJ) (o9 := o9) (fo := fo) (p0 := p0) (p1 := p1) (p2 := p2) (hh := hh) (hv := hv)) (vx_cwSW 5 hts gL_law_L_add rfl rfl rfl (by decide +kernel) ⟨Nat.le_of_ble_eq_true rfl, Nat.le_of_ble_eq_true rfl⟩) hw hA [0, 1, 2, 3, 4, 5, 6, 7, 8, 9, 10, 11, 12] [13, 14, 15, 16] [0, 1, 2, 3] rfl rfl (k0 := 17) rfl (by decide) rfl rfl hl.1 (Nat.le_of_ble_eq_true rfl) ⟨(show cells + 1 ≤ room_1.cells by omega), (show slots + 6 ≤ room_1.slots by omega)⟩ rfl dL_law_288 (fun r_288 u_288 H locs e_288 hw => ?_)
  have hw : Wd D A [(cI, .int), (cR, .object RX1), (cC, .char), (cJ, .long), (cD, .double)] (([(x9, .inr (3, [.ref (q 0), .ref (h9 0), .ref (t9 0)]))] : va_W) ++ wS cI q st ++ wR cR h9 (fr7 ad n8) ol n7 ++ wT cC t9 tx ln po ki rp tg nu ++ ([(o9, .inl (cJ, 1, .inr (.inl fo)))] : va_W) ++ ([(p9, .inl (cD, 1, .inr (.inr (.inr (.inl fd)))))] : va_W) ++ wM cI m9 sa tx th n7 ln po2 lt fi sc nu2 ad2 rv ++ wP cI ad sv n8) s s.heap H locs := hw
  have e_288 : r_288 = nI 1 := e_288
  subst e_288
  refine lv_istore (lv' := [(6, .int (nI 1)), (0, .ref b), (1, .ref x9), (2, .ref (m9 0)), (3, .ref o9), (4, .ref p9), (5, .int (nI (5 * k)))]) hx hb dL_law_291 hl (by decide) rfl (fun ls hl => ?_)
  refine lv_aload_n hx hb dL_law_293 rfl (lv_at hl 3 rfl) ?_
  refine lv_aload_n hx hb dL_law_294 rfl (lv_at hl 1 rfl) ?_
  refine lv_iload hx hb dL_law_295 (lv_at hl 6 rfl) ?_
  refine lv_iconst (v := nI 1) hx hb dL_law_297 kc_iconst_1 ?_
  refine r_addN hx hb dL_law_298 ?_
  refine r_sld hx hb hX hbl hbA hL hw (i := (5 * k) + 1) (by omega) (v := p0) h1 dL_law_299 ?_
  refine lv_aload_n hx hb dL_law_300 rfl (lv_at hl 1 rfl) ?_
  refine lv_iload hx hb dL_law_301 (lv_at hl 6 rfl) ?_
  refine lv_iconst (v := nI 2) hx hb dL_law_303 kc_iconst_2 ?_
  refine r_addN hx hb dL_law_304 ?_
  refine r_sld hx hb hX hbl hbA hL hw (i := (5 * k) + 2) (by omega) (v := p1) h2 dL_law_305 ?_
  refine lv_aload_n hx hb dL_law_306 rfl (lv_at hl 1 rfl) ?_
  refine lv_iload hx hb dL_law_307 (lv_at hl 6 rfl) ?_
  refine lv_iconst (v := nI 3) hx hb dL_law_309 kc_iconst_3 ?_
  refine r_addN hx hb dL_law_310 ?_
  refine r_sld hx hb hX hbl hbA hL hw (i := (5 * k) + 3) (by omega) (v := p2) h3 dL_law_311 ?_
  refine cp_Vi (As := [.int p0, .int p1, .int p2]) (rest := []) (wc := wM cI m9 sa tx th n7 ln po2 lt fi sc nu2 ad2 rv) (wr := ([(x9, .inr (3, [.ref (q 0), .ref (h9 0), .ref (t9 0)]))] : va_W) ++ wS cI q st ++ wR cR h9 (fr7 ad n8) ol n7 ++ wT cC t9 tx ln po ki rp tg nu ++ ([(o9, .inl (cJ, 1, .inr (.inl fo)))] : va_W) ++ ([(p9, .inl (cD, 1, .inr (.inr (.inr (.inl fd)))))] : va_W)) S (c_X4_add_e1 l D (sz := H.size) (cI := cI) (m9 := m9) (sa := sa) (tx := tx) (th := th) (sv := n7) (ln := ln) (po := po2) (lt := lt) (fi := fi) (sc := sc) (nu := nu2) (ad := ad2) (rv := rv) (p0 := p0) (p1 := p1) (p2 := p2) (hv := hv)) (cwV 3 hts gL_law_X4_add rfl rfl rfl (by decide +kernel) ⟨Nat.le_of_ble_eq_true rfl, Nat.le_of_ble_eq_true rfl⟩) hw hA [14, 15, 16] [0, 1, 2, 3, 4, 5, 6, 7, 8, 9, 10, 11, 12, 13] [0] rfl rfl (k0 := 17) rfl (by decide) rfl 0 rfl rfl rfl hl.1 (Nat.le_of_ble_eq_true rfl) ⟨(show (cells + 1) + 0 ≤ room_1.cells by omega), (show (slots + 6) + 0 ≤ room_1.slots by omega)⟩ rfl dL_law_312 (fun r_312 u_312 H locs e_312 hw => ?_)
  have hw : Wd D A [(cI, .int), (cR, .object RX1), (cC, .char), (cJ, .long), (cD, .double)] (wM cI m9 sa tx (nI 1) n7 ln po2 lt fi sc nu2 ad2 rv ++ ([(x9, .inr (3, [.ref (q 0), .ref (h9 0), .ref (t9 0)]))] : va_W) ++ wS cI q st ++ wR cR h9 (fr7 ad n8) ol n7 ++ wT cC t9 tx ln po ki rp tg nu ++ ([(o9, .inl (cJ, 1, .inr (.inl fo)))] : va_W) ++ ([(p9, .inl (cD, 1, .inr (.inr (.inr (.inl fd)))))] : va_W) ++ wP cI ad sv n8) s s.heap H locs := hw
  have e_312 : r_312 = nI 0 := e_312
  subst e_312
  refine lv_istore (lv' := [(7, .int (nI 0)), (6, .int (nI 1)), (0, .ref b), (1, .ref x9), (2, .ref (m9 0)), (3, .ref o9), (4, .ref p9), (5, .int (nI (5 * k)))]) hx hb dL_law_315 hl (by decide) rfl (fun ls hl => ?_)
  refine lv_aload_n hx hb dL_law_317 rfl (lv_at hl 4 rfl) ?_
  refine cq_V (As := []) (rest := []) S (c_X4_thrown l D (cI := cI) (m9 := m9) (sa := sa) (tx := tx) (th := nI 1) (sv := n7) (ln := ln) (po := po2) (lt := lt) (fi := fi) (sc := sc) (nu := nu2) (ad := ad2) (rv := rv)) (cwV 0 hts gL_law_X4_thrown rfl rfl rfl (by decide +kernel) ⟨Nat.le_of_ble_eq_true rfl, Nat.le_of_ble_eq_true rfl⟩) (hw.q.sub [0, 1, 2] [0] rfl rfl) 0 rfl rfl rfl hl.1 (Nat.le_of_ble_eq_true rfl) ⟨(show (cells + 1) ≤ room_1.cells by omega), (show (slots + 6) ≤ room_1.slots by omega)⟩ rfl dL_law_318 (fun r_318 e_318 => ?_)
  have e_318 : r_318 = (nI 1) := e_318
  subst e_318
  refine lv_iload hx hb dL_law_321 (lv_at hl 1 rfl) ?_
  refine r_icmp_eqN (tgt := 328) hx hb (by decide) (by decide) dL_law_323 (by decide) (fun _ => ?_) (fun h => absurd h (by decide))
  refine lv_iload hx hb dL_law_328 (lv_at hl 1 rfl) ?_
  refine lv_if_ne (tgt := 345) hx hb dL_law_330 (by decide) (fun _ => ?_) (fun h => absurd h (by decide))
  refine lv_goto (tgt := 1875) hx hb dL_law_345 (by decide) ?_
  have hw : Wd D A [(cI, .int), (cR, .object RX1), (cC, .char), (cJ, .long), (cD, .double)] (([(x9, .inr (3, [.ref (q 0), .ref (h9 0), .ref (t9 0)]))] : va_W) ++ wS cI q st ++ wR cR h9 (fr7 ad n8) ol n7 ++ wT cC t9 tx ln po ki rp tg nu ++ ([(o9, .inl (cJ, 1, .inr (.inl fo)))] : va_W) ++ ([(p9, .inl (cD, 1, .inr (.inr (.inr (.inl fd)))))] : va_W) ++ wM cI m9 sa tx (nI 1) n7 ln po2 lt fi sc nu2 ad2 rv ++ wP cI ad sv n8) s s.heap H locs := hw.ord [3, 4, 5, 6, 7, 8, 9, 10, 11, 12, 13, 14, 15, 16, 0, 1, 2] (k0 := 17) rfl rfl (by decide)
  have hl : lv_has ls 10 [(0, .ref b), (1, .ref x9), (2, .ref (m9 0)), (3, .ref o9), (4, .ref p9), (5, .int (nI (5 * k)))] := lv_sub hl [2, 3, 4, 5, 6, 7] rfl
  refine W.widen (k := cells + 7) (n := slots + 5790) (by omega) (by omega) ?_
  exact kk H locs ls ⟨st, ad, sv, ol, n7, n8, tx, ln, po, ki, rp, tg, nu, fo, fd, sa, nI 1, po2, lt, fi, sc, nu2, ad2, rv, hw, LV_m hLV (by omega)⟩ hl
set_option maxHeartbeats 4000000 in
set_option maxRecDepth 100000 in
theorem law_include_e1 {p : Program} {l : Launch} {e : Env} {s : State} {m : MethodId} {args : Array Value} {below : List Frame} {meth : Method} {c : Code} {Q : State → Prop} {D : va_G} {A : Nat → Prop} {b L : Nat} {xs : Nat → Int32} {cells slots : Nat} {cI cR cC cJ cD : ClassId} {x9 : Nat} {q h9 t9 : Nat → Nat} {o9 p9 : Nat} {m9 : Nat → Nat} {B k : Nat} (F : LF p l s m c args A b L xs) (hk5 : 5 * k + 5 ≤ L) (hB : B + 100 < 2 ^ 31) (hR : cells + 7 ≤ room_1.cells ∧ slots + 5790 ≤ room_1.slots) {st : St} {ad : Nat → Nat → Nat} {sv : Nat → St} {ol n7 n8 : Nat} {tx : Nat → Nat} {ln po : Nat} {ki rp tg nu : Int32} {fo : Nat → Int64} {fd : Nat → UInt64} {sa : Nat → Int32} {th : Int32} {po2 : Nat} {lt fi sc nu2 : Int32} {ad2 rv : Nat} {H : Heap} {locs : List Loc} (hw : Wd D A [(cI, .int), (cR, .object RX1), (cC, .char), (cJ, .long), (cD, .double)] ([(x9, .inr (3, [.ref (q 0), .ref (h9 0), .ref (t9 0)]))] ++ wS cI q st ++ wR cR h9 (fr7 ad n8) ol n7 ++ wT cC t9 tx ln po ki rp tg nu ++ [(o9, .inl (cJ, 1, .inr (.inl fo)))] ++ [(p9, .inl (cD, 1, .inr (.inr (.inr (.inl fd)))))] ++ wM cI m9 sa tx th n7 ln po2 lt fi sc nu2 ad2 rv ++ wP cI ad sv n8) s s.heap H locs) (hLV : LV st sv ol n7 n8 tx ln po sa po2 B) {ls : Array Slot} (hl : lv_has ls 10 [(0, .ref b), (1, .ref x9), (2, .ref (m9 0)), (3, .ref o9), (4, .ref p9), (5, .int (nI (5 * k)))]) {p0 p1 p2 : Int32} (hv : ¬ (inP p0 (nI 0) (nI 3) ∧ inP p1 (nI 0) (nI 5))) (h1 : xs (5 * k + 1) = p0) (h2 : xs (5 * k + 2) = p1) (h3 : xs (5 * k + 3) = p2) (kk : ∀ (H : Heap) (locs : List Loc) (ls : Array Slot), LW D A s cI cR cC cJ cD x9 q h9 t9 o9 p9 m9 (B + 41) H locs → lv_has ls 10 [(0, .ref b), (1, .ref x9), (2, .ref (m9 0)), (3, .ref o9), (4, .ref p9), (5, .int (nI (5 * k)))] → W p l e room_1 s m args below meth c H locs (cells + 7) (slots + 5790) Q (F0 m 1875 ls [])) : W p l e room_1 s m args below meth c H locs cells slots Q (F0 m 348 ls []) := by
  obtain ⟨S, hz, hxe, hzq, hl9, hA, hX, hbl, hbA, hL⟩ := id F
  obtain ⟨hh, hRl, hHs, htx, hln, hpo, hpo2⟩ := id hLV
  have h6 : n7 ≤ 6 := Nat.le_trans hh.2.1 hh.2.2.1
  obtain ⟨hx, hb, hml, hown, hts⟩ := id S
  refine lv_aload_n hx hb dL_law_348 rfl (lv_at hl 1 rfl) ?_
  refine lv_aload_n hx hb dL_law_349 rfl (lv_at hl 0 rfl) ?_
  refine lv_iload hx hb dL_law_350 (lv_at hl 5 rfl) ?_
  refine lv_iconst (v := nI 1) hx hb dL_law_352 kc_iconst_1 ?_
  refine r_addN hx hb dL_law_353 ?_
  refine r_sld hx hb hX hbl hbA hL hw (i := (5 * k) + 1) (by omega) (v := p0) h1 dL_law_354 ?_
  refine lv_aload_n hx hb dL_law_355 rfl (lv_at hl 0 rfl) ?_
  refine lv_iload hx hb dL_law_356 (lv_at hl 5 rfl) ?_
  refine lv_iconst (v := nI 2) hx hb dL_law_358 kc_iconst_2 ?_
  refine r_addN hx hb dL_law_359 ?_
  refine r_sld hx hb hX hbl hbA hL hw (i := (5 * k) + 2) (by omega) (v := p1) h2 dL_law_360 ?_
  refine lv_aload_n hx hb dL_law_361 rfl (lv_at hl 0 rfl) ?_
  refine lv_iload hx hb dL_law_362 (lv_at hl 5 rfl) ?_
  refine lv_iconst (v := nI 3) hx hb dL_law_364 kc_iconst_3 ?_
  refine r_addN hx hb dL_law_365 ?_
  refine r_sld hx hb hX hbl hbA hL hw (i := (5 * k) + 3) (by omega) (v := p2) h3 dL_law_366 ?_
  refine lv_aload_n hx hb dL_law_367 rfl (lv_at hl 3 rfl) ?_
  refine cpz_S (w1 := fun (u9 : Unit) => ([(x9, .inr (3, [.ref (q 0), .ref (h9 0), .ref (t9 0)]))] : va_W) ++ wS cI q st ++ wR cR h9 (fr7 ad n8) ol n7 ++ wT cC t9 tx ln po ki rp tg nu ++ ([(o9, .inl (cJ, 1, .inr (.inl fo)))] : va_W)) (pl := fun (u9 : Unit) => wP cI ad sv n8) (As := [.ref x9, .int p0, .int p1, .int p2, .ref o9]) (rest := []) (wc := ([(x9, .inr (3, [.ref (q 0), .ref (h9 0), .ref (t9 0)]))] : va_W) ++ wS cI q st ++ wR cR h9 (fr7 ad n8) ol n7 ++ wT cC t9 tx ln po ki rp tg nu ++ ([(o9, .inl (cJ, 1, .inr (.inl fo)))] : va_W)) (wr := ([(p9, .inl (cD, 1, .inr (.inr (.inr (.inl fd)))))] : va_W) ++ wM cI m9 sa tx th n7 ln po2 lt fi sc nu2 ad2 rv) S hz hxe hzq (c_L_include_e1 l D (hl9 := hl9) (sz := H.size) (cI := cI) (cR := cR) (cC := cC) (x9 := x9) (q := q) (st := st) (h9 := h9) (ad := ad) (sv := sv) (ol := ol) (n7 := n7) (n8 := n8) (t9 := t9) (tx := tx) (ln := ln) (po := po) (ki := ki) (rp := rp) (tg := tg) (nu := nu) (cJ := cJ) (o9 := o9) (fo := fo) (p0 := p0) (p1 := p1) (p2 := p2) (hh := hh) (hv := hv)) (vx_cwSW 5 hts gL_law_L_include rfl rfl rfl (by decide +kernel) ⟨Nat.le_of_ble_eq_true rfl, Nat.le_of_ble_eq_true rfl⟩) hw hA [0, 1, 2, 3, 4, 5, 6, 7, 8, 9, 10, 11, 12] [13, 14, 15, 16] [0, 1, 2, 3] rfl rfl (k0 := 17) rfl (by decide) rfl rfl hl.1 (Nat.le_of_ble_eq_true rfl) ⟨(show cells + 1 ≤ room_1.cells by omega), (show slots + 6 ≤ room_1.slots by omega)⟩ rfl dL_law_368 (fun r_368 u_368 H locs e_368 hw => ?_)
  have hw : Wd D A [(cI, .int), (cR, .object RX1), (cC, .char), (cJ, .long), (cD, .double)] (([(x9, .inr (3, [.ref (q 0), .ref (h9 0), .ref (t9 0)]))] : va_W) ++ wS cI q st ++ wR cR h9 (fr7 ad n8) ol n7 ++ wT cC t9 tx ln po ki rp tg nu ++ ([(o9, .inl (cJ, 1, .inr (.inl fo)))] : va_W) ++ ([(p9, .inl (cD, 1, .inr (.inr (.inr (.inl fd)))))] : va_W) ++ wM cI m9 sa tx th n7 ln po2 lt fi sc nu2 ad2 rv ++ wP cI ad sv n8) s s.heap H locs := hw
  have e_368 : r_368 = nI 1 := e_368
  subst e_368
  refine lv_istore (lv' := [(6, .int (nI 1)), (0, .ref b), (1, .ref x9), (2, .ref (m9 0)), (3, .ref o9), (4, .ref p9), (5, .int (nI (5 * k)))]) hx hb dL_law_371 hl (by decide) rfl (fun ls hl => ?_)
  refine lv_aload_n hx hb dL_law_373 rfl (lv_at hl 3 rfl) ?_
  refine lv_aload_n hx hb dL_law_374 rfl (lv_at hl 1 rfl) ?_
  refine lv_iload hx hb dL_law_375 (lv_at hl 6 rfl) ?_
  refine lv_iconst (v := nI 1) hx hb dL_law_377 kc_iconst_1 ?_
  refine r_addN hx hb dL_law_378 ?_
  refine r_sld hx hb hX hbl hbA hL hw (i := (5 * k) + 1) (by omega) (v := p0) h1 dL_law_379 ?_
  refine lv_aload_n hx hb dL_law_380 rfl (lv_at hl 1 rfl) ?_
  refine lv_iload hx hb dL_law_381 (lv_at hl 6 rfl) ?_
  refine lv_iconst (v := nI 2) hx hb dL_law_383 kc_iconst_2 ?_
  refine r_addN hx hb dL_law_384 ?_
  refine r_sld hx hb hX hbl hbA hL hw (i := (5 * k) + 2) (by omega) (v := p1) h2 dL_law_385 ?_
  refine lv_aload_n hx hb dL_law_386 rfl (lv_at hl 1 rfl) ?_
  refine lv_iload hx hb dL_law_387 (lv_at hl 6 rfl) ?_
  refine lv_iconst (v := nI 3) hx hb dL_law_389 kc_iconst_3 ?_
  refine r_addN hx hb dL_law_390 ?_
  refine r_sld hx hb hX hbl hbA hL hw (i := (5 * k) + 3) (by omega) (v := p2) h3 dL_law_391 ?_
  refine cp_Vi (As := [.int p0, .int p1, .int p2]) (rest := []) (wc := wM cI m9 sa tx th n7 ln po2 lt fi sc nu2 ad2 rv) (wr := ([(x9, .inr (3, [.ref (q 0), .ref (h9 0), .ref (t9 0)]))] : va_W) ++ wS cI q st ++ wR cR h9 (fr7 ad n8) ol n7 ++ wT cC t9 tx ln po ki rp tg nu ++ ([(o9, .inl (cJ, 1, .inr (.inl fo)))] : va_W) ++ ([(p9, .inl (cD, 1, .inr (.inr (.inr (.inl fd)))))] : va_W)) S (c_X4_include_e1 l D (sz := H.size) (cI := cI) (m9 := m9) (sa := sa) (tx := tx) (th := th) (sv := n7) (ln := ln) (po := po2) (lt := lt) (fi := fi) (sc := sc) (nu := nu2) (ad := ad2) (rv := rv) (p0 := p0) (p1 := p1) (p2 := p2) (hv := hv)) (cwV 3 hts gL_law_X4_include rfl rfl rfl (by decide +kernel) ⟨Nat.le_of_ble_eq_true rfl, Nat.le_of_ble_eq_true rfl⟩) hw hA [14, 15, 16] [0, 1, 2, 3, 4, 5, 6, 7, 8, 9, 10, 11, 12, 13] [0] rfl rfl (k0 := 17) rfl (by decide) rfl 0 rfl rfl rfl hl.1 (Nat.le_of_ble_eq_true rfl) ⟨(show (cells + 1) + 0 ≤ room_1.cells by omega), (show (slots + 6) + 0 ≤ room_1.slots by omega)⟩ rfl dL_law_392 (fun r_392 u_392 H locs e_392 hw => ?_)
  have hw : Wd D A [(cI, .int), (cR, .object RX1), (cC, .char), (cJ, .long), (cD, .double)] (wM cI m9 sa tx (nI 1) n7 ln po2 lt fi sc nu2 ad2 rv ++ ([(x9, .inr (3, [.ref (q 0), .ref (h9 0), .ref (t9 0)]))] : va_W) ++ wS cI q st ++ wR cR h9 (fr7 ad n8) ol n7 ++ wT cC t9 tx ln po ki rp tg nu ++ ([(o9, .inl (cJ, 1, .inr (.inl fo)))] : va_W) ++ ([(p9, .inl (cD, 1, .inr (.inr (.inr (.inl fd)))))] : va_W) ++ wP cI ad sv n8) s s.heap H locs := hw
  have e_392 : r_392 = nI 0 := e_392
  subst e_392
  refine lv_istore (lv' := [(7, .int (nI 0)), (6, .int (nI 1)), (0, .ref b), (1, .ref x9), (2, .ref (m9 0)), (3, .ref o9), (4, .ref p9), (5, .int (nI (5 * k)))]) hx hb dL_law_395 hl (by decide) rfl (fun ls hl => ?_)
  refine lv_aload_n hx hb dL_law_397 rfl (lv_at hl 4 rfl) ?_
  refine cq_V (As := []) (rest := []) S (c_X4_thrown l D (cI := cI) (m9 := m9) (sa := sa) (tx := tx) (th := nI 1) (sv := n7) (ln := ln) (po := po2) (lt := lt) (fi := fi) (sc := sc) (nu := nu2) (ad := ad2) (rv := rv)) (cwV 0 hts gL_law_X4_thrown rfl rfl rfl (by decide +kernel) ⟨Nat.le_of_ble_eq_true rfl, Nat.le_of_ble_eq_true rfl⟩) (hw.q.sub [0, 1, 2] [0] rfl rfl) 0 rfl rfl rfl hl.1 (Nat.le_of_ble_eq_true rfl) ⟨(show (cells + 1) ≤ room_1.cells by omega), (show (slots + 6) ≤ room_1.slots by omega)⟩ rfl dL_law_398 (fun r_398 e_398 => ?_)
  have e_398 : r_398 = (nI 1) := e_398
  subst e_398
  refine lv_iload hx hb dL_law_401 (lv_at hl 1 rfl) ?_
  refine r_icmp_eqN (tgt := 408) hx hb (by decide) (by decide) dL_law_403 (by decide) (fun _ => ?_) (fun h => absurd h (by decide))
  refine lv_iload hx hb dL_law_408 (lv_at hl 1 rfl) ?_
  refine lv_if_ne (tgt := 425) hx hb dL_law_410 (by decide) (fun _ => ?_) (fun h => absurd h (by decide))
  refine lv_goto (tgt := 1875) hx hb dL_law_425 (by decide) ?_
  have hw : Wd D A [(cI, .int), (cR, .object RX1), (cC, .char), (cJ, .long), (cD, .double)] (([(x9, .inr (3, [.ref (q 0), .ref (h9 0), .ref (t9 0)]))] : va_W) ++ wS cI q st ++ wR cR h9 (fr7 ad n8) ol n7 ++ wT cC t9 tx ln po ki rp tg nu ++ ([(o9, .inl (cJ, 1, .inr (.inl fo)))] : va_W) ++ ([(p9, .inl (cD, 1, .inr (.inr (.inr (.inl fd)))))] : va_W) ++ wM cI m9 sa tx (nI 1) n7 ln po2 lt fi sc nu2 ad2 rv ++ wP cI ad sv n8) s s.heap H locs := hw.ord [3, 4, 5, 6, 7, 8, 9, 10, 11, 12, 13, 14, 15, 16, 0, 1, 2] (k0 := 17) rfl rfl (by decide)
  have hl : lv_has ls 10 [(0, .ref b), (1, .ref x9), (2, .ref (m9 0)), (3, .ref o9), (4, .ref p9), (5, .int (nI (5 * k)))] := lv_sub hl [2, 3, 4, 5, 6, 7] rfl
  refine W.widen (k := cells + 7) (n := slots + 5790) (by omega) (by omega) ?_
  exact kk H locs ls ⟨st, ad, sv, ol, n7, n8, tx, ln, po, ki, rp, tg, nu, fo, fd, sa, nI 1, po2, lt, fi, sc, nu2, ad2, rv, hw, LV_m hLV (by omega)⟩ hl
set_option maxHeartbeats 4000000 in
set_option maxRecDepth 100000 in
theorem law_exclude_e1 {p : Program} {l : Launch} {e : Env} {s : State} {m : MethodId} {args : Array Value} {below : List Frame} {meth : Method} {c : Code} {Q : State → Prop} {D : va_G} {A : Nat → Prop} {b L : Nat} {xs : Nat → Int32} {cells slots : Nat} {cI cR cC cJ cD : ClassId} {x9 : Nat} {q h9 t9 : Nat → Nat} {o9 p9 : Nat} {m9 : Nat → Nat} {B k : Nat} (F : LF p l s m c args A b L xs) (hk5 : 5 * k + 5 ≤ L) (hB : B + 100 < 2 ^ 31) (hR : cells + 7 ≤ room_1.cells ∧ slots + 5790 ≤ room_1.slots) {st : St} {ad : Nat → Nat → Nat} {sv : Nat → St} {ol n7 n8 : Nat} {tx : Nat → Nat} {ln po : Nat} {ki rp tg nu : Int32} {fo : Nat → Int64} {fd : Nat → UInt64} {sa : Nat → Int32} {th : Int32} {po2 : Nat} {lt fi sc nu2 : Int32} {ad2 rv : Nat} {H : Heap} {locs : List Loc} (hw : Wd D A [(cI, .int), (cR, .object RX1), (cC, .char), (cJ, .long), (cD, .double)] ([(x9, .inr (3, [.ref (q 0), .ref (h9 0), .ref (t9 0)]))] ++ wS cI q st ++ wR cR h9 (fr7 ad n8) ol n7 ++ wT cC t9 tx ln po ki rp tg nu ++ [(o9, .inl (cJ, 1, .inr (.inl fo)))] ++ [(p9, .inl (cD, 1, .inr (.inr (.inr (.inl fd)))))] ++ wM cI m9 sa tx th n7 ln po2 lt fi sc nu2 ad2 rv ++ wP cI ad sv n8) s s.heap H locs) (hLV : LV st sv ol n7 n8 tx ln po sa po2 B) {ls : Array Slot} (hl : lv_has ls 10 [(0, .ref b), (1, .ref x9), (2, .ref (m9 0)), (3, .ref o9), (4, .ref p9), (5, .int (nI (5 * k)))]) {p0 p1 p2 : Int32} (hv : ¬ (inP p0 (nI 0) (nI 3) ∧ inP p1 (nI 0) (nI 5))) (h1 : xs (5 * k + 1) = p0) (h2 : xs (5 * k + 2) = p1) (h3 : xs (5 * k + 3) = p2) (kk : ∀ (H : Heap) (locs : List Loc) (ls : Array Slot), LW D A s cI cR cC cJ cD x9 q h9 t9 o9 p9 m9 (B + 41) H locs → lv_has ls 10 [(0, .ref b), (1, .ref x9), (2, .ref (m9 0)), (3, .ref o9), (4, .ref p9), (5, .int (nI (5 * k)))] → W p l e room_1 s m args below meth c H locs (cells + 7) (slots + 5790) Q (F0 m 1875 ls [])) : W p l e room_1 s m args below meth c H locs cells slots Q (F0 m 428 ls []) := by
  obtain ⟨S, hz, hxe, hzq, hl9, hA, hX, hbl, hbA, hL⟩ := id F
  obtain ⟨hh, hRl, hHs, htx, hln, hpo, hpo2⟩ := id hLV
  have h6 : n7 ≤ 6 := Nat.le_trans hh.2.1 hh.2.2.1
  obtain ⟨hx, hb, hml, hown, hts⟩ := id S
  refine lv_aload_n hx hb dL_law_428 rfl (lv_at hl 1 rfl) ?_
  refine lv_aload_n hx hb dL_law_429 rfl (lv_at hl 0 rfl) ?_
  refine lv_iload hx hb dL_law_430 (lv_at hl 5 rfl) ?_
  refine lv_iconst (v := nI 1) hx hb dL_law_432 kc_iconst_1 ?_
  refine r_addN hx hb dL_law_433 ?_
  refine r_sld hx hb hX hbl hbA hL hw (i := (5 * k) + 1) (by omega) (v := p0) h1 dL_law_434 ?_
  refine lv_aload_n hx hb dL_law_435 rfl (lv_at hl 0 rfl) ?_
  refine lv_iload hx hb dL_law_436 (lv_at hl 5 rfl) ?_
  refine lv_iconst (v := nI 2) hx hb dL_law_438 kc_iconst_2 ?_
  refine r_addN hx hb dL_law_439 ?_
  refine r_sld hx hb hX hbl hbA hL hw (i := (5 * k) + 2) (by omega) (v := p1) h2 dL_law_440 ?_
  refine lv_aload_n hx hb dL_law_441 rfl (lv_at hl 0 rfl) ?_
  refine lv_iload hx hb dL_law_442 (lv_at hl 5 rfl) ?_
  refine lv_iconst (v := nI 3) hx hb dL_law_444 kc_iconst_3 ?_
  refine r_addN hx hb dL_law_445 ?_
  refine r_sld hx hb hX hbl hbA hL hw (i := (5 * k) + 3) (by omega) (v := p2) h3 dL_law_446 ?_
  refine lv_aload_n hx hb dL_law_447 rfl (lv_at hl 3 rfl) ?_
  refine cpz_S (w1 := fun (u9 : Unit) => ([(x9, .inr (3, [.ref (q 0), .ref (h9 0), .ref (t9 0)]))] : va_W) ++ wS cI q st ++ wR cR h9 (fr7 ad n8) ol n7 ++ wT cC t9 tx ln po ki rp tg nu ++ ([(o9, .inl (cJ, 1, .inr (.inl fo)))] : va_W)) (pl := fun (u9 : Unit) => wP cI ad sv n8) (As := [.ref x9, .int p0, .int p1, .int p2, .ref o9]) (rest := []) (wc := ([(x9, .inr (3, [.ref (q 0), .ref (h9 0), .ref (t9 0)]))] : va_W) ++ wS cI q st ++ wR cR h9 (fr7 ad n8) ol n7 ++ wT cC t9 tx ln po ki rp tg nu ++ ([(o9, .inl (cJ, 1, .inr (.inl fo)))] : va_W)) (wr := ([(p9, .inl (cD, 1, .inr (.inr (.inr (.inl fd)))))] : va_W) ++ wM cI m9 sa tx th n7 ln po2 lt fi sc nu2 ad2 rv) S hz hxe hzq (c_L_exclude_e1 l D (hl9 := hl9) (sz := H.size) (cI := cI) (cR := cR) (cC := cC) (x9 := x9) (q := q) (st := st) (h9 := h9) (ad := ad) (sv := sv) (ol := ol) (n7 := n7) (n8 := n8) (t9 := t9) (tx := tx) (ln := ln) (po := po) (ki := ki) (rp := rp) (tg := tg) (nu := nu) (cJ := cJ) (o9 := o9) (fo := fo) (p0 := p0) (p1 := p1) (p2 := p2) (hh := hh) (hv := hv)) (vx_cwSW 5 hts gL_law_L_exclude rfl rfl rfl (by decide +kernel) ⟨Nat.le_of_ble_eq_true rfl, Nat.le_of_ble_eq_true rfl⟩) hw hA [0, 1, 2, 3, 4, 5, 6, 7, 8, 9, 10, 11, 12] [13, 14, 15, 16] [0, 1, 2, 3] rfl rfl (k0 := 17) rfl (by decide) rfl rfl hl.1 (Nat.le_of_ble_eq_true rfl) ⟨(show cells + 1 ≤ room_1.cells by omega), (show slots + 6 ≤ room_1.slots by omega)⟩ rfl dL_law_448 (fun r_448 u_448 H locs e_448 hw => ?_)
  have hw : Wd D A [(cI, .int), (cR, .object RX1), (cC, .char), (cJ, .long), (cD, .double)] (([(x9, .inr (3, [.ref (q 0), .ref (h9 0), .ref (t9 0)]))] : va_W) ++ wS cI q st ++ wR cR h9 (fr7 ad n8) ol n7 ++ wT cC t9 tx ln po ki rp tg nu ++ ([(o9, .inl (cJ, 1, .inr (.inl fo)))] : va_W) ++ ([(p9, .inl (cD, 1, .inr (.inr (.inr (.inl fd)))))] : va_W) ++ wM cI m9 sa tx th n7 ln po2 lt fi sc nu2 ad2 rv ++ wP cI ad sv n8) s s.heap H locs := hw
  have e_448 : r_448 = nI 1 := e_448
  subst e_448
  refine lv_istore (lv' := [(6, .int (nI 1)), (0, .ref b), (1, .ref x9), (2, .ref (m9 0)), (3, .ref o9), (4, .ref p9), (5, .int (nI (5 * k)))]) hx hb dL_law_451 hl (by decide) rfl (fun ls hl => ?_)
  refine lv_aload_n hx hb dL_law_453 rfl (lv_at hl 3 rfl) ?_
  refine lv_aload_n hx hb dL_law_454 rfl (lv_at hl 1 rfl) ?_
  refine lv_iload hx hb dL_law_455 (lv_at hl 6 rfl) ?_
  refine lv_iconst (v := nI 1) hx hb dL_law_457 kc_iconst_1 ?_
  refine r_addN hx hb dL_law_458 ?_
  refine r_sld hx hb hX hbl hbA hL hw (i := (5 * k) + 1) (by omega) (v := p0) h1 dL_law_459 ?_
  refine lv_aload_n hx hb dL_law_460 rfl (lv_at hl 1 rfl) ?_
  refine lv_iload hx hb dL_law_461 (lv_at hl 6 rfl) ?_
  refine lv_iconst (v := nI 2) hx hb dL_law_463 kc_iconst_2 ?_
  refine r_addN hx hb dL_law_464 ?_
  refine r_sld hx hb hX hbl hbA hL hw (i := (5 * k) + 2) (by omega) (v := p1) h2 dL_law_465 ?_
  refine lv_aload_n hx hb dL_law_466 rfl (lv_at hl 1 rfl) ?_
  refine lv_iload hx hb dL_law_467 (lv_at hl 6 rfl) ?_
  refine lv_iconst (v := nI 3) hx hb dL_law_469 kc_iconst_3 ?_
  refine r_addN hx hb dL_law_470 ?_
  refine r_sld hx hb hX hbl hbA hL hw (i := (5 * k) + 3) (by omega) (v := p2) h3 dL_law_471 ?_
  refine cp_Vi (As := [.int p0, .int p1, .int p2]) (rest := []) (wc := wM cI m9 sa tx th n7 ln po2 lt fi sc nu2 ad2 rv) (wr := ([(x9, .inr (3, [.ref (q 0), .ref (h9 0), .ref (t9 0)]))] : va_W) ++ wS cI q st ++ wR cR h9 (fr7 ad n8) ol n7 ++ wT cC t9 tx ln po ki rp tg nu ++ ([(o9, .inl (cJ, 1, .inr (.inl fo)))] : va_W) ++ ([(p9, .inl (cD, 1, .inr (.inr (.inr (.inl fd)))))] : va_W)) S (c_X4_exclude_e1 l D (sz := H.size) (cI := cI) (m9 := m9) (sa := sa) (tx := tx) (th := th) (sv := n7) (ln := ln) (po := po2) (lt := lt) (fi := fi) (sc := sc) (nu := nu2) (ad := ad2) (rv := rv) (p0 := p0) (p1 := p1) (p2 := p2) (hv := hv)) (cwV 3 hts gL_law_X4_exclude rfl rfl rfl (by decide +kernel) ⟨Nat.le_of_ble_eq_true rfl, Nat.le_of_ble_eq_true rfl⟩) hw hA [14, 15, 16] [0, 1, 2, 3, 4, 5, 6, 7, 8, 9, 10, 11, 12, 13] [0] rfl rfl (k0 := 17) rfl (by decide) rfl 0 rfl rfl rfl hl.1 (Nat.le_of_ble_eq_true rfl) ⟨(show (cells + 1) + 0 ≤ room_1.cells by omega), (show (slots + 6) + 0 ≤ room_1.slots by omega)⟩ rfl dL_law_472 (fun r_472 u_472 H locs e_472 hw => ?_)
  have hw : Wd D A [(cI, .int), (cR, .object RX1), (cC, .char), (cJ, .long), (cD, .double)] (wM cI m9 sa tx (nI 1) n7 ln po2 lt fi sc nu2 ad2 rv ++ ([(x9, .inr (3, [.ref (q 0), .ref (h9 0), .ref (t9 0)]))] : va_W) ++ wS cI q st ++ wR cR h9 (fr7 ad n8) ol n7 ++ wT cC t9 tx ln po ki rp tg nu ++ ([(o9, .inl (cJ, 1, .inr (.inl fo)))] : va_W) ++ ([(p9, .inl (cD, 1, .inr (.inr (.inr (.inl fd)))))] : va_W) ++ wP cI ad sv n8) s s.heap H locs := hw
  have e_472 : r_472 = nI 0 := e_472
  subst e_472
  refine lv_istore (lv' := [(7, .int (nI 0)), (6, .int (nI 1)), (0, .ref b), (1, .ref x9), (2, .ref (m9 0)), (3, .ref o9), (4, .ref p9), (5, .int (nI (5 * k)))]) hx hb dL_law_475 hl (by decide) rfl (fun ls hl => ?_)
  refine lv_aload_n hx hb dL_law_477 rfl (lv_at hl 4 rfl) ?_
  refine cq_V (As := []) (rest := []) S (c_X4_thrown l D (cI := cI) (m9 := m9) (sa := sa) (tx := tx) (th := nI 1) (sv := n7) (ln := ln) (po := po2) (lt := lt) (fi := fi) (sc := sc) (nu := nu2) (ad := ad2) (rv := rv)) (cwV 0 hts gL_law_X4_thrown rfl rfl rfl (by decide +kernel) ⟨Nat.le_of_ble_eq_true rfl, Nat.le_of_ble_eq_true rfl⟩) (hw.q.sub [0, 1, 2] [0] rfl rfl) 0 rfl rfl rfl hl.1 (Nat.le_of_ble_eq_true rfl) ⟨(show (cells + 1) ≤ room_1.cells by omega), (show (slots + 6) ≤ room_1.slots by omega)⟩ rfl dL_law_478 (fun r_478 e_478 => ?_)
  have e_478 : r_478 = (nI 1) := e_478
  subst e_478
  refine lv_iload hx hb dL_law_481 (lv_at hl 1 rfl) ?_
  refine r_icmp_eqN (tgt := 488) hx hb (by decide) (by decide) dL_law_483 (by decide) (fun _ => ?_) (fun h => absurd h (by decide))
  refine lv_iload hx hb dL_law_488 (lv_at hl 1 rfl) ?_
  refine lv_if_ne (tgt := 505) hx hb dL_law_490 (by decide) (fun _ => ?_) (fun h => absurd h (by decide))
  refine lv_goto (tgt := 1875) hx hb dL_law_505 (by decide) ?_
  have hw : Wd D A [(cI, .int), (cR, .object RX1), (cC, .char), (cJ, .long), (cD, .double)] (([(x9, .inr (3, [.ref (q 0), .ref (h9 0), .ref (t9 0)]))] : va_W) ++ wS cI q st ++ wR cR h9 (fr7 ad n8) ol n7 ++ wT cC t9 tx ln po ki rp tg nu ++ ([(o9, .inl (cJ, 1, .inr (.inl fo)))] : va_W) ++ ([(p9, .inl (cD, 1, .inr (.inr (.inr (.inl fd)))))] : va_W) ++ wM cI m9 sa tx (nI 1) n7 ln po2 lt fi sc nu2 ad2 rv ++ wP cI ad sv n8) s s.heap H locs := hw.ord [3, 4, 5, 6, 7, 8, 9, 10, 11, 12, 13, 14, 15, 16, 0, 1, 2] (k0 := 17) rfl rfl (by decide)
  have hl : lv_has ls 10 [(0, .ref b), (1, .ref x9), (2, .ref (m9 0)), (3, .ref o9), (4, .ref p9), (5, .int (nI (5 * k)))] := lv_sub hl [2, 3, 4, 5, 6, 7] rfl
  refine W.widen (k := cells + 7) (n := slots + 5790) (by omega) (by omega) ?_
  exact kk H locs ls ⟨st, ad, sv, ol, n7, n8, tx, ln, po, ki, rp, tg, nu, fo, fd, sa, nI 1, po2, lt, fi, sc, nu2, ad2, rv, hw, LV_m hLV (by omega)⟩ hl
set_option maxHeartbeats 4000000 in
set_option maxRecDepth 100000 in
theorem law_delete_e1 {p : Program} {l : Launch} {e : Env} {s : State} {m : MethodId} {args : Array Value} {below : List Frame} {meth : Method} {c : Code} {Q : State → Prop} {D : va_G} {A : Nat → Prop} {b L : Nat} {xs : Nat → Int32} {cells slots : Nat} {cI cR cC cJ cD : ClassId} {x9 : Nat} {q h9 t9 : Nat → Nat} {o9 p9 : Nat} {m9 : Nat → Nat} {B k : Nat} (F : LF p l s m c args A b L xs) (hk5 : 5 * k + 5 ≤ L) (hB : B + 100 < 2 ^ 31) (hR : cells + 7 ≤ room_1.cells ∧ slots + 5790 ≤ room_1.slots) {st : St} {ad : Nat → Nat → Nat} {sv : Nat → St} {ol n7 n8 : Nat} {tx : Nat → Nat} {ln po : Nat} {ki rp tg nu : Int32} {fo : Nat → Int64} {fd : Nat → UInt64} {sa : Nat → Int32} {th : Int32} {po2 : Nat} {lt fi sc nu2 : Int32} {ad2 rv : Nat} {H : Heap} {locs : List Loc} (hw : Wd D A [(cI, .int), (cR, .object RX1), (cC, .char), (cJ, .long), (cD, .double)] ([(x9, .inr (3, [.ref (q 0), .ref (h9 0), .ref (t9 0)]))] ++ wS cI q st ++ wR cR h9 (fr7 ad n8) ol n7 ++ wT cC t9 tx ln po ki rp tg nu ++ [(o9, .inl (cJ, 1, .inr (.inl fo)))] ++ [(p9, .inl (cD, 1, .inr (.inr (.inr (.inl fd)))))] ++ wM cI m9 sa tx th n7 ln po2 lt fi sc nu2 ad2 rv ++ wP cI ad sv n8) s s.heap H locs) (hLV : LV st sv ol n7 n8 tx ln po sa po2 B) {ls : Array Slot} (hl : lv_has ls 10 [(0, .ref b), (1, .ref x9), (2, .ref (m9 0)), (3, .ref o9), (4, .ref p9), (5, .int (nI (5 * k)))]) {p0 p1 : Int32} (hv : ¬ (inP p0 (nI 0) (nI 3) ∧ inP p1 (nI 0) (nI 5))) (h1 : xs (5 * k + 1) = p0) (h2 : xs (5 * k + 2) = p1) (kk : ∀ (H : Heap) (locs : List Loc) (ls : Array Slot), LW D A s cI cR cC cJ cD x9 q h9 t9 o9 p9 m9 (B + 41) H locs → lv_has ls 10 [(0, .ref b), (1, .ref x9), (2, .ref (m9 0)), (3, .ref o9), (4, .ref p9), (5, .int (nI (5 * k)))] → W p l e room_1 s m args below meth c H locs (cells + 7) (slots + 5790) Q (F0 m 1875 ls [])) : W p l e room_1 s m args below meth c H locs cells slots Q (F0 m 508 ls []) := by
  obtain ⟨S, hz, hxe, hzq, hl9, hA, hX, hbl, hbA, hL⟩ := id F
  obtain ⟨hh, hRl, hHs, htx, hln, hpo, hpo2⟩ := id hLV
  have h6 : n7 ≤ 6 := Nat.le_trans hh.2.1 hh.2.2.1
  obtain ⟨hx, hb, hml, hown, hts⟩ := id S
  refine lv_aload_n hx hb dL_law_508 rfl (lv_at hl 1 rfl) ?_
  refine lv_aload_n hx hb dL_law_509 rfl (lv_at hl 0 rfl) ?_
  refine lv_iload hx hb dL_law_510 (lv_at hl 5 rfl) ?_
  refine lv_iconst (v := nI 1) hx hb dL_law_512 kc_iconst_1 ?_
  refine r_addN hx hb dL_law_513 ?_
  refine r_sld hx hb hX hbl hbA hL hw (i := (5 * k) + 1) (by omega) (v := p0) h1 dL_law_514 ?_
  refine lv_aload_n hx hb dL_law_515 rfl (lv_at hl 0 rfl) ?_
  refine lv_iload hx hb dL_law_516 (lv_at hl 5 rfl) ?_
  refine lv_iconst (v := nI 2) hx hb dL_law_518 kc_iconst_2 ?_
  refine r_addN hx hb dL_law_519 ?_
  refine r_sld hx hb hX hbl hbA hL hw (i := (5 * k) + 2) (by omega) (v := p1) h2 dL_law_520 ?_
  refine lv_aload_n hx hb dL_law_521 rfl (lv_at hl 3 rfl) ?_
  refine cpz_S (w1 := fun (u9 : Unit) => ([(x9, .inr (3, [.ref (q 0), .ref (h9 0), .ref (t9 0)]))] : va_W) ++ wS cI q st ++ wR cR h9 (fr7 ad n8) ol n7 ++ wT cC t9 tx ln po ki rp tg nu ++ ([(o9, .inl (cJ, 1, .inr (.inl fo)))] : va_W)) (pl := fun (u9 : Unit) => wP cI ad sv n8) (As := [.ref x9, .int p0, .int p1, .ref o9]) (rest := []) (wc := ([(x9, .inr (3, [.ref (q 0), .ref (h9 0), .ref (t9 0)]))] : va_W) ++ wS cI q st ++ wR cR h9 (fr7 ad n8) ol n7 ++ wT cC t9 tx ln po ki rp tg nu ++ ([(o9, .inl (cJ, 1, .inr (.inl fo)))] : va_W)) (wr := ([(p9, .inl (cD, 1, .inr (.inr (.inr (.inl fd)))))] : va_W) ++ wM cI m9 sa tx th n7 ln po2 lt fi sc nu2 ad2 rv) S hz hxe hzq (c_L_delete_e1 l D (hl9 := hl9) (sz := H.size) (cI := cI) (cR := cR) (cC := cC) (x9 := x9) (q := q) (st := st) (h9 := h9) (ad := ad) (sv := sv) (ol := ol) (n7 := n7) (n8 := n8) (t9 := t9) (tx := tx) (ln := ln) (po := po) (ki := ki) (rp := rp) (tg := tg) (nu := nu) (cJ := cJ) (o9 := o9) (fo := fo) (p0 := p0) (p1 := p1) (hh := hh) (hv := hv)) (vx_cwSW 4 hts gL_law_L_delete rfl rfl rfl (by decide +kernel) ⟨Nat.le_of_ble_eq_true rfl, Nat.le_of_ble_eq_true rfl⟩) hw hA [0, 1, 2, 3, 4, 5, 6, 7, 8, 9, 10, 11, 12] [13, 14, 15, 16] [0, 1, 2, 3] rfl rfl (k0 := 17) rfl (by decide) rfl rfl hl.1 (Nat.le_of_ble_eq_true rfl) ⟨(show cells + 1 ≤ room_1.cells by omega), (show slots + 6 ≤ room_1.slots by omega)⟩ rfl dL_law_522 (fun r_522 u_522 H locs e_522 hw => ?_)
  have hw : Wd D A [(cI, .int), (cR, .object RX1), (cC, .char), (cJ, .long), (cD, .double)] (([(x9, .inr (3, [.ref (q 0), .ref (h9 0), .ref (t9 0)]))] : va_W) ++ wS cI q st ++ wR cR h9 (fr7 ad n8) ol n7 ++ wT cC t9 tx ln po ki rp tg nu ++ ([(o9, .inl (cJ, 1, .inr (.inl fo)))] : va_W) ++ ([(p9, .inl (cD, 1, .inr (.inr (.inr (.inl fd)))))] : va_W) ++ wM cI m9 sa tx th n7 ln po2 lt fi sc nu2 ad2 rv ++ wP cI ad sv n8) s s.heap H locs := hw
  have e_522 : r_522 = nI 1 := e_522
  subst e_522
  refine lv_istore (lv' := [(6, .int (nI 1)), (0, .ref b), (1, .ref x9), (2, .ref (m9 0)), (3, .ref o9), (4, .ref p9), (5, .int (nI (5 * k)))]) hx hb dL_law_525 hl (by decide) rfl (fun ls hl => ?_)
  refine lv_aload_n hx hb dL_law_527 rfl (lv_at hl 3 rfl) ?_
  refine lv_aload_n hx hb dL_law_528 rfl (lv_at hl 1 rfl) ?_
  refine lv_iload hx hb dL_law_529 (lv_at hl 6 rfl) ?_
  refine lv_iconst (v := nI 1) hx hb dL_law_531 kc_iconst_1 ?_
  refine r_addN hx hb dL_law_532 ?_
  refine r_sld hx hb hX hbl hbA hL hw (i := (5 * k) + 1) (by omega) (v := p0) h1 dL_law_533 ?_
  refine lv_aload_n hx hb dL_law_534 rfl (lv_at hl 1 rfl) ?_
  refine lv_iload hx hb dL_law_535 (lv_at hl 6 rfl) ?_
  refine lv_iconst (v := nI 2) hx hb dL_law_537 kc_iconst_2 ?_
  refine r_addN hx hb dL_law_538 ?_
  refine r_sld hx hb hX hbl hbA hL hw (i := (5 * k) + 2) (by omega) (v := p1) h2 dL_law_539 ?_
  refine cp_Vi (As := [.int p0, .int p1]) (rest := []) (wc := wM cI m9 sa tx th n7 ln po2 lt fi sc nu2 ad2 rv) (wr := ([(x9, .inr (3, [.ref (q 0), .ref (h9 0), .ref (t9 0)]))] : va_W) ++ wS cI q st ++ wR cR h9 (fr7 ad n8) ol n7 ++ wT cC t9 tx ln po ki rp tg nu ++ ([(o9, .inl (cJ, 1, .inr (.inl fo)))] : va_W) ++ ([(p9, .inl (cD, 1, .inr (.inr (.inr (.inl fd)))))] : va_W)) S (c_X4_delete_e1 l D (sz := H.size) (cI := cI) (m9 := m9) (sa := sa) (tx := tx) (th := th) (sv := n7) (ln := ln) (po := po2) (lt := lt) (fi := fi) (sc := sc) (nu := nu2) (ad := ad2) (rv := rv) (p0 := p0) (p1 := p1) (hv := hv)) (cwV 2 hts gL_law_X4_delete rfl rfl rfl (by decide +kernel) ⟨Nat.le_of_ble_eq_true rfl, Nat.le_of_ble_eq_true rfl⟩) hw hA [14, 15, 16] [0, 1, 2, 3, 4, 5, 6, 7, 8, 9, 10, 11, 12, 13] [0] rfl rfl (k0 := 17) rfl (by decide) rfl 0 rfl rfl rfl hl.1 (Nat.le_of_ble_eq_true rfl) ⟨(show (cells + 1) + 0 ≤ room_1.cells by omega), (show (slots + 6) + 0 ≤ room_1.slots by omega)⟩ rfl dL_law_540 (fun r_540 u_540 H locs e_540 hw => ?_)
  have hw : Wd D A [(cI, .int), (cR, .object RX1), (cC, .char), (cJ, .long), (cD, .double)] (wM cI m9 sa tx (nI 1) n7 ln po2 lt fi sc nu2 ad2 rv ++ ([(x9, .inr (3, [.ref (q 0), .ref (h9 0), .ref (t9 0)]))] : va_W) ++ wS cI q st ++ wR cR h9 (fr7 ad n8) ol n7 ++ wT cC t9 tx ln po ki rp tg nu ++ ([(o9, .inl (cJ, 1, .inr (.inl fo)))] : va_W) ++ ([(p9, .inl (cD, 1, .inr (.inr (.inr (.inl fd)))))] : va_W) ++ wP cI ad sv n8) s s.heap H locs := hw
  have e_540 : r_540 = nI 0 := e_540
  subst e_540
  refine lv_istore (lv' := [(7, .int (nI 0)), (6, .int (nI 1)), (0, .ref b), (1, .ref x9), (2, .ref (m9 0)), (3, .ref o9), (4, .ref p9), (5, .int (nI (5 * k)))]) hx hb dL_law_543 hl (by decide) rfl (fun ls hl => ?_)
  refine lv_aload_n hx hb dL_law_545 rfl (lv_at hl 4 rfl) ?_
  refine cq_V (As := []) (rest := []) S (c_X4_thrown l D (cI := cI) (m9 := m9) (sa := sa) (tx := tx) (th := nI 1) (sv := n7) (ln := ln) (po := po2) (lt := lt) (fi := fi) (sc := sc) (nu := nu2) (ad := ad2) (rv := rv)) (cwV 0 hts gL_law_X4_thrown rfl rfl rfl (by decide +kernel) ⟨Nat.le_of_ble_eq_true rfl, Nat.le_of_ble_eq_true rfl⟩) (hw.q.sub [0, 1, 2] [0] rfl rfl) 0 rfl rfl rfl hl.1 (Nat.le_of_ble_eq_true rfl) ⟨(show (cells + 1) ≤ room_1.cells by omega), (show (slots + 6) ≤ room_1.slots by omega)⟩ rfl dL_law_546 (fun r_546 e_546 => ?_)
  have e_546 : r_546 = (nI 1) := e_546
  subst e_546
  refine lv_iload hx hb dL_law_549 (lv_at hl 1 rfl) ?_
  refine r_icmp_eqN (tgt := 556) hx hb (by decide) (by decide) dL_law_551 (by decide) (fun _ => ?_) (fun h => absurd h (by decide))
  refine lv_iload hx hb dL_law_556 (lv_at hl 1 rfl) ?_
  refine lv_if_ne (tgt := 573) hx hb dL_law_558 (by decide) (fun _ => ?_) (fun h => absurd h (by decide))
  refine lv_goto (tgt := 1875) hx hb dL_law_573 (by decide) ?_
  have hw : Wd D A [(cI, .int), (cR, .object RX1), (cC, .char), (cJ, .long), (cD, .double)] (([(x9, .inr (3, [.ref (q 0), .ref (h9 0), .ref (t9 0)]))] : va_W) ++ wS cI q st ++ wR cR h9 (fr7 ad n8) ol n7 ++ wT cC t9 tx ln po ki rp tg nu ++ ([(o9, .inl (cJ, 1, .inr (.inl fo)))] : va_W) ++ ([(p9, .inl (cD, 1, .inr (.inr (.inr (.inl fd)))))] : va_W) ++ wM cI m9 sa tx (nI 1) n7 ln po2 lt fi sc nu2 ad2 rv ++ wP cI ad sv n8) s s.heap H locs := hw.ord [3, 4, 5, 6, 7, 8, 9, 10, 11, 12, 13, 14, 15, 16, 0, 1, 2] (k0 := 17) rfl rfl (by decide)
  have hl : lv_has ls 10 [(0, .ref b), (1, .ref x9), (2, .ref (m9 0)), (3, .ref o9), (4, .ref p9), (5, .int (nI (5 * k)))] := lv_sub hl [2, 3, 4, 5, 6, 7] rfl
  refine W.widen (k := cells + 7) (n := slots + 5790) (by omega) (by omega) ?_
  exact kk H locs ls ⟨st, ad, sv, ol, n7, n8, tx, ln, po, ki, rp, tg, nu, fo, fd, sa, nI 1, po2, lt, fi, sc, nu2, ad2, rv, hw, LV_m hLV (by omega)⟩ hl
set_option maxHeartbeats 4000000 in
set_option maxRecDepth 100000 in
theorem law_latest_e1 {p : Program} {l : Launch} {e : Env} {s : State} {m : MethodId} {args : Array Value} {below : List Frame} {meth : Method} {c : Code} {Q : State → Prop} {D : va_G} {A : Nat → Prop} {b L : Nat} {xs : Nat → Int32} {cells slots : Nat} {cI cR cC cJ cD : ClassId} {x9 : Nat} {q h9 t9 : Nat → Nat} {o9 p9 : Nat} {m9 : Nat → Nat} {B k : Nat} (F : LF p l s m c args A b L xs) (hk5 : 5 * k + 5 ≤ L) (hB : B + 100 < 2 ^ 31) (hR : cells + 7 ≤ room_1.cells ∧ slots + 5790 ≤ room_1.slots) {st : St} {ad : Nat → Nat → Nat} {sv : Nat → St} {ol n7 n8 : Nat} {tx : Nat → Nat} {ln po : Nat} {ki rp tg nu : Int32} {fo : Nat → Int64} {fd : Nat → UInt64} {sa : Nat → Int32} {th : Int32} {po2 : Nat} {lt fi sc nu2 : Int32} {ad2 rv : Nat} {H : Heap} {locs : List Loc} (hw : Wd D A [(cI, .int), (cR, .object RX1), (cC, .char), (cJ, .long), (cD, .double)] ([(x9, .inr (3, [.ref (q 0), .ref (h9 0), .ref (t9 0)]))] ++ wS cI q st ++ wR cR h9 (fr7 ad n8) ol n7 ++ wT cC t9 tx ln po ki rp tg nu ++ [(o9, .inl (cJ, 1, .inr (.inl fo)))] ++ [(p9, .inl (cD, 1, .inr (.inr (.inr (.inl fd)))))] ++ wM cI m9 sa tx th n7 ln po2 lt fi sc nu2 ad2 rv ++ wP cI ad sv n8) s s.heap H locs) (hLV : LV st sv ol n7 n8 tx ln po sa po2 B) {ls : Array Slot} (hl : lv_has ls 10 [(0, .ref b), (1, .ref x9), (2, .ref (m9 0)), (3, .ref o9), (4, .ref p9), (5, .int (nI (5 * k)))]) {p0 p1 : Int32} (hv : ¬ (inP p0 (nI 0) (nI 3) ∧ inP p1 (nI 0) (nI 5))) (h1 : xs (5 * k + 1) = p0) (h2 : xs (5 * k + 2) = p1) (kk : ∀ (H : Heap) (locs : List Loc) (ls : Array Slot), LW D A s cI cR cC cJ cD x9 q h9 t9 o9 p9 m9 (B + 41) H locs → lv_has ls 10 [(0, .ref b), (1, .ref x9), (2, .ref (m9 0)), (3, .ref o9), (4, .ref p9), (5, .int (nI (5 * k)))] → W p l e room_1 s m args below meth c H locs (cells + 7) (slots + 5790) Q (F0 m 1875 ls [])) : W p l e room_1 s m args below meth c H locs cells slots Q (F0 m 827 ls []) := by
  obtain ⟨S, hz, hxe, hzq, hl9, hA, hX, hbl, hbA, hL⟩ := id F
  obtain ⟨hh, hRl, hHs, htx, hln, hpo, hpo2⟩ := id hLV
  have h6 : n7 ≤ 6 := Nat.le_trans hh.2.1 hh.2.2.1
  obtain ⟨hx, hb, hml, hown, hts⟩ := id S
  refine lv_aload_n hx hb dL_law_827 rfl (lv_at hl 1 rfl) ?_
  refine lv_aload_n hx hb dL_law_828 rfl (lv_at hl 0 rfl) ?_
  refine lv_iload hx hb dL_law_829 (lv_at hl 5 rfl) ?_
  refine lv_iconst (v := nI 1) hx hb dL_law_831 kc_iconst_1 ?_
  refine r_addN hx hb dL_law_832 ?_
  refine r_sld hx hb hX hbl hbA hL hw (i := (5 * k) + 1) (by omega) (v := p0) h1 dL_law_833 ?_
  refine lv_aload_n hx hb dL_law_834 rfl (lv_at hl 0 rfl) ?_
  refine lv_iload hx hb dL_law_835 (lv_at hl 5 rfl) ?_
  refine lv_iconst (v := nI 2) hx hb dL_law_837 kc_iconst_2 ?_
  refine r_addN hx hb dL_law_838 ?_
  refine r_sld hx hb hX hbl hbA hL hw (i := (5 * k) + 2) (by omega) (v := p1) h2 dL_law_839 ?_
  refine lv_aload_n hx hb dL_law_840 rfl (lv_at hl 3 rfl) ?_
  refine cpz_S (w1 := fun (u9 : Unit) => ([(x9, .inr (3, [.ref (q 0), .ref (h9 0), .ref (t9 0)]))] : va_W) ++ wS cI q st ++ wR cR h9 (fr7 ad n8) ol n7 ++ wT cC t9 tx ln po ki rp tg nu ++ ([(o9, .inl (cJ, 1, .inr (.inl fo)))] : va_W)) (pl := fun (u9 : Unit) => wP cI ad sv n8) (As := [.ref x9, .int p0, .int p1, .ref o9]) (rest := []) (wc := ([(x9, .inr (3, [.ref (q 0), .ref (h9 0), .ref (t9 0)]))] : va_W) ++ wS cI q st ++ wR cR h9 (fr7 ad n8) ol n7 ++ wT cC t9 tx ln po ki rp tg nu ++ ([(o9, .inl (cJ, 1, .inr (.inl fo)))] : va_W)) (wr := ([(p9, .inl (cD, 1, .inr (.inr (.inr (.inl fd)))))] : va_W) ++ wM cI m9 sa tx th n7 ln po2 lt fi sc nu2 ad2 rv) S hz hxe hzq (c_L_latest_e1 l D (hl9 := hl9) (sz := H.size) (cI := cI) (cR := cR) (cC := cC) (x9 := x9) (q := q) (st := st) (h9 := h9) (ad := ad) (sv := sv) (ol := ol) (n7 := n7) (n8 := n8) (t9 := t9) (tx := tx) (ln := ln) (po := po) (ki := ki) (rp := rp) (tg := tg) (nu := nu) (cJ := cJ) (o9 := o9) (fo := fo) (p0 := p0) (p1 := p1) (hh := hh) (hv := hv)) (vx_cwSW 4 hts gL_law_L_latest rfl rfl rfl (by decide +kernel) ⟨Nat.le_of_ble_eq_true rfl, Nat.le_of_ble_eq_true rfl⟩) hw hA [0, 1, 2, 3, 4, 5, 6, 7, 8, 9, 10, 11, 12] [13, 14, 15, 16] [0, 1, 2, 3] rfl rfl (k0 := 17) rfl (by decide) rfl rfl hl.1 (Nat.le_of_ble_eq_true rfl) ⟨(show cells + 1 ≤ room_1.cells by omega), (show slots + 6 ≤ room_1.slots by omega)⟩ rfl dL_law_841 (fun r_841 u_841 H locs e_841 hw => ?_)
  have hw : Wd D A [(cI, .int), (cR, .object RX1), (cC, .char), (cJ, .long), (cD, .double)] (([(x9, .inr (3, [.ref (q 0), .ref (h9 0), .ref (t9 0)]))] : va_W) ++ wS cI q st ++ wR cR h9 (fr7 ad n8) ol n7 ++ wT cC t9 tx ln po ki rp tg nu ++ ([(o9, .inl (cJ, 1, .inr (.inl fo)))] : va_W) ++ ([(p9, .inl (cD, 1, .inr (.inr (.inr (.inl fd)))))] : va_W) ++ wM cI m9 sa tx th n7 ln po2 lt fi sc nu2 ad2 rv ++ wP cI ad sv n8) s s.heap H locs := hw
  have e_841 : r_841 = nI 1 := e_841
  subst e_841
  refine lv_istore (lv' := [(6, .int (nI 1)), (0, .ref b), (1, .ref x9), (2, .ref (m9 0)), (3, .ref o9), (4, .ref p9), (5, .int (nI (5 * k)))]) hx hb dL_law_844 hl (by decide) rfl (fun ls hl => ?_)
  refine lv_aload_n hx hb dL_law_846 rfl (lv_at hl 3 rfl) ?_
  refine lv_aload_n hx hb dL_law_847 rfl (lv_at hl 1 rfl) ?_
  refine lv_iload hx hb dL_law_848 (lv_at hl 6 rfl) ?_
  refine lv_iconst (v := nI 1) hx hb dL_law_850 kc_iconst_1 ?_
  refine r_addN hx hb dL_law_851 ?_
  refine r_sld hx hb hX hbl hbA hL hw (i := (5 * k) + 1) (by omega) (v := p0) h1 dL_law_852 ?_
  refine lv_aload_n hx hb dL_law_853 rfl (lv_at hl 1 rfl) ?_
  refine lv_iload hx hb dL_law_854 (lv_at hl 6 rfl) ?_
  refine lv_iconst (v := nI 2) hx hb dL_law_856 kc_iconst_2 ?_
  refine r_addN hx hb dL_law_857 ?_
  refine r_sld hx hb hX hbl hbA hL hw (i := (5 * k) + 2) (by omega) (v := p1) h2 dL_law_858 ?_
  refine cp_Vi (As := [.int p0, .int p1]) (rest := []) (wc := wM cI m9 sa tx th n7 ln po2 lt fi sc nu2 ad2 rv) (wr := ([(x9, .inr (3, [.ref (q 0), .ref (h9 0), .ref (t9 0)]))] : va_W) ++ wS cI q st ++ wR cR h9 (fr7 ad n8) ol n7 ++ wT cC t9 tx ln po ki rp tg nu ++ ([(o9, .inl (cJ, 1, .inr (.inl fo)))] : va_W) ++ ([(p9, .inl (cD, 1, .inr (.inr (.inr (.inl fd)))))] : va_W)) S (c_X4_latest_e1 l D (sz := H.size) (cI := cI) (m9 := m9) (sa := sa) (tx := tx) (th := th) (sv := n7) (ln := ln) (po := po2) (lt := lt) (fi := fi) (sc := sc) (nu := nu2) (ad := ad2) (rv := rv) (p0 := p0) (p1 := p1) (hv := hv)) (cwV 2 hts gL_law_X4_latest rfl rfl rfl (by decide +kernel) ⟨Nat.le_of_ble_eq_true rfl, Nat.le_of_ble_eq_true rfl⟩) hw hA [14, 15, 16] [0, 1, 2, 3, 4, 5, 6, 7, 8, 9, 10, 11, 12, 13] [0] rfl rfl (k0 := 17) rfl (by decide) rfl 0 rfl rfl rfl hl.1 (Nat.le_of_ble_eq_true rfl) ⟨(show (cells + 1) + 0 ≤ room_1.cells by omega), (show (slots + 6) + 0 ≤ room_1.slots by omega)⟩ rfl dL_law_859 (fun r_859 u_859 H locs e_859 hw => ?_)
  have hw : Wd D A [(cI, .int), (cR, .object RX1), (cC, .char), (cJ, .long), (cD, .double)] (wM cI m9 sa tx (nI 1) n7 ln po2 lt fi sc nu2 ad2 rv ++ ([(x9, .inr (3, [.ref (q 0), .ref (h9 0), .ref (t9 0)]))] : va_W) ++ wS cI q st ++ wR cR h9 (fr7 ad n8) ol n7 ++ wT cC t9 tx ln po ki rp tg nu ++ ([(o9, .inl (cJ, 1, .inr (.inl fo)))] : va_W) ++ ([(p9, .inl (cD, 1, .inr (.inr (.inr (.inl fd)))))] : va_W) ++ wP cI ad sv n8) s s.heap H locs := hw
  have e_859 : r_859 = nI 0 := e_859
  subst e_859
  refine lv_istore (lv' := [(7, .int (nI 0)), (6, .int (nI 1)), (0, .ref b), (1, .ref x9), (2, .ref (m9 0)), (3, .ref o9), (4, .ref p9), (5, .int (nI (5 * k)))]) hx hb dL_law_862 hl (by decide) rfl (fun ls hl => ?_)
  refine lv_aload_n hx hb dL_law_864 rfl (lv_at hl 4 rfl) ?_
  refine cq_V (As := []) (rest := []) S (c_X4_thrown l D (cI := cI) (m9 := m9) (sa := sa) (tx := tx) (th := nI 1) (sv := n7) (ln := ln) (po := po2) (lt := lt) (fi := fi) (sc := sc) (nu := nu2) (ad := ad2) (rv := rv)) (cwV 0 hts gL_law_X4_thrown rfl rfl rfl (by decide +kernel) ⟨Nat.le_of_ble_eq_true rfl, Nat.le_of_ble_eq_true rfl⟩) (hw.q.sub [0, 1, 2] [0] rfl rfl) 0 rfl rfl rfl hl.1 (Nat.le_of_ble_eq_true rfl) ⟨(show (cells + 1) ≤ room_1.cells by omega), (show (slots + 6) ≤ room_1.slots by omega)⟩ rfl dL_law_865 (fun r_865 e_865 => ?_)
  have e_865 : r_865 = (nI 1) := e_865
  subst e_865
  refine lv_iload hx hb dL_law_868 (lv_at hl 1 rfl) ?_
  refine r_icmp_eqN (tgt := 875) hx hb (by decide) (by decide) dL_law_870 (by decide) (fun _ => ?_) (fun h => absurd h (by decide))
  refine lv_iload hx hb dL_law_875 (lv_at hl 1 rfl) ?_
  refine lv_if_ne (tgt := 892) hx hb dL_law_877 (by decide) (fun _ => ?_) (fun h => absurd h (by decide))
  refine lv_goto (tgt := 1875) hx hb dL_law_892 (by decide) ?_
  have hw : Wd D A [(cI, .int), (cR, .object RX1), (cC, .char), (cJ, .long), (cD, .double)] (([(x9, .inr (3, [.ref (q 0), .ref (h9 0), .ref (t9 0)]))] : va_W) ++ wS cI q st ++ wR cR h9 (fr7 ad n8) ol n7 ++ wT cC t9 tx ln po ki rp tg nu ++ ([(o9, .inl (cJ, 1, .inr (.inl fo)))] : va_W) ++ ([(p9, .inl (cD, 1, .inr (.inr (.inr (.inl fd)))))] : va_W) ++ wM cI m9 sa tx (nI 1) n7 ln po2 lt fi sc nu2 ad2 rv ++ wP cI ad sv n8) s s.heap H locs := hw.ord [3, 4, 5, 6, 7, 8, 9, 10, 11, 12, 13, 14, 15, 16, 0, 1, 2] (k0 := 17) rfl rfl (by decide)
  have hl : lv_has ls 10 [(0, .ref b), (1, .ref x9), (2, .ref (m9 0)), (3, .ref o9), (4, .ref p9), (5, .int (nI (5 * k)))] := lv_sub hl [2, 3, 4, 5, 6, 7] rfl
  refine W.widen (k := cells + 7) (n := slots + 5790) (by omega) (by omega) ?_
  exact kk H locs ls ⟨st, ad, sv, ol, n7, n8, tx, ln, po, ki, rp, tg, nu, fo, fd, sa, nI 1, po2, lt, fi, sc, nu2, ad2, rv, hw, LV_m hLV (by omega)⟩ hl
set_option maxHeartbeats 4000000 in
set_option maxRecDepth 100000 in
theorem law_greatest_e1 {p : Program} {l : Launch} {e : Env} {s : State} {m : MethodId} {args : Array Value} {below : List Frame} {meth : Method} {c : Code} {Q : State → Prop} {D : va_G} {A : Nat → Prop} {b L : Nat} {xs : Nat → Int32} {cells slots : Nat} {cI cR cC cJ cD : ClassId} {x9 : Nat} {q h9 t9 : Nat → Nat} {o9 p9 : Nat} {m9 : Nat → Nat} {B k : Nat} (F : LF p l s m c args A b L xs) (hk5 : 5 * k + 5 ≤ L) (hB : B + 100 < 2 ^ 31) (hR : cells + 7 ≤ room_1.cells ∧ slots + 5790 ≤ room_1.slots) {st : St} {ad : Nat → Nat → Nat} {sv : Nat → St} {ol n7 n8 : Nat} {tx : Nat → Nat} {ln po : Nat} {ki rp tg nu : Int32} {fo : Nat → Int64} {fd : Nat → UInt64} {sa : Nat → Int32} {th : Int32} {po2 : Nat} {lt fi sc nu2 : Int32} {ad2 rv : Nat} {H : Heap} {locs : List Loc} (hw : Wd D A [(cI, .int), (cR, .object RX1), (cC, .char), (cJ, .long), (cD, .double)] ([(x9, .inr (3, [.ref (q 0), .ref (h9 0), .ref (t9 0)]))] ++ wS cI q st ++ wR cR h9 (fr7 ad n8) ol n7 ++ wT cC t9 tx ln po ki rp tg nu ++ [(o9, .inl (cJ, 1, .inr (.inl fo)))] ++ [(p9, .inl (cD, 1, .inr (.inr (.inr (.inl fd)))))] ++ wM cI m9 sa tx th n7 ln po2 lt fi sc nu2 ad2 rv ++ wP cI ad sv n8) s s.heap H locs) (hLV : LV st sv ol n7 n8 tx ln po sa po2 B) {ls : Array Slot} (hl : lv_has ls 10 [(0, .ref b), (1, .ref x9), (2, .ref (m9 0)), (3, .ref o9), (4, .ref p9), (5, .int (nI (5 * k)))]) {p0 p1 : Int32} (hv : ¬ (inP p0 (nI 0) (nI 3) ∧ inP p1 (nI 0) (nI 5))) (h1 : xs (5 * k + 1) = p0) (h2 : xs (5 * k + 2) = p1) (kk : ∀ (H : Heap) (locs : List Loc) (ls : Array Slot), LW D A s cI cR cC cJ cD x9 q h9 t9 o9 p9 m9 (B + 41) H locs → lv_has ls 10 [(0, .ref b), (1, .ref x9), (2, .ref (m9 0)), (3, .ref o9), (4, .ref p9), (5, .int (nI (5 * k)))] → W p l e room_1 s m args below meth c H locs (cells + 7) (slots + 5790) Q (F0 m 1875 ls [])) : W p l e room_1 s m args below meth c H locs cells slots Q (F0 m 975 ls []) := by
  obtain ⟨S, hz, hxe, hzq, hl9, hA, hX, hbl, hbA, hL⟩ := id F
  obtain ⟨hh, hRl, hHs, htx, hln, hpo, hpo2⟩ := id hLV
  have h6 : n7 ≤ 6 := Nat.le_trans hh.2.1 hh.2.2.1
  obtain ⟨hx, hb, hml, hown, hts⟩ := id S
  refine lv_aload_n hx hb dL_law_975 rfl (lv_at hl 1 rfl) ?_
  refine lv_aload_n hx hb dL_law_976 rfl (lv_at hl 0 rfl) ?_
  refine lv_iload hx hb dL_law_977 (lv_at hl 5 rfl) ?_
  refine lv_iconst (v := nI 1) hx hb dL_law_979 kc_iconst_1 ?_
  refine r_addN hx hb dL_law_980 ?_
  refine r_sld hx hb hX hbl hbA hL hw (i := (5 * k) + 1) (by omega) (v := p0) h1 dL_law_981 ?_
  refine lv_aload_n hx hb dL_law_982 rfl (lv_at hl 0 rfl) ?_
  refine lv_iload hx hb dL_law_983 (lv_at hl 5 rfl) ?_
  refine lv_iconst (v := nI 2) hx hb dL_law_985 kc_iconst_2 ?_
  refine r_addN hx hb dL_law_986 ?_
  refine r_sld hx hb hX hbl hbA hL hw (i := (5 * k) + 2) (by omega) (v := p1) h2 dL_law_987 ?_
  refine lv_aload_n hx hb dL_law_988 rfl (lv_at hl 3 rfl) ?_
  refine cpz_S (w1 := fun (u9 : Unit) => ([(x9, .inr (3, [.ref (q 0), .ref (h9 0), .ref (t9 0)]))] : va_W) ++ wS cI q st ++ wR cR h9 (fr7 ad n8) ol n7 ++ wT cC t9 tx ln po ki rp tg nu ++ ([(o9, .inl (cJ, 1, .inr (.inl fo)))] : va_W)) (pl := fun (u9 : Unit) => wP cI ad sv n8) (As := [.ref x9, .int p0, .int p1, .ref o9]) (rest := []) (wc := ([(x9, .inr (3, [.ref (q 0), .ref (h9 0), .ref (t9 0)]))] : va_W) ++ wS cI q st ++ wR cR h9 (fr7 ad n8) ol n7 ++ wT cC t9 tx ln po ki rp tg nu ++ ([(o9, .inl (cJ, 1, .inr (.inl fo)))] : va_W)) (wr := ([(p9, .inl (cD, 1, .inr (.inr (.inr (.inl fd)))))] : va_W) ++ wM cI m9 sa tx th n7 ln po2 lt fi sc nu2 ad2 rv) S hz hxe hzq (c_L_greatest_e1 l D (hl9 := hl9) (sz := H.size) (cI := cI) (cR := cR) (cC := cC) (x9 := x9) (q := q) (st := st) (h9 := h9) (ad := ad) (sv := sv) (ol := ol) (n7 := n7) (n8 := n8) (t9 := t9) (tx := tx) (ln := ln) (po := po) (ki := ki) (rp := rp) (tg := tg) (nu := nu) (cJ := cJ) (o9 := o9) (fo := fo) (p0 := p0) (p1 := p1) (hh := hh) (hv := hv)) (vx_cwSW 4 hts gL_law_L_greatest rfl rfl rfl (by decide +kernel) ⟨Nat.le_of_ble_eq_true rfl, Nat.le_of_ble_eq_true rfl⟩) hw hA [0, 1, 2, 3, 4, 5, 6, 7, 8, 9, 10, 11, 12] [13, 14, 15, 16] [0, 1, 2, 3] rfl rfl (k0 := 17) rfl (by decide) rfl rfl hl.1 (Nat.le_of_ble_eq_true rfl) ⟨(show cells + 1 ≤ room_1.cells by omega), (show slots + 6 ≤ room_1.slots by omega)⟩ rfl dL_law_989 (fun r_989 u_989 H locs e_989 hw => ?_)
  have hw : Wd D A [(cI, .int), (cR, .object RX1), (cC, .char), (cJ, .long), (cD, .double)] (([(x9, .inr (3, [.ref (q 0), .ref (h9 0), .ref (t9 0)]))] : va_W) ++ wS cI q st ++ wR cR h9 (fr7 ad n8) ol n7 ++ wT cC t9 tx ln po ki rp tg nu ++ ([(o9, .inl (cJ, 1, .inr (.inl fo)))] : va_W) ++ ([(p9, .inl (cD, 1, .inr (.inr (.inr (.inl fd)))))] : va_W) ++ wM cI m9 sa tx th n7 ln po2 lt fi sc nu2 ad2 rv ++ wP cI ad sv n8) s s.heap H locs := hw
  have e_989 : r_989 = nI 1 := e_989
  subst e_989
  refine lv_istore (lv' := [(6, .int (nI 1)), (0, .ref b), (1, .ref x9), (2, .ref (m9 0)), (3, .ref o9), (4, .ref p9), (5, .int (nI (5 * k)))]) hx hb dL_law_992 hl (by decide) rfl (fun ls hl => ?_)
  refine lv_aload_n hx hb dL_law_994 rfl (lv_at hl 3 rfl) ?_
  refine lv_aload_n hx hb dL_law_995 rfl (lv_at hl 1 rfl) ?_
  refine lv_iload hx hb dL_law_996 (lv_at hl 6 rfl) ?_
  refine lv_iconst (v := nI 1) hx hb dL_law_998 kc_iconst_1 ?_
  refine r_addN hx hb dL_law_999 ?_
  refine r_sld hx hb hX hbl hbA hL hw (i := (5 * k) + 1) (by omega) (v := p0) h1 dL_law_1000 ?_
  refine lv_aload_n hx hb dL_law_1001 rfl (lv_at hl 1 rfl) ?_
  refine lv_iload hx hb dL_law_1002 (lv_at hl 6 rfl) ?_
  refine lv_iconst (v := nI 2) hx hb dL_law_1004 kc_iconst_2 ?_
  refine r_addN hx hb dL_law_1005 ?_
  refine r_sld hx hb hX hbl hbA hL hw (i := (5 * k) + 2) (by omega) (v := p1) h2 dL_law_1006 ?_
  refine cp_Vi (As := [.int p0, .int p1]) (rest := []) (wc := wM cI m9 sa tx th n7 ln po2 lt fi sc nu2 ad2 rv) (wr := ([(x9, .inr (3, [.ref (q 0), .ref (h9 0), .ref (t9 0)]))] : va_W) ++ wS cI q st ++ wR cR h9 (fr7 ad n8) ol n7 ++ wT cC t9 tx ln po ki rp tg nu ++ ([(o9, .inl (cJ, 1, .inr (.inl fo)))] : va_W) ++ ([(p9, .inl (cD, 1, .inr (.inr (.inr (.inl fd)))))] : va_W)) S (c_X4_greatest_e1 l D (sz := H.size) (cI := cI) (m9 := m9) (sa := sa) (tx := tx) (th := th) (sv := n7) (ln := ln) (po := po2) (lt := lt) (fi := fi) (sc := sc) (nu := nu2) (ad := ad2) (rv := rv) (p0 := p0) (p1 := p1) (hv := hv)) (cwV 2 hts gL_law_X4_greatest rfl rfl rfl (by decide +kernel) ⟨Nat.le_of_ble_eq_true rfl, Nat.le_of_ble_eq_true rfl⟩) hw hA [14, 15, 16] [0, 1, 2, 3, 4, 5, 6, 7, 8, 9, 10, 11, 12, 13] [0] rfl rfl (k0 := 17) rfl (by decide) rfl 0 rfl rfl rfl hl.1 (Nat.le_of_ble_eq_true rfl) ⟨(show (cells + 1) + 0 ≤ room_1.cells by omega), (show (slots + 6) + 0 ≤ room_1.slots by omega)⟩ rfl dL_law_1007 (fun r_1007 u_1007 H locs e_1007 hw => ?_)
  have hw : Wd D A [(cI, .int), (cR, .object RX1), (cC, .char), (cJ, .long), (cD, .double)] (wM cI m9 sa tx (nI 1) n7 ln po2 lt fi sc nu2 ad2 rv ++ ([(x9, .inr (3, [.ref (q 0), .ref (h9 0), .ref (t9 0)]))] : va_W) ++ wS cI q st ++ wR cR h9 (fr7 ad n8) ol n7 ++ wT cC t9 tx ln po ki rp tg nu ++ ([(o9, .inl (cJ, 1, .inr (.inl fo)))] : va_W) ++ ([(p9, .inl (cD, 1, .inr (.inr (.inr (.inl fd)))))] : va_W) ++ wP cI ad sv n8) s s.heap H locs := hw
  have e_1007 : r_1007 = nI 0 := e_1007
  subst e_1007
  refine lv_istore (lv' := [(7, .int (nI 0)), (6, .int (nI 1)), (0, .ref b), (1, .ref x9), (2, .ref (m9 0)), (3, .ref o9), (4, .ref p9), (5, .int (nI (5 * k)))]) hx hb dL_law_1010 hl (by decide) rfl (fun ls hl => ?_)
  refine lv_aload_n hx hb dL_law_1012 rfl (lv_at hl 4 rfl) ?_
  refine cq_V (As := []) (rest := []) S (c_X4_thrown l D (cI := cI) (m9 := m9) (sa := sa) (tx := tx) (th := nI 1) (sv := n7) (ln := ln) (po := po2) (lt := lt) (fi := fi) (sc := sc) (nu := nu2) (ad := ad2) (rv := rv)) (cwV 0 hts gL_law_X4_thrown rfl rfl rfl (by decide +kernel) ⟨Nat.le_of_ble_eq_true rfl, Nat.le_of_ble_eq_true rfl⟩) (hw.q.sub [0, 1, 2] [0] rfl rfl) 0 rfl rfl rfl hl.1 (Nat.le_of_ble_eq_true rfl) ⟨(show (cells + 1) ≤ room_1.cells by omega), (show (slots + 6) ≤ room_1.slots by omega)⟩ rfl dL_law_1013 (fun r_1013 e_1013 => ?_)
  have e_1013 : r_1013 = (nI 1) := e_1013
  subst e_1013
  refine lv_iload hx hb dL_law_1016 (lv_at hl 1 rfl) ?_
  refine r_icmp_eqN (tgt := 1023) hx hb (by decide) (by decide) dL_law_1018 (by decide) (fun _ => ?_) (fun h => absurd h (by decide))
  refine lv_iload hx hb dL_law_1023 (lv_at hl 1 rfl) ?_
  refine lv_if_ne (tgt := 1040) hx hb dL_law_1025 (by decide) (fun _ => ?_) (fun h => absurd h (by decide))
  refine lv_goto (tgt := 1875) hx hb dL_law_1040 (by decide) ?_
  have hw : Wd D A [(cI, .int), (cR, .object RX1), (cC, .char), (cJ, .long), (cD, .double)] (([(x9, .inr (3, [.ref (q 0), .ref (h9 0), .ref (t9 0)]))] : va_W) ++ wS cI q st ++ wR cR h9 (fr7 ad n8) ol n7 ++ wT cC t9 tx ln po ki rp tg nu ++ ([(o9, .inl (cJ, 1, .inr (.inl fo)))] : va_W) ++ ([(p9, .inl (cD, 1, .inr (.inr (.inr (.inl fd)))))] : va_W) ++ wM cI m9 sa tx (nI 1) n7 ln po2 lt fi sc nu2 ad2 rv ++ wP cI ad sv n8) s s.heap H locs := hw.ord [3, 4, 5, 6, 7, 8, 9, 10, 11, 12, 13, 14, 15, 16, 0, 1, 2] (k0 := 17) rfl rfl (by decide)
  have hl : lv_has ls 10 [(0, .ref b), (1, .ref x9), (2, .ref (m9 0)), (3, .ref o9), (4, .ref p9), (5, .int (nI (5 * k)))] := lv_sub hl [2, 3, 4, 5, 6, 7] rfl
  refine W.widen (k := cells + 7) (n := slots + 5790) (by omega) (by omega) ?_
  exact kk H locs ls ⟨st, ad, sv, ol, n7, n8, tx, ln, po, ki, rp, tg, nu, fo, fd, sa, nI 1, po2, lt, fi, sc, nu2, ad2, rv, hw, LV_m hLV (by omega)⟩ hl
set_option maxHeartbeats 4000000 in
set_option maxRecDepth 100000 in
theorem law_counter_e1 {p : Program} {l : Launch} {e : Env} {s : State} {m : MethodId} {args : Array Value} {below : List Frame} {meth : Method} {c : Code} {Q : State → Prop} {D : va_G} {A : Nat → Prop} {b L : Nat} {xs : Nat → Int32} {cells slots : Nat} {cI cR cC cJ cD : ClassId} {x9 : Nat} {q h9 t9 : Nat → Nat} {o9 p9 : Nat} {m9 : Nat → Nat} {B k : Nat} (F : LF p l s m c args A b L xs) (hk5 : 5 * k + 5 ≤ L) (hB : B + 100 < 2 ^ 31) (hR : cells + 7 ≤ room_1.cells ∧ slots + 5790 ≤ room_1.slots) {st : St} {ad : Nat → Nat → Nat} {sv : Nat → St} {ol n7 n8 : Nat} {tx : Nat → Nat} {ln po : Nat} {ki rp tg nu : Int32} {fo : Nat → Int64} {fd : Nat → UInt64} {sa : Nat → Int32} {th : Int32} {po2 : Nat} {lt fi sc nu2 : Int32} {ad2 rv : Nat} {H : Heap} {locs : List Loc} (hw : Wd D A [(cI, .int), (cR, .object RX1), (cC, .char), (cJ, .long), (cD, .double)] ([(x9, .inr (3, [.ref (q 0), .ref (h9 0), .ref (t9 0)]))] ++ wS cI q st ++ wR cR h9 (fr7 ad n8) ol n7 ++ wT cC t9 tx ln po ki rp tg nu ++ [(o9, .inl (cJ, 1, .inr (.inl fo)))] ++ [(p9, .inl (cD, 1, .inr (.inr (.inr (.inl fd)))))] ++ wM cI m9 sa tx th n7 ln po2 lt fi sc nu2 ad2 rv ++ wP cI ad sv n8) s s.heap H locs) (hLV : LV st sv ol n7 n8 tx ln po sa po2 B) {ls : Array Slot} (hl : lv_has ls 10 [(0, .ref b), (1, .ref x9), (2, .ref (m9 0)), (3, .ref o9), (4, .ref p9), (5, .int (nI (5 * k)))]) {p0 p1 : Int32} (hv : ¬ (inP p0 (nI 0) (nI 3) ∧ inP p1 (nI 0) (nI 5))) (h1 : xs (5 * k + 1) = p0) (h2 : xs (5 * k + 2) = p1) (kk : ∀ (H : Heap) (locs : List Loc) (ls : Array Slot), LW D A s cI cR cC cJ cD x9 q h9 t9 o9 p9 m9 (B + 41) H locs → lv_has ls 10 [(0, .ref b), (1, .ref x9), (2, .ref (m9 0)), (3, .ref o9), (4, .ref p9), (5, .int (nI (5 * k)))] → W p l e room_1 s m args below meth c H locs (cells + 7) (slots + 5790) Q (F0 m 1875 ls [])) : W p l e room_1 s m args below meth c H locs cells slots Q (F0 m 1043 ls []) := by
  obtain ⟨S, hz, hxe, hzq, hl9, hA, hX, hbl, hbA, hL⟩ := id F
  obtain ⟨hh, hRl, hHs, htx, hln, hpo, hpo2⟩ := id hLV
  have h6 : n7 ≤ 6 := Nat.le_trans hh.2.1 hh.2.2.1
  obtain ⟨hx, hb, hml, hown, hts⟩ := id S
  refine lv_aload_n hx hb dL_law_1043 rfl (lv_at hl 1 rfl) ?_
  refine lv_aload_n hx hb dL_law_1044 rfl (lv_at hl 0 rfl) ?_
  refine lv_iload hx hb dL_law_1045 (lv_at hl 5 rfl) ?_
  refine lv_iconst (v := nI 1) hx hb dL_law_1047 kc_iconst_1 ?_
  refine r_addN hx hb dL_law_1048 ?_
  refine r_sld hx hb hX hbl hbA hL hw (i := (5 * k) + 1) (by omega) (v := p0) h1 dL_law_1049 ?_
  refine lv_aload_n hx hb dL_law_1050 rfl (lv_at hl 0 rfl) ?_
  refine lv_iload hx hb dL_law_1051 (lv_at hl 5 rfl) ?_
  refine lv_iconst (v := nI 2) hx hb dL_law_1053 kc_iconst_2 ?_
  refine r_addN hx hb dL_law_1054 ?_
  refine r_sld hx hb hX hbl hbA hL hw (i := (5 * k) + 2) (by omega) (v := p1) h2 dL_law_1055 ?_
  refine lv_aload_n hx hb dL_law_1056 rfl (lv_at hl 3 rfl) ?_
  refine cpz_S (w1 := fun (u9 : Unit) => ([(x9, .inr (3, [.ref (q 0), .ref (h9 0), .ref (t9 0)]))] : va_W) ++ wS cI q st ++ wR cR h9 (fr7 ad n8) ol n7 ++ wT cC t9 tx ln po ki rp tg nu ++ ([(o9, .inl (cJ, 1, .inr (.inl fo)))] : va_W)) (pl := fun (u9 : Unit) => wP cI ad sv n8) (As := [.ref x9, .int p0, .int p1, .ref o9]) (rest := []) (wc := ([(x9, .inr (3, [.ref (q 0), .ref (h9 0), .ref (t9 0)]))] : va_W) ++ wS cI q st ++ wR cR h9 (fr7 ad n8) ol n7 ++ wT cC t9 tx ln po ki rp tg nu ++ ([(o9, .inl (cJ, 1, .inr (.inl fo)))] : va_W)) (wr := ([(p9, .inl (cD, 1, .inr (.inr (.inr (.inl fd)))))] : va_W) ++ wM cI m9 sa tx th n7 ln po2 lt fi sc nu2 ad2 rv) S hz hxe hzq (c_L_counter_e1 l D (hl9 := hl9) (sz := H.size) (cI := cI) (cR := cR) (cC := cC) (x9 := x9) (q := q) (st := st) (h9 := h9) (ad := ad) (sv := sv) (ol := ol) (n7 := n7) (n8 := n8) (t9 := t9) (tx := tx) (ln := ln) (po := po) (ki := ki) (rp := rp) (tg := tg) (nu := nu) (cJ := cJ) (o9 := o9) (fo := fo) (p0 := p0) (p1 := p1) (hh := hh) (hv := hv)) (vx_cwSW 4 hts gL_law_L_counter rfl rfl rfl (by decide +kernel) ⟨Nat.le_of_ble_eq_true rfl, Nat.le_of_ble_eq_true rfl⟩) hw hA [0, 1, 2, 3, 4, 5, 6, 7, 8, 9, 10, 11, 12] [13, 14, 15, 16] [0, 1, 2, 3] rfl rfl (k0 := 17) rfl (by decide) rfl rfl hl.1 (Nat.le_of_ble_eq_true rfl) ⟨(show cells + 1 ≤ room_1.cells by omega), (show slots + 6 ≤ room_1.slots by omega)⟩ rfl dL_law_1057 (fun r_1057 u_1057 H locs e_1057 hw => ?_)
  have hw : Wd D A [(cI, .int), (cR, .object RX1), (cC, .char), (cJ, .long), (cD, .double)] (([(x9, .inr (3, [.ref (q 0), .ref (h9 0), .ref (t9 0)]))] : va_W) ++ wS cI q st ++ wR cR h9 (fr7 ad n8) ol n7 ++ wT cC t9 tx ln po ki rp tg nu ++ ([(o9, .inl (cJ, 1, .inr (.inl fo)))] : va_W) ++ ([(p9, .inl (cD, 1, .inr (.inr (.inr (.inl fd)))))] : va_W) ++ wM cI m9 sa tx th n7 ln po2 lt fi sc nu2 ad2 rv ++ wP cI ad sv n8) s s.heap H locs := hw
  have e_1057 : r_1057 = nI 1 := e_1057
  subst e_1057
  refine lv_istore (lv' := [(6, .int (nI 1)), (0, .ref b), (1, .ref x9), (2, .ref (m9 0)), (3, .ref o9), (4, .ref p9), (5, .int (nI (5 * k)))]) hx hb dL_law_1060 hl (by decide) rfl (fun ls hl => ?_)
  refine lv_aload_n hx hb dL_law_1062 rfl (lv_at hl 3 rfl) ?_
  refine lv_aload_n hx hb dL_law_1063 rfl (lv_at hl 1 rfl) ?_
  refine lv_iload hx hb dL_law_1064 (lv_at hl 6 rfl) ?_
  refine lv_iconst (v := nI 1) hx hb dL_law_1066 kc_iconst_1 ?_
  refine r_addN hx hb dL_law_1067 ?_
  refine r_sld hx hb hX hbl hbA hL hw (i := (5 * k) + 1) (by omega) (v := p0) h1 dL_law_1068 ?_
  refine lv_aload_n hx hb dL_law_1069 rfl (lv_at hl 1 rfl) ?_
  refine lv_iload hx hb dL_law_1070 (lv_at hl 6 rfl) ?_
  refine lv_iconst (v := nI 2) hx hb dL_law_1072 kc_iconst_2 ?_
  refine r_addN hx hb dL_law_1073 ?_
  refine r_sld hx hb hX hbl hbA hL hw (i := (5 * k) + 2) (by omega) (v := p1) h2 dL_law_1074 ?_
  refine cp_Vi (As := [.int p0, .int p1]) (rest := []) (wc := wM cI m9 sa tx th n7 ln po2 lt fi sc nu2 ad2 rv) (wr := ([(x9, .inr (3, [.ref (q 0), .ref (h9 0), .ref (t9 0)]))] : va_W) ++ wS cI q st ++ wR cR h9 (fr7 ad n8) ol n7 ++ wT cC t9 tx ln po ki rp tg nu ++ ([(o9, .inl (cJ, 1, .inr (.inl fo)))] : va_W) ++ ([(p9, .inl (cD, 1, .inr (.inr (.inr (.inl fd)))))] : va_W)) S (c_X4_counter_e1 l D (sz := H.size) (cI := cI) (m9 := m9) (sa := sa) (tx := tx) (th := th) (sv := n7) (ln := ln) (po := po2) (lt := lt) (fi := fi) (sc := sc) (nu := nu2) (ad := ad2) (rv := rv) (p0 := p0) (p1 := p1) (hv := hv)) (cwV 2 hts gL_law_X4_counter rfl rfl rfl (by decide +kernel) ⟨Nat.le_of_ble_eq_true rfl, Nat.le_of_ble_eq_true rfl⟩) hw hA [14, 15, 16] [0, 1, 2, 3, 4, 5, 6, 7, 8, 9, 10, 11, 12, 13] [0] rfl rfl (k0 := 17) rfl (by decide) rfl 0 rfl rfl rfl hl.1 (Nat.le_of_ble_eq_true rfl) ⟨(show (cells + 1) + 0 ≤ room_1.cells by omega), (show (slots + 6) + 0 ≤ room_1.slots by omega)⟩ rfl dL_law_1075 (fun r_1075 u_1075 H locs e_1075 hw => ?_)
  have hw : Wd D A [(cI, .int), (cR, .object RX1), (cC, .char), (cJ, .long), (cD, .double)] (wM cI m9 sa tx (nI 1) n7 ln po2 lt fi sc nu2 ad2 rv ++ ([(x9, .inr (3, [.ref (q 0), .ref (h9 0), .ref (t9 0)]))] : va_W) ++ wS cI q st ++ wR cR h9 (fr7 ad n8) ol n7 ++ wT cC t9 tx ln po ki rp tg nu ++ ([(o9, .inl (cJ, 1, .inr (.inl fo)))] : va_W) ++ ([(p9, .inl (cD, 1, .inr (.inr (.inr (.inl fd)))))] : va_W) ++ wP cI ad sv n8) s s.heap H locs := hw
  have e_1075 : r_1075 = nI 0 := e_1075
  subst e_1075
  refine lv_istore (lv' := [(7, .int (nI 0)), (6, .int (nI 1)), (0, .ref b), (1, .ref x9), (2, .ref (m9 0)), (3, .ref o9), (4, .ref p9), (5, .int (nI (5 * k)))]) hx hb dL_law_1078 hl (by decide) rfl (fun ls hl => ?_)
  refine lv_aload_n hx hb dL_law_1080 rfl (lv_at hl 4 rfl) ?_
  refine cq_V (As := []) (rest := []) S (c_X4_thrown l D (cI := cI) (m9 := m9) (sa := sa) (tx := tx) (th := nI 1) (sv := n7) (ln := ln) (po := po2) (lt := lt) (fi := fi) (sc := sc) (nu := nu2) (ad := ad2) (rv := rv)) (cwV 0 hts gL_law_X4_thrown rfl rfl rfl (by decide +kernel) ⟨Nat.le_of_ble_eq_true rfl, Nat.le_of_ble_eq_true rfl⟩) (hw.q.sub [0, 1, 2] [0] rfl rfl) 0 rfl rfl rfl hl.1 (Nat.le_of_ble_eq_true rfl) ⟨(show (cells + 1) ≤ room_1.cells by omega), (show (slots + 6) ≤ room_1.slots by omega)⟩ rfl dL_law_1081 (fun r_1081 e_1081 => ?_)
  have e_1081 : r_1081 = (nI 1) := e_1081
  subst e_1081
  refine lv_iload hx hb dL_law_1084 (lv_at hl 1 rfl) ?_
  refine r_icmp_eqN (tgt := 1091) hx hb (by decide) (by decide) dL_law_1086 (by decide) (fun _ => ?_) (fun h => absurd h (by decide))
  refine lv_iload hx hb dL_law_1091 (lv_at hl 1 rfl) ?_
  refine lv_if_ne (tgt := 1108) hx hb dL_law_1093 (by decide) (fun _ => ?_) (fun h => absurd h (by decide))
  refine lv_goto (tgt := 1875) hx hb dL_law_1108 (by decide) ?_
  have hw : Wd D A [(cI, .int), (cR, .object RX1), (cC, .char), (cJ, .long), (cD, .double)] (([(x9, .inr (3, [.ref (q 0), .ref (h9 0), .ref (t9 0)]))] : va_W) ++ wS cI q st ++ wR cR h9 (fr7 ad n8) ol n7 ++ wT cC t9 tx ln po ki rp tg nu ++ ([(o9, .inl (cJ, 1, .inr (.inl fo)))] : va_W) ++ ([(p9, .inl (cD, 1, .inr (.inr (.inr (.inl fd)))))] : va_W) ++ wM cI m9 sa tx (nI 1) n7 ln po2 lt fi sc nu2 ad2 rv ++ wP cI ad sv n8) s s.heap H locs := hw.ord [3, 4, 5, 6, 7, 8, 9, 10, 11, 12, 13, 14, 15, 16, 0, 1, 2] (k0 := 17) rfl rfl (by decide)
  have hl : lv_has ls 10 [(0, .ref b), (1, .ref x9), (2, .ref (m9 0)), (3, .ref o9), (4, .ref p9), (5, .int (nI (5 * k)))] := lv_sub hl [2, 3, 4, 5, 6, 7] rfl
  refine W.widen (k := cells + 7) (n := slots + 5790) (by omega) (by omega) ?_
  exact kk H locs ls ⟨st, ad, sv, ol, n7, n8, tx, ln, po, ki, rp, tg, nu, fo, fd, sa, nI 1, po2, lt, fi, sc, nu2, ad2, rv, hw, LV_m hLV (by omega)⟩ hl
set_option maxHeartbeats 4000000 in
set_option maxRecDepth 100000 in
theorem law_elements_e1 {p : Program} {l : Launch} {e : Env} {s : State} {m : MethodId} {args : Array Value} {below : List Frame} {meth : Method} {c : Code} {Q : State → Prop} {D : va_G} {A : Nat → Prop} {b L : Nat} {xs : Nat → Int32} {cells slots : Nat} {cI cR cC cJ cD : ClassId} {x9 : Nat} {q h9 t9 : Nat → Nat} {o9 p9 : Nat} {m9 : Nat → Nat} {B k : Nat} (F : LF p l s m c args A b L xs) (hk5 : 5 * k + 5 ≤ L) (hB : B + 100 < 2 ^ 31) (hR : cells + 7 ≤ room_1.cells ∧ slots + 5790 ≤ room_1.slots) {st : St} {ad : Nat → Nat → Nat} {sv : Nat → St} {ol n7 n8 : Nat} {tx : Nat → Nat} {ln po : Nat} {ki rp tg nu : Int32} {fo : Nat → Int64} {fd : Nat → UInt64} {sa : Nat → Int32} {th : Int32} {po2 : Nat} {lt fi sc nu2 : Int32} {ad2 rv : Nat} {H : Heap} {locs : List Loc} (hw : Wd D A [(cI, .int), (cR, .object RX1), (cC, .char), (cJ, .long), (cD, .double)] ([(x9, .inr (3, [.ref (q 0), .ref (h9 0), .ref (t9 0)]))] ++ wS cI q st ++ wR cR h9 (fr7 ad n8) ol n7 ++ wT cC t9 tx ln po ki rp tg nu ++ [(o9, .inl (cJ, 1, .inr (.inl fo)))] ++ [(p9, .inl (cD, 1, .inr (.inr (.inr (.inl fd)))))] ++ wM cI m9 sa tx th n7 ln po2 lt fi sc nu2 ad2 rv ++ wP cI ad sv n8) s s.heap H locs) (hLV : LV st sv ol n7 n8 tx ln po sa po2 B) {ls : Array Slot} (hl : lv_has ls 10 [(0, .ref b), (1, .ref x9), (2, .ref (m9 0)), (3, .ref o9), (4, .ref p9), (5, .int (nI (5 * k)))]) {p0 p1 : Int32} (hv : ¬ (inP p0 (nI 0) (nI 3) ∧ inP p1 (nI 0) (nI 5))) (h1 : xs (5 * k + 1) = p0) (h2 : xs (5 * k + 2) = p1) (kk : ∀ (H : Heap) (locs : List Loc) (ls : Array Slot), LW D A s cI cR cC cJ cD x9 q h9 t9 o9 p9 m9 (B + 41) H locs → lv_has ls 10 [(0, .ref b), (1, .ref x9), (2, .ref (m9 0)), (3, .ref o9), (4, .ref p9), (5, .int (nI (5 * k)))] → W p l e room_1 s m args below meth c H locs (cells + 7) (slots + 5790) Q (F0 m 1875 ls [])) : W p l e room_1 s m args below meth c H locs cells slots Q (F0 m 1111 ls []) := by
  obtain ⟨S, hz, hxe, hzq, hl9, hA, hX, hbl, hbA, hL⟩ := id F
  obtain ⟨hh, hRl, hHs, htx, hln, hpo, hpo2⟩ := id hLV
  have h6 : n7 ≤ 6 := Nat.le_trans hh.2.1 hh.2.2.1
  obtain ⟨hx, hb, hml, hown, hts⟩ := id S
  refine lv_aload_n hx hb dL_law_1111 rfl (lv_at hl 1 rfl) ?_
  refine lv_aload_n hx hb dL_law_1112 rfl (lv_at hl 0 rfl) ?_
  refine lv_iload hx hb dL_law_1113 (lv_at hl 5 rfl) ?_
  refine lv_iconst (v := nI 1) hx hb dL_law_1115 kc_iconst_1 ?_
  refine r_addN hx hb dL_law_1116 ?_
  refine r_sld hx hb hX hbl hbA hL hw (i := (5 * k) + 1) (by omega) (v := p0) h1 dL_law_1117 ?_
  refine lv_aload_n hx hb dL_law_1118 rfl (lv_at hl 0 rfl) ?_
  refine lv_iload hx hb dL_law_1119 (lv_at hl 5 rfl) ?_
  refine lv_iconst (v := nI 2) hx hb dL_law_1121 kc_iconst_2 ?_
  refine r_addN hx hb dL_law_1122 ?_
  refine r_sld hx hb hX hbl hbA hL hw (i := (5 * k) + 2) (by omega) (v := p1) h2 dL_law_1123 ?_
  refine lv_aload_n hx hb dL_law_1124 rfl (lv_at hl 3 rfl) ?_
  refine cpz_S (w1 := fun (u9 : Unit) => ([(x9, .inr (3, [.ref (q 0), .ref (h9 0), .ref (t9 0)]))] : va_W) ++ wS cI q st ++ wR cR h9 (fr7 ad n8) ol n7 ++ wT cC t9 tx ln po ki rp tg nu ++ ([(o9, .inl (cJ, 1, .inr (.inl fo)))] : va_W)) (pl := fun (u9 : Unit) => wP cI ad sv n8) (As := [.ref x9, .int p0, .int p1, .ref o9]) (rest := []) (wc := ([(x9, .inr (3, [.ref (q 0), .ref (h9 0), .ref (t9 0)]))] : va_W) ++ wS cI q st ++ wR cR h9 (fr7 ad n8) ol n7 ++ wT cC t9 tx ln po ki rp tg nu ++ ([(o9, .inl (cJ, 1, .inr (.inl fo)))] : va_W)) (wr := ([(p9, .inl (cD, 1, .inr (.inr (.inr (.inl fd)))))] : va_W) ++ wM cI m9 sa tx th n7 ln po2 lt fi sc nu2 ad2 rv) S hz hxe hzq (c_L_elements_e1 l D (hl9 := hl9) (sz := H.size) (cI := cI) (cR := cR) (cC := cC) (x9 := x9) (q := q) (st := st) (h9 := h9) (ad := ad) (sv := sv) (ol := ol) (n7 := n7) (n8 := n8) (t9 := t9) (tx := tx) (ln := ln) (po := po) (ki := ki) (rp := rp) (tg := tg) (nu := nu) (cJ := cJ) (o9 := o9) (fo := fo) (p0 := p0) (p1 := p1) (hh := hh) (hv := hv)) (vx_cwSW 4 hts gL_law_L_elements rfl rfl rfl (by decide +kernel) ⟨Nat.le_of_ble_eq_true rfl, Nat.le_of_ble_eq_true rfl⟩) hw hA [0, 1, 2, 3, 4, 5, 6, 7, 8, 9, 10, 11, 12] [13, 14, 15, 16] [0, 1, 2, 3] rfl rfl (k0 := 17) rfl (by decide) rfl rfl hl.1 (Nat.le_of_ble_eq_true rfl) ⟨(show cells + 1 ≤ room_1.cells by omega), (show slots + 6 ≤ room_1.slots by omega)⟩ rfl dL_law_1125 (fun r_1125 u_1125 H locs e_1125 hw => ?_)
  have hw : Wd D A [(cI, .int), (cR, .object RX1), (cC, .char), (cJ, .long), (cD, .double)] (([(x9, .inr (3, [.ref (q 0), .ref (h9 0), .ref (t9 0)]))] : va_W) ++ wS cI q st ++ wR cR h9 (fr7 ad n8) ol n7 ++ wT cC t9 tx ln po ki rp tg nu ++ ([(o9, .inl (cJ, 1, .inr (.inl fo)))] : va_W) ++ ([(p9, .inl (cD, 1, .inr (.inr (.inr (.inl fd)))))] : va_W) ++ wM cI m9 sa tx th n7 ln po2 lt fi sc nu2 ad2 rv ++ wP cI ad sv n8) s s.heap H locs := hw
  have e_1125 : r_1125 = nI 1 := e_1125
  subst e_1125
  refine lv_istore (lv' := [(6, .int (nI 1)), (0, .ref b), (1, .ref x9), (2, .ref (m9 0)), (3, .ref o9), (4, .ref p9), (5, .int (nI (5 * k)))]) hx hb dL_law_1128 hl (by decide) rfl (fun ls hl => ?_)
  refine lv_aload_n hx hb dL_law_1130 rfl (lv_at hl 3 rfl) ?_
  refine lv_aload_n hx hb dL_law_1131 rfl (lv_at hl 1 rfl) ?_
  refine lv_iload hx hb dL_law_1132 (lv_at hl 6 rfl) ?_
  refine lv_iconst (v := nI 1) hx hb dL_law_1134 kc_iconst_1 ?_
  refine r_addN hx hb dL_law_1135 ?_
  refine r_sld hx hb hX hbl hbA hL hw (i := (5 * k) + 1) (by omega) (v := p0) h1 dL_law_1136 ?_
  refine lv_aload_n hx hb dL_law_1137 rfl (lv_at hl 1 rfl) ?_
  refine lv_iload hx hb dL_law_1138 (lv_at hl 6 rfl) ?_
  refine lv_iconst (v := nI 2) hx hb dL_law_1140 kc_iconst_2 ?_
  refine r_addN hx hb dL_law_1141 ?_
  refine r_sld hx hb hX hbl hbA hL hw (i := (5 * k) + 2) (by omega) (v := p1) h2 dL_law_1142 ?_
  refine cp_Vi (As := [.int p0, .int p1]) (rest := []) (wc := wM cI m9 sa tx th n7 ln po2 lt fi sc nu2 ad2 rv) (wr := ([(x9, .inr (3, [.ref (q 0), .ref (h9 0), .ref (t9 0)]))] : va_W) ++ wS cI q st ++ wR cR h9 (fr7 ad n8) ol n7 ++ wT cC t9 tx ln po ki rp tg nu ++ ([(o9, .inl (cJ, 1, .inr (.inl fo)))] : va_W) ++ ([(p9, .inl (cD, 1, .inr (.inr (.inr (.inl fd)))))] : va_W)) S (c_X4_elements_e1 l D (sz := H.size) (cI := cI) (m9 := m9) (sa := sa) (tx := tx) (th := th) (sv := n7) (ln := ln) (po := po2) (lt := lt) (fi := fi) (sc := sc) (nu := nu2) (ad := ad2) (rv := rv) (p0 := p0) (p1 := p1) (hv := hv)) (cwV 2 hts gL_law_X4_elements rfl rfl rfl (by decide +kernel) ⟨Nat.le_of_ble_eq_true rfl, Nat.le_of_ble_eq_true rfl⟩) hw hA [14, 15, 16] [0, 1, 2, 3, 4, 5, 6, 7, 8, 9, 10, 11, 12, 13] [0] rfl rfl (k0 := 17) rfl (by decide) rfl 0 rfl rfl rfl hl.1 (Nat.le_of_ble_eq_true rfl) ⟨(show (cells + 1) + 0 ≤ room_1.cells by omega), (show (slots + 6) + 0 ≤ room_1.slots by omega)⟩ rfl dL_law_1143 (fun r_1143 u_1143 H locs e_1143 hw => ?_)
  have hw : Wd D A [(cI, .int), (cR, .object RX1), (cC, .char), (cJ, .long), (cD, .double)] (wM cI m9 sa tx (nI 1) n7 ln po2 lt fi sc nu2 ad2 rv ++ ([(x9, .inr (3, [.ref (q 0), .ref (h9 0), .ref (t9 0)]))] : va_W) ++ wS cI q st ++ wR cR h9 (fr7 ad n8) ol n7 ++ wT cC t9 tx ln po ki rp tg nu ++ ([(o9, .inl (cJ, 1, .inr (.inl fo)))] : va_W) ++ ([(p9, .inl (cD, 1, .inr (.inr (.inr (.inl fd)))))] : va_W) ++ wP cI ad sv n8) s s.heap H locs := hw
  have e_1143 : r_1143 = nI 0 := e_1143
  subst e_1143
  refine lv_istore (lv' := [(7, .int (nI 0)), (6, .int (nI 1)), (0, .ref b), (1, .ref x9), (2, .ref (m9 0)), (3, .ref o9), (4, .ref p9), (5, .int (nI (5 * k)))]) hx hb dL_law_1146 hl (by decide) rfl (fun ls hl => ?_)
  refine lv_aload_n hx hb dL_law_1148 rfl (lv_at hl 4 rfl) ?_
  refine cq_V (As := []) (rest := []) S (c_X4_thrown l D (cI := cI) (m9 := m9) (sa := sa) (tx := tx) (th := nI 1) (sv := n7) (ln := ln) (po := po2) (lt := lt) (fi := fi) (sc := sc) (nu := nu2) (ad := ad2) (rv := rv)) (cwV 0 hts gL_law_X4_thrown rfl rfl rfl (by decide +kernel) ⟨Nat.le_of_ble_eq_true rfl, Nat.le_of_ble_eq_true rfl⟩) (hw.q.sub [0, 1, 2] [0] rfl rfl) 0 rfl rfl rfl hl.1 (Nat.le_of_ble_eq_true rfl) ⟨(show (cells + 1) ≤ room_1.cells by omega), (show (slots + 6) ≤ room_1.slots by omega)⟩ rfl dL_law_1149 (fun r_1149 e_1149 => ?_)
  have e_1149 : r_1149 = (nI 1) := e_1149
  subst e_1149
  refine lv_iload hx hb dL_law_1152 (lv_at hl 1 rfl) ?_
  refine r_icmp_eqN (tgt := 1159) hx hb (by decide) (by decide) dL_law_1154 (by decide) (fun _ => ?_) (fun h => absurd h (by decide))
  refine lv_iload hx hb dL_law_1159 (lv_at hl 1 rfl) ?_
  refine lv_if_ne (tgt := 1176) hx hb dL_law_1161 (by decide) (fun _ => ?_) (fun h => absurd h (by decide))
  refine lv_goto (tgt := 1875) hx hb dL_law_1176 (by decide) ?_
  have hw : Wd D A [(cI, .int), (cR, .object RX1), (cC, .char), (cJ, .long), (cD, .double)] (([(x9, .inr (3, [.ref (q 0), .ref (h9 0), .ref (t9 0)]))] : va_W) ++ wS cI q st ++ wR cR h9 (fr7 ad n8) ol n7 ++ wT cC t9 tx ln po ki rp tg nu ++ ([(o9, .inl (cJ, 1, .inr (.inl fo)))] : va_W) ++ ([(p9, .inl (cD, 1, .inr (.inr (.inr (.inl fd)))))] : va_W) ++ wM cI m9 sa tx (nI 1) n7 ln po2 lt fi sc nu2 ad2 rv ++ wP cI ad sv n8) s s.heap H locs := hw.ord [3, 4, 5, 6, 7, 8, 9, 10, 11, 12, 13, 14, 15, 16, 0, 1, 2] (k0 := 17) rfl rfl (by decide)
  have hl : lv_has ls 10 [(0, .ref b), (1, .ref x9), (2, .ref (m9 0)), (3, .ref o9), (4, .ref p9), (5, .int (nI (5 * k)))] := lv_sub hl [2, 3, 4, 5, 6, 7] rfl
  refine W.widen (k := cells + 7) (n := slots + 5790) (by omega) (by omega) ?_
  exact kk H locs ls ⟨st, ad, sv, ol, n7, n8, tx, ln, po, ki, rp, tg, nu, fo, fd, sa, nI 1, po2, lt, fi, sc, nu2, ad2, rv, hw, LV_m hLV (by omega)⟩ hl
set_option maxHeartbeats 4000000 in
set_option maxRecDepth 100000 in
theorem law_exists_e1 {p : Program} {l : Launch} {e : Env} {s : State} {m : MethodId} {args : Array Value} {below : List Frame} {meth : Method} {c : Code} {Q : State → Prop} {D : va_G} {A : Nat → Prop} {b L : Nat} {xs : Nat → Int32} {cells slots : Nat} {cI cR cC cJ cD : ClassId} {x9 : Nat} {q h9 t9 : Nat → Nat} {o9 p9 : Nat} {m9 : Nat → Nat} {B k : Nat} (F : LF p l s m c args A b L xs) (hk5 : 5 * k + 5 ≤ L) (hB : B + 100 < 2 ^ 31) (hR : cells + 7 ≤ room_1.cells ∧ slots + 5790 ≤ room_1.slots) {st : St} {ad : Nat → Nat → Nat} {sv : Nat → St} {ol n7 n8 : Nat} {tx : Nat → Nat} {ln po : Nat} {ki rp tg nu : Int32} {fo : Nat → Int64} {fd : Nat → UInt64} {sa : Nat → Int32} {th : Int32} {po2 : Nat} {lt fi sc nu2 : Int32} {ad2 rv : Nat} {H : Heap} {locs : List Loc} (hw : Wd D A [(cI, .int), (cR, .object RX1), (cC, .char), (cJ, .long), (cD, .double)] ([(x9, .inr (3, [.ref (q 0), .ref (h9 0), .ref (t9 0)]))] ++ wS cI q st ++ wR cR h9 (fr7 ad n8) ol n7 ++ wT cC t9 tx ln po ki rp tg nu ++ [(o9, .inl (cJ, 1, .inr (.inl fo)))] ++ [(p9, .inl (cD, 1, .inr (.inr (.inr (.inl fd)))))] ++ wM cI m9 sa tx th n7 ln po2 lt fi sc nu2 ad2 rv ++ wP cI ad sv n8) s s.heap H locs) (hLV : LV st sv ol n7 n8 tx ln po sa po2 B) {ls : Array Slot} (hl : lv_has ls 10 [(0, .ref b), (1, .ref x9), (2, .ref (m9 0)), (3, .ref o9), (4, .ref p9), (5, .int (nI (5 * k)))]) {p0 p1 : Int32} (hv : ¬ (inP p0 (nI 0) (nI 3) ∧ inP p1 (nI 0) (nI 5))) (h1 : xs (5 * k + 1) = p0) (h2 : xs (5 * k + 2) = p1) (kk : ∀ (H : Heap) (locs : List Loc) (ls : Array Slot), LW D A s cI cR cC cJ cD x9 q h9 t9 o9 p9 m9 (B + 41) H locs → lv_has ls 10 [(0, .ref b), (1, .ref x9), (2, .ref (m9 0)), (3, .ref o9), (4, .ref p9), (5, .int (nI (5 * k)))] → W p l e room_1 s m args below meth c H locs (cells + 7) (slots + 5790) Q (F0 m 1875 ls [])) : W p l e room_1 s m args below meth c H locs cells slots Q (F0 m 1259 ls []) := by
  obtain ⟨S, hz, hxe, hzq, hl9, hA, hX, hbl, hbA, hL⟩ := id F
  obtain ⟨hh, hRl, hHs, htx, hln, hpo, hpo2⟩ := id hLV
  have h6 : n7 ≤ 6 := Nat.le_trans hh.2.1 hh.2.2.1
  obtain ⟨hx, hb, hml, hown, hts⟩ := id S
  refine lv_aload_n hx hb dL_law_1259 rfl (lv_at hl 1 rfl) ?_
  refine lv_aload_n hx hb dL_law_1260 rfl (lv_at hl 0 rfl) ?_
  refine lv_iload hx hb dL_law_1261 (lv_at hl 5 rfl) ?_
  refine lv_iconst (v := nI 1) hx hb dL_law_1263 kc_iconst_1 ?_
  refine r_addN hx hb dL_law_1264 ?_
  refine r_sld hx hb hX hbl hbA hL hw (i := (5 * k) + 1) (by omega) (v := p0) h1 dL_law_1265 ?_
  refine lv_aload_n hx hb dL_law_1266 rfl (lv_at hl 0 rfl) ?_
  refine lv_iload hx hb dL_law_1267 (lv_at hl 5 rfl) ?_
  refine lv_iconst (v := nI 2) hx hb dL_law_1269 kc_iconst_2 ?_
  refine r_addN hx hb dL_law_1270 ?_
  refine r_sld hx hb hX hbl hbA hL hw (i := (5 * k) + 2) (by omega) (v := p1) h2 dL_law_1271 ?_
  refine lv_aload_n hx hb dL_law_1272 rfl (lv_at hl 3 rfl) ?_
  refine cpz_S (w1 := fun (u9 : Unit) => ([(x9, .inr (3, [.ref (q 0), .ref (h9 0), .ref (t9 0)]))] : va_W) ++ wS cI q st ++ wR cR h9 (fr7 ad n8) ol n7 ++ wT cC t9 tx ln po ki rp tg nu ++ ([(o9, .inl (cJ, 1, .inr (.inl fo)))] : va_W)) (pl := fun (u9 : Unit) => wP cI ad sv n8) (As := [.ref x9, .int p0, .int p1, .ref o9]) (rest := []) (wc := ([(x9, .inr (3, [.ref (q 0), .ref (h9 0), .ref (t9 0)]))] : va_W) ++ wS cI q st ++ wR cR h9 (fr7 ad n8) ol n7 ++ wT cC t9 tx ln po ki rp tg nu ++ ([(o9, .inl (cJ, 1, .inr (.inl fo)))] : va_W)) (wr := ([(p9, .inl (cD, 1, .inr (.inr (.inr (.inl fd)))))] : va_W) ++ wM cI m9 sa tx th n7 ln po2 lt fi sc nu2 ad2 rv) S hz hxe hzq (c_L_exists_e1 l D (hl9 := hl9) (sz := H.size) (cI := cI) (cR := cR) (cC := cC) (x9 := x9) (q := q) (st := st) (h9 := h9) (ad := ad) (sv := sv) (ol := ol) (n7 := n7) (n8 := n8) (t9 := t9) (tx := tx) (ln := ln) (po := po) (ki := ki) (rp := rp) (tg := tg) (nu := nu) (cJ := cJ) (o9 := o9) (fo := fo) (p0 := p0) (p1 := p1) (hh := hh) (hv := hv)) (vx_cwSW 4 hts gL_law_L_exists rfl rfl rfl (by decide +kernel) ⟨Nat.le_of_ble_eq_true rfl, Nat.le_of_ble_eq_true rfl⟩) hw hA [0, 1, 2, 3, 4, 5, 6, 7, 8, 9, 10, 11, 12] [13, 14, 15, 16] [0, 1, 2, 3] rfl rfl (k0 := 17) rfl (by decide) rfl rfl hl.1 (Nat.le_of_ble_eq_true rfl) ⟨(show cells + 1 ≤ room_1.cells by omega), (show slots + 6 ≤ room_1.slots by omega)⟩ rfl dL_law_1273 (fun r_1273 u_1273 H locs e_1273 hw => ?_)
  have hw : Wd D A [(cI, .int), (cR, .object RX1), (cC, .char), (cJ, .long), (cD, .double)] (([(x9, .inr (3, [.ref (q 0), .ref (h9 0), .ref (t9 0)]))] : va_W) ++ wS cI q st ++ wR cR h9 (fr7 ad n8) ol n7 ++ wT cC t9 tx ln po ki rp tg nu ++ ([(o9, .inl (cJ, 1, .inr (.inl fo)))] : va_W) ++ ([(p9, .inl (cD, 1, .inr (.inr (.inr (.inl fd)))))] : va_W) ++ wM cI m9 sa tx th n7 ln po2 lt fi sc nu2 ad2 rv ++ wP cI ad sv n8) s s.heap H locs := hw
  have e_1273 : r_1273 = nI 1 := e_1273
  subst e_1273
  refine lv_istore (lv' := [(6, .int (nI 1)), (0, .ref b), (1, .ref x9), (2, .ref (m9 0)), (3, .ref o9), (4, .ref p9), (5, .int (nI (5 * k)))]) hx hb dL_law_1276 hl (by decide) rfl (fun ls hl => ?_)
  refine lv_aload_n hx hb dL_law_1278 rfl (lv_at hl 3 rfl) ?_
  refine lv_aload_n hx hb dL_law_1279 rfl (lv_at hl 1 rfl) ?_
  refine lv_iload hx hb dL_law_1280 (lv_at hl 6 rfl) ?_
  refine lv_iconst (v := nI 1) hx hb dL_law_1282 kc_iconst_1 ?_
  refine r_addN hx hb dL_law_1283 ?_
  refine r_sld hx hb hX hbl hbA hL hw (i := (5 * k) + 1) (by omega) (v := p0) h1 dL_law_1284 ?_
  refine lv_aload_n hx hb dL_law_1285 rfl (lv_at hl 1 rfl) ?_
  refine lv_iload hx hb dL_law_1286 (lv_at hl 6 rfl) ?_
  refine lv_iconst (v := nI 2) hx hb dL_law_1288 kc_iconst_2 ?_
  refine r_addN hx hb dL_law_1289 ?_
  refine r_sld hx hb hX hbl hbA hL hw (i := (5 * k) + 2) (by omega) (v := p1) h2 dL_law_1290 ?_
  refine cp_Vi (As := [.int p0, .int p1]) (rest := []) (wc := wM cI m9 sa tx th n7 ln po2 lt fi sc nu2 ad2 rv) (wr := ([(x9, .inr (3, [.ref (q 0), .ref (h9 0), .ref (t9 0)]))] : va_W) ++ wS cI q st ++ wR cR h9 (fr7 ad n8) ol n7 ++ wT cC t9 tx ln po ki rp tg nu ++ ([(o9, .inl (cJ, 1, .inr (.inl fo)))] : va_W) ++ ([(p9, .inl (cD, 1, .inr (.inr (.inr (.inl fd)))))] : va_W)) S (c_X4_exists_e1 l D (sz := H.size) (cI := cI) (m9 := m9) (sa := sa) (tx := tx) (th := th) (sv := n7) (ln := ln) (po := po2) (lt := lt) (fi := fi) (sc := sc) (nu := nu2) (ad := ad2) (rv := rv) (p0 := p0) (p1 := p1) (hv := hv)) (cwV 2 hts gL_law_X4_exists rfl rfl rfl (by decide +kernel) ⟨Nat.le_of_ble_eq_true rfl, Nat.le_of_ble_eq_true rfl⟩) hw hA [14, 15, 16] [0, 1, 2, 3, 4, 5, 6, 7, 8, 9, 10, 11, 12, 13] [0] rfl rfl (k0 := 17) rfl (by decide) rfl 0 rfl rfl rfl hl.1 (Nat.le_of_ble_eq_true rfl) ⟨(show (cells + 1) + 0 ≤ room_1.cells by omega), (show (slots + 6) + 0 ≤ room_1.slots by omega)⟩ rfl dL_law_1291 (fun r_1291 u_1291 H locs e_1291 hw => ?_)
  have hw : Wd D A [(cI, .int), (cR, .object RX1), (cC, .char), (cJ, .long), (cD, .double)] (wM cI m9 sa tx (nI 1) n7 ln po2 lt fi sc nu2 ad2 rv ++ ([(x9, .inr (3, [.ref (q 0), .ref (h9 0), .ref (t9 0)]))] : va_W) ++ wS cI q st ++ wR cR h9 (fr7 ad n8) ol n7 ++ wT cC t9 tx ln po ki rp tg nu ++ ([(o9, .inl (cJ, 1, .inr (.inl fo)))] : va_W) ++ ([(p9, .inl (cD, 1, .inr (.inr (.inr (.inl fd)))))] : va_W) ++ wP cI ad sv n8) s s.heap H locs := hw
  have e_1291 : r_1291 = nI 0 := e_1291
  subst e_1291
  refine lv_istore (lv' := [(7, .int (nI 0)), (6, .int (nI 1)), (0, .ref b), (1, .ref x9), (2, .ref (m9 0)), (3, .ref o9), (4, .ref p9), (5, .int (nI (5 * k)))]) hx hb dL_law_1294 hl (by decide) rfl (fun ls hl => ?_)
  refine lv_aload_n hx hb dL_law_1296 rfl (lv_at hl 4 rfl) ?_
  refine cq_V (As := []) (rest := []) S (c_X4_thrown l D (cI := cI) (m9 := m9) (sa := sa) (tx := tx) (th := nI 1) (sv := n7) (ln := ln) (po := po2) (lt := lt) (fi := fi) (sc := sc) (nu := nu2) (ad := ad2) (rv := rv)) (cwV 0 hts gL_law_X4_thrown rfl rfl rfl (by decide +kernel) ⟨Nat.le_of_ble_eq_true rfl, Nat.le_of_ble_eq_true rfl⟩) (hw.q.sub [0, 1, 2] [0] rfl rfl) 0 rfl rfl rfl hl.1 (Nat.le_of_ble_eq_true rfl) ⟨(show (cells + 1) ≤ room_1.cells by omega), (show (slots + 6) ≤ room_1.slots by omega)⟩ rfl dL_law_1297 (fun r_1297 e_1297 => ?_)
  have e_1297 : r_1297 = (nI 1) := e_1297
  subst e_1297
  refine lv_iload hx hb dL_law_1300 (lv_at hl 1 rfl) ?_
  refine r_icmp_eqN (tgt := 1307) hx hb (by decide) (by decide) dL_law_1302 (by decide) (fun _ => ?_) (fun h => absurd h (by decide))
  refine lv_iload hx hb dL_law_1307 (lv_at hl 1 rfl) ?_
  refine lv_if_ne (tgt := 1331) hx hb dL_law_1309 (by decide) (fun _ => ?_) (fun h => absurd h (by decide))
  refine lv_goto (tgt := 1875) hx hb dL_law_1331 (by decide) ?_
  have hw : Wd D A [(cI, .int), (cR, .object RX1), (cC, .char), (cJ, .long), (cD, .double)] (([(x9, .inr (3, [.ref (q 0), .ref (h9 0), .ref (t9 0)]))] : va_W) ++ wS cI q st ++ wR cR h9 (fr7 ad n8) ol n7 ++ wT cC t9 tx ln po ki rp tg nu ++ ([(o9, .inl (cJ, 1, .inr (.inl fo)))] : va_W) ++ ([(p9, .inl (cD, 1, .inr (.inr (.inr (.inl fd)))))] : va_W) ++ wM cI m9 sa tx (nI 1) n7 ln po2 lt fi sc nu2 ad2 rv ++ wP cI ad sv n8) s s.heap H locs := hw.ord [3, 4, 5, 6, 7, 8, 9, 10, 11, 12, 13, 14, 15, 16, 0, 1, 2] (k0 := 17) rfl rfl (by decide)
  have hl : lv_has ls 10 [(0, .ref b), (1, .ref x9), (2, .ref (m9 0)), (3, .ref o9), (4, .ref p9), (5, .int (nI (5 * k)))] := lv_sub hl [2, 3, 4, 5, 6, 7] rfl
  refine W.widen (k := cells + 7) (n := slots + 5790) (by omega) (by omega) ?_
  exact kk H locs ls ⟨st, ad, sv, ol, n7, n8, tx, ln, po, ki, rp, tg, nu, fo, fd, sa, nI 1, po2, lt, fi, sc, nu2, ad2, rv, hw, LV_m hLV (by omega)⟩ hl
set_option maxHeartbeats 4000000 in
set_option maxRecDepth 100000 in
theorem law_mean_e1 {p : Program} {l : Launch} {e : Env} {s : State} {m : MethodId} {args : Array Value} {below : List Frame} {meth : Method} {c : Code} {Q : State → Prop} {D : va_G} {A : Nat → Prop} {b L : Nat} {xs : Nat → Int32} {cells slots : Nat} {cI cR cC cJ cD : ClassId} {x9 : Nat} {q h9 t9 : Nat → Nat} {o9 p9 : Nat} {m9 : Nat → Nat} {B k : Nat} (F : LF p l s m c args A b L xs) (hk5 : 5 * k + 5 ≤ L) (hB : B + 100 < 2 ^ 31) (hR : cells + 7 ≤ room_1.cells ∧ slots + 5790 ≤ room_1.slots) {st : St} {ad : Nat → Nat → Nat} {sv : Nat → St} {ol n7 n8 : Nat} {tx : Nat → Nat} {ln po : Nat} {ki rp tg nu : Int32} {fo : Nat → Int64} {fd : Nat → UInt64} {sa : Nat → Int32} {th : Int32} {po2 : Nat} {lt fi sc nu2 : Int32} {ad2 rv : Nat} {H : Heap} {locs : List Loc} (hw : Wd D A [(cI, .int), (cR, .object RX1), (cC, .char), (cJ, .long), (cD, .double)] ([(x9, .inr (3, [.ref (q 0), .ref (h9 0), .ref (t9 0)]))] ++ wS cI q st ++ wR cR h9 (fr7 ad n8) ol n7 ++ wT cC t9 tx ln po ki rp tg nu ++ [(o9, .inl (cJ, 1, .inr (.inl fo)))] ++ [(p9, .inl (cD, 1, .inr (.inr (.inr (.inl fd)))))] ++ wM cI m9 sa tx th n7 ln po2 lt fi sc nu2 ad2 rv ++ wP cI ad sv n8) s s.heap H locs) (hLV : LV st sv ol n7 n8 tx ln po sa po2 B) {ls : Array Slot} (hl : lv_has ls 10 [(0, .ref b), (1, .ref x9), (2, .ref (m9 0)), (3, .ref o9), (4, .ref p9), (5, .int (nI (5 * k)))]) {p0 p1 : Int32} (hv : ¬ (inP p0 (nI 0) (nI 3) ∧ inP p1 (nI 0) (nI 5))) (h1 : xs (5 * k + 1) = p0) (h2 : xs (5 * k + 2) = p1) (kk : ∀ (H : Heap) (locs : List Loc) (ls : Array Slot), LW D A s cI cR cC cJ cD x9 q h9 t9 o9 p9 m9 (B + 41) H locs → lv_has ls 10 [(0, .ref b), (1, .ref x9), (2, .ref (m9 0)), (3, .ref o9), (4, .ref p9), (5, .int (nI (5 * k)))] → W p l e room_1 s m args below meth c H locs (cells + 7) (slots + 5790) Q (F0 m 1875 ls [])) : W p l e room_1 s m args below meth c H locs cells slots Q (F0 m 1334 ls []) := by
  obtain ⟨S, hz, hxe, hzq, hl9, hA, hX, hbl, hbA, hL⟩ := id F
  obtain ⟨hh, hRl, hHs, htx, hln, hpo, hpo2⟩ := id hLV
  have h6 : n7 ≤ 6 := Nat.le_trans hh.2.1 hh.2.2.1
  obtain ⟨hx, hb, hml, hown, hts⟩ := id S
  refine lv_aload_n hx hb dL_law_1334 rfl (lv_at hl 1 rfl) ?_
  refine lv_aload_n hx hb dL_law_1335 rfl (lv_at hl 0 rfl) ?_
  refine lv_iload hx hb dL_law_1336 (lv_at hl 5 rfl) ?_
  refine lv_iconst (v := nI 1) hx hb dL_law_1338 kc_iconst_1 ?_
  refine r_addN hx hb dL_law_1339 ?_
  refine r_sld hx hb hX hbl hbA hL hw (i := (5 * k) + 1) (by omega) (v := p0) h1 dL_law_1340 ?_
  refine lv_aload_n hx hb dL_law_1341 rfl (lv_at hl 0 rfl) ?_
  refine lv_iload hx hb dL_law_1342 (lv_at hl 5 rfl) ?_
  refine lv_iconst (v := nI 2) hx hb dL_law_1344 kc_iconst_2 ?_
  refine r_addN hx hb dL_law_1345 ?_
  refine r_sld hx hb hX hbl hbA hL hw (i := (5 * k) + 2) (by omega) (v := p1) h2 dL_law_1346 ?_
  refine lv_aload hx hb dL_law_1347 (lv_at hl 4 rfl) ?_
  refine cpz_S (w1 := fun (u9 : Unit) => ([(x9, .inr (3, [.ref (q 0), .ref (h9 0), .ref (t9 0)]))] : va_W) ++ wS cI q st ++ wR cR h9 (fr7 ad n8) ol n7 ++ wT cC t9 tx ln po ki rp tg nu ++ ([(p9, .inl (cD, 1, .inr (.inr (.inr (.inl fd)))))] : va_W)) (pl := fun (u9 : Unit) => wP cI ad sv n8) (As := [.ref x9, .int p0, .int p1, .ref p9]) (rest := []) (wc := ([(x9, .inr (3, [.ref (q 0), .ref (h9 0), .ref (t9 0)]))] : va_W) ++ wS cI q st ++ wR cR h9 (fr7 ad n8) ol n7 ++ wT cC t9 tx ln po ki rp tg nu ++ ([(p9, .inl (cD, 1, .inr (.inr (.inr (.inl fd)))))] : va_W)) (wr := ([(o9, .inl (cJ, 1, .inr (.inl fo)))] : va_W) ++ wM cI m9 sa tx th n7 ln po2 lt fi sc nu2 ad2 rv) S hz hxe hzq (c_L_mean_e1 l D (hl9 := hl9) (sz := H.size) (cI := cI) (cR := cR) (cC := cC) (x9 := x9) (q := q) (st := st) (h9 := h9) (ad := ad) (sv := sv) (ol := ol) (n7 := n7) (n8 := n8) (t9 := t9) (tx := tx) (ln := ln) (po := po) (ki := ki) (rp := rp) (tg := tg) (nu := nu) (cD := cD) (o9 := p9) (fo := fd) (p0 := p0) (p1 := p1) (hh := hh) (hv := hv)) (vx_cwSW 4 hts gL_law_L_mean rfl rfl rfl (by decide +kernel) ⟨Nat.le_of_ble_eq_true rfl, Nat.le_of_ble_eq_true rfl⟩) hw hA [0, 1, 2, 3, 4, 5, 6, 7, 8, 9, 10, 11, 13] [12, 14, 15, 16] [0, 1, 2, 4] rfl rfl (k0 := 17) rfl (by decide) rfl rfl hl.1 (Nat.le_of_ble_eq_true rfl) ⟨(show cells + 1 ≤ room_1.cells by omega), (show slots + 6 ≤ room_1.slots by omega)⟩ rfl dL_law_1349 (fun r_1349 u_1349 H locs e_1349 hw => ?_)
  have hw : Wd D A [(cI, .int), (cR, .object RX1), (cC, .char), (cJ, .long), (cD, .double)] (([(x9, .inr (3, [.ref (q 0), .ref (h9 0), .ref (t9 0)]))] : va_W) ++ wS cI q st ++ wR cR h9 (fr7 ad n8) ol n7 ++ wT cC t9 tx ln po ki rp tg nu ++ ([(p9, .inl (cD, 1, .inr (.inr (.inr (.inl fd)))))] : va_W) ++ ([(o9, .inl (cJ, 1, .inr (.inl fo)))] : va_W) ++ wM cI m9 sa tx th n7 ln po2 lt fi sc nu2 ad2 rv ++ wP cI ad sv n8) s s.heap H locs := hw
  have e_1349 : r_1349 = nI 1 := e_1349
  subst e_1349
  refine lv_istore (lv' := [(6, .int (nI 1)), (0, .ref b), (1, .ref x9), (2, .ref (m9 0)), (3, .ref o9), (4, .ref p9), (5, .int (nI (5 * k)))]) hx hb dL_law_1352 hl (by decide) rfl (fun ls hl => ?_)
  refine lv_aload_n hx hb dL_law_1354 rfl (lv_at hl 3 rfl) ?_
  refine lv_aload_n hx hb dL_law_1355 rfl (lv_at hl 1 rfl) ?_
  refine lv_iload hx hb dL_law_1356 (lv_at hl 6 rfl) ?_
  refine lv_iconst (v := nI 1) hx hb dL_law_1358 kc_iconst_1 ?_
  refine r_addN hx hb dL_law_1359 ?_
  refine r_sld hx hb hX hbl hbA hL hw (i := (5 * k) + 1) (by omega) (v := p0) h1 dL_law_1360 ?_
  refine lv_aload_n hx hb dL_law_1361 rfl (lv_at hl 1 rfl) ?_
  refine lv_iload hx hb dL_law_1362 (lv_at hl 6 rfl) ?_
  refine lv_iconst (v := nI 2) hx hb dL_law_1364 kc_iconst_2 ?_
  refine r_addN hx hb dL_law_1365 ?_
  refine r_sld hx hb hX hbl hbA hL hw (i := (5 * k) + 2) (by omega) (v := p1) h2 dL_law_1366 ?_
  refine cp_Vf (As := [.int p0, .int p1]) (rest := []) (wc := wM cI m9 sa tx th n7 ln po2 lt fi sc nu2 ad2 rv) (wr := ([(x9, .inr (3, [.ref (q 0), .ref (h9 0), .ref (t9 0)]))] : va_W) ++ wS cI q st ++ wR cR h9 (fr7 ad n8) ol n7 ++ wT cC t9 tx ln po ki rp tg nu ++ ([(p9, .inl (cD, 1, .inr (.inr (.inr (.inl fd)))))] : va_W) ++ ([(o9, .inl (cJ, 1, .inr (.inl fo)))] : va_W)) S (c_X4_mean_e1 l D (sz := H.size) (cI := cI) (m9 := m9) (sa := sa) (tx := tx) (th := th) (sv := n7) (ln := ln) (po := po2) (lt := lt) (fi := fi) (sc := sc) (nu := nu2) (ad := ad2) (rv := rv) (p0 := p0) (p1 := p1) (hv := hv)) (cwV 2 hts gL_law_X4_mean rfl rfl rfl (by decide +kernel) ⟨Nat.le_of_ble_eq_true rfl, Nat.le_of_ble_eq_true rfl⟩) hw hA [14, 15, 16] [0, 1, 2, 3, 4, 5, 6, 7, 8, 9, 10, 11, 12, 13] [0] rfl rfl (k0 := 17) rfl (by decide) rfl 0 rfl rfl rfl hl.1 (Nat.le_of_ble_eq_true rfl) ⟨(show (cells + 1) + 0 ≤ room_1.cells by omega), (show (slots + 6) + 0 ≤ room_1.slots by omega)⟩ rfl dL_law_1367 (fun r_1367 u_1367 H locs e_1367 hw => ?_)
  obtain ⟨⟩ := u_1367
  have hw : Wd D A [(cI, .int), (cR, .object RX1), (cC, .char), (cJ, .long), (cD, .double)] (wM cI m9 sa tx (nI 1) n7 ln po2 lt fi sc nu2 ad2 rv ++ ([(x9, .inr (3, [.ref (q 0), .ref (h9 0), .ref (t9 0)]))] : va_W) ++ wS cI q st ++ wR cR h9 (fr7 ad n8) ol n7 ++ wT cC t9 tx ln po ki rp tg nu ++ ([(p9, .inl (cD, 1, .inr (.inr (.inr (.inl fd)))))] : va_W) ++ ([(o9, .inl (cJ, 1, .inr (.inl fo)))] : va_W) ++ wP cI ad sv n8) s s.heap H locs := hw
  have e_1367 : r_1367 = FP.fconst0 := e_1367
  subst e_1367
  refine lv_fstore (lv' := [(7, .float FP.fconst0), (6, .int (nI 1)), (0, .ref b), (1, .ref x9), (2, .ref (m9 0)), (3, .ref o9), (4, .ref p9), (5, .int (nI (5 * k)))]) hx hb dL_law_1370 hl (by decide) rfl (fun ls hl => ?_)
  refine lv_aload_n hx hb dL_law_1372 rfl (lv_at hl 4 rfl) ?_
  refine cq_V (As := []) (rest := []) S (c_X4_thrown l D (cI := cI) (m9 := m9) (sa := sa) (tx := tx) (th := nI 1) (sv := n7) (ln := ln) (po := po2) (lt := lt) (fi := fi) (sc := sc) (nu := nu2) (ad := ad2) (rv := rv)) (cwV 0 hts gL_law_X4_thrown rfl rfl rfl (by decide +kernel) ⟨Nat.le_of_ble_eq_true rfl, Nat.le_of_ble_eq_true rfl⟩) (hw.q.sub [0, 1, 2] [0] rfl rfl) 0 rfl rfl rfl hl.1 (Nat.le_of_ble_eq_true rfl) ⟨(show (cells + 1) ≤ room_1.cells by omega), (show (slots + 6) ≤ room_1.slots by omega)⟩ rfl dL_law_1373 (fun r_1373 e_1373 => ?_)
  have e_1373 : r_1373 = (nI 1) := e_1373
  subst e_1373
  refine lv_iload hx hb dL_law_1376 (lv_at hl 1 rfl) ?_
  refine r_icmp_eqN (tgt := 1383) hx hb (by decide) (by decide) dL_law_1378 (by decide) (fun _ => ?_) (fun h => absurd h (by decide))
  refine lv_iload hx hb dL_law_1383 (lv_at hl 1 rfl) ?_
  refine lv_if_ne (tgt := 1421) hx hb dL_law_1385 (by decide) (fun _ => ?_) (fun h => absurd h (by decide))
  refine lv_goto (tgt := 1875) hx hb dL_law_1421 (by decide) ?_
  have hw : Wd D A [(cI, .int), (cR, .object RX1), (cC, .char), (cJ, .long), (cD, .double)] (([(x9, .inr (3, [.ref (q 0), .ref (h9 0), .ref (t9 0)]))] : va_W) ++ wS cI q st ++ wR cR h9 (fr7 ad n8) ol n7 ++ wT cC t9 tx ln po ki rp tg nu ++ ([(o9, .inl (cJ, 1, .inr (.inl fo)))] : va_W) ++ ([(p9, .inl (cD, 1, .inr (.inr (.inr (.inl fd)))))] : va_W) ++ wM cI m9 sa tx (nI 1) n7 ln po2 lt fi sc nu2 ad2 rv ++ wP cI ad sv n8) s s.heap H locs := hw.ord [3, 4, 5, 6, 7, 8, 9, 10, 11, 12, 13, 14, 16, 15, 0, 1, 2] (k0 := 17) rfl rfl (by decide)
  have hl : lv_has ls 10 [(0, .ref b), (1, .ref x9), (2, .ref (m9 0)), (3, .ref o9), (4, .ref p9), (5, .int (nI (5 * k)))] := lv_sub hl [2, 3, 4, 5, 6, 7] rfl
  refine W.widen (k := cells + 7) (n := slots + 5790) (by omega) (by omega) ?_
  exact kk H locs ls ⟨st, ad, sv, ol, n7, n8, tx, ln, po, ki, rp, tg, nu, fo, fd, sa, nI 1, po2, lt, fi, sc, nu2, ad2, rv, hw, LV_m hLV (by omega)⟩ hl
set_option maxHeartbeats 4000000 in
set_option maxRecDepth 100000 in
theorem law_sibling_e1 {p : Program} {l : Launch} {e : Env} {s : State} {m : MethodId} {args : Array Value} {below : List Frame} {meth : Method} {c : Code} {Q : State → Prop} {D : va_G} {A : Nat → Prop} {b L : Nat} {xs : Nat → Int32} {cells slots : Nat} {cI cR cC cJ cD : ClassId} {x9 : Nat} {q h9 t9 : Nat → Nat} {o9 p9 : Nat} {m9 : Nat → Nat} {B k : Nat} (F : LF p l s m c args A b L xs) (hk5 : 5 * k + 5 ≤ L) (hB : B + 100 < 2 ^ 31) (hR : cells + 7 ≤ room_1.cells ∧ slots + 5790 ≤ room_1.slots) {st : St} {ad : Nat → Nat → Nat} {sv : Nat → St} {ol n7 n8 : Nat} {tx : Nat → Nat} {ln po : Nat} {ki rp tg nu : Int32} {fo : Nat → Int64} {fd : Nat → UInt64} {sa : Nat → Int32} {th : Int32} {po2 : Nat} {lt fi sc nu2 : Int32} {ad2 rv : Nat} {H : Heap} {locs : List Loc} (hw : Wd D A [(cI, .int), (cR, .object RX1), (cC, .char), (cJ, .long), (cD, .double)] ([(x9, .inr (3, [.ref (q 0), .ref (h9 0), .ref (t9 0)]))] ++ wS cI q st ++ wR cR h9 (fr7 ad n8) ol n7 ++ wT cC t9 tx ln po ki rp tg nu ++ [(o9, .inl (cJ, 1, .inr (.inl fo)))] ++ [(p9, .inl (cD, 1, .inr (.inr (.inr (.inl fd)))))] ++ wM cI m9 sa tx th n7 ln po2 lt fi sc nu2 ad2 rv ++ wP cI ad sv n8) s s.heap H locs) (hLV : LV st sv ol n7 n8 tx ln po sa po2 B) {ls : Array Slot} (hl : lv_has ls 10 [(0, .ref b), (1, .ref x9), (2, .ref (m9 0)), (3, .ref o9), (4, .ref p9), (5, .int (nI (5 * k)))]) {p0 p1 p2 : Int32} (hv : ¬ ((inP p0 (nI 0) (nI 3) ∧ inP p1 (nI 0) (nI 5)) ∧ ¬ p2 < 0)) (h1 : xs (5 * k + 1) = p0) (h2 : xs (5 * k + 2) = p1) (h3 : xs (5 * k + 3) = p2) (kk : ∀ (H : Heap) (locs : List Loc) (ls : Array Slot), LW D A s cI cR cC cJ cD x9 q h9 t9 o9 p9 m9 (B + 41) H locs → lv_has ls 10 [(0, .ref b), (1, .ref x9), (2, .ref (m9 0)), (3, .ref o9), (4, .ref p9), (5, .int (nI (5 * k)))] → W p l e room_1 s m args below meth c H locs (cells + 7) (slots + 5790) Q (F0 m 1875 ls [])) : W p l e room_1 s m args below meth c H locs cells slots Q (F0 m 895 ls []) := by
  obtain ⟨S, hz, hxe, hzq, hl9, hA, hX, hbl, hbA, hL⟩ := id F
  obtain ⟨hh, hRl, hHs, htx, hln, hpo, hpo2⟩ := id hLV
  have h6 : n7 ≤ 6 := Nat.le_trans hh.2.1 hh.2.2.1
  obtain ⟨hx, hb, hml, hown, hts⟩ := id S
  refine lv_aload_n hx hb dL_law_895 rfl (lv_at hl 1 rfl) ?_
  refine lv_aload_n hx hb dL_law_896 rfl (lv_at hl 0 rfl) ?_
  refine lv_iload hx hb dL_law_897 (lv_at hl 5 rfl) ?_
  refine lv_iconst (v := nI 1) hx hb dL_law_899 kc_iconst_1 ?_
  refine r_addN hx hb dL_law_900 ?_
  refine r_sld hx hb hX hbl hbA hL hw (i := (5 * k) + 1) (by omega) (v := p0) h1 dL_law_901 ?_
  refine lv_aload_n hx hb dL_law_902 rfl (lv_at hl 0 rfl) ?_
  refine lv_iload hx hb dL_law_903 (lv_at hl 5 rfl) ?_
  refine lv_iconst (v := nI 2) hx hb dL_law_905 kc_iconst_2 ?_
  refine r_addN hx hb dL_law_906 ?_
  refine r_sld hx hb hX hbl hbA hL hw (i := (5 * k) + 2) (by omega) (v := p1) h2 dL_law_907 ?_
  refine lv_aload_n hx hb dL_law_908 rfl (lv_at hl 0 rfl) ?_
  refine lv_iload hx hb dL_law_909 (lv_at hl 5 rfl) ?_
  refine lv_iconst (v := nI 3) hx hb dL_law_911 kc_iconst_3 ?_
  refine r_addN hx hb dL_law_912 ?_
  refine r_sld hx hb hX hbl hbA hL hw (i := (5 * k) + 3) (by omega) (v := p2) h3 dL_law_913 ?_
  refine lv_aload_n hx hb dL_law_914 rfl (lv_at hl 3 rfl) ?_
  refine cpz_S (w1 := fun (u9 : Unit) => ([(x9, .inr (3, [.ref (q 0), .ref (h9 0), .ref (t9 0)]))] : va_W) ++ wS cI q st ++ wR cR h9 (fr7 ad n8) ol n7 ++ wT cC t9 tx ln po ki rp tg nu ++ ([(o9, .inl (cJ, 1, .inr (.inl fo)))] : va_W)) (pl := fun (u9 : Unit) => wP cI ad sv n8) (As := [.ref x9, .int p0, .int p1, .int p2, .ref o9]) (rest := []) (wc := ([(x9, .inr (3, [.ref (q 0), .ref (h9 0), .ref (t9 0)]))] : va_W) ++ wS cI q st ++ wR cR h9 (fr7 ad n8) ol n7 ++ wT cC t9 tx ln po ki rp tg nu ++ ([(o9, .inl (cJ, 1, .inr (.inl fo)))] : va_W)) (wr := ([(p9, .inl (cD, 1, .inr (.inr (.inr (.inl fd)))))] : va_W) ++ wM cI m9 sa tx th n7 ln po2 lt fi sc nu2 ad2 rv) S hz hxe hzq (c_L_sibling_e1 l D (hl9 := hl9) (sz := H.size) (cI := cI) (cR := cR) (cC := cC) (x9 := x9) (q := q) (st := st) (h9 := h9) (ad := ad) (sv := sv) (ol := ol) (n7 := n7) (n8 := n8) (t9 := t9) (tx := tx) (ln := ln) (po := po) (ki := ki) (rp := rp) (tg := tg) (nu := nu) (cJ := cJ) (o9 := o9) (fo := fo) (p0 := p0) (p1 := p1) (p2 := p2) (hh := hh) (hv := hv)) (vx_cwSW 5 hts gL_law_L_sibling rfl rfl rfl (by decide +kernel) ⟨Nat.le_of_ble_eq_true rfl, Nat.le_of_ble_eq_true rfl⟩) hw hA [0, 1, 2, 3, 4, 5, 6, 7, 8, 9, 10, 11, 12] [13, 14, 15, 16] [0, 1, 2, 3] rfl rfl (k0 := 17) rfl (by decide) rfl rfl hl.1 (Nat.le_of_ble_eq_true rfl) ⟨(show cells + 1 ≤ room_1.cells by omega), (show slots + 6 ≤ room_1.slots by omega)⟩ rfl dL_law_915 (fun r_915 u_915 H locs e_915 hw => ?_)
  have hw : Wd D A [(cI, .int), (cR, .object RX1), (cC, .char), (cJ, .long), (cD, .double)] (([(x9, .inr (3, [.ref (q 0), .ref (h9 0), .ref (t9 0)]))] : va_W) ++ wS cI q st ++ wR cR h9 (fr7 ad n8) ol n7 ++ wT cC t9 tx ln po ki rp tg nu ++ ([(o9, .inl (cJ, 1, .inr (.inl fo)))] : va_W) ++ ([(p9, .inl (cD, 1, .inr (.inr (.inr (.inl fd)))))] : va_W) ++ wM cI m9 sa tx th n7 ln po2 lt fi sc nu2 ad2 rv ++ wP cI ad sv n8) s s.heap H locs := hw
  have e_915 : r_915 = nI 1 := e_915
  subst e_915
  refine lv_istore (lv' := [(6, .int (nI 1)), (0, .ref b), (1, .ref x9), (2, .ref (m9 0)), (3, .ref o9), (4, .ref p9), (5, .int (nI (5 * k)))]) hx hb dL_law_918 hl (by decide) rfl (fun ls hl => ?_)
  refine lv_aload_n hx hb dL_law_920 rfl (lv_at hl 3 rfl) ?_
  refine lv_aload_n hx hb dL_law_921 rfl (lv_at hl 1 rfl) ?_
  refine lv_iload hx hb dL_law_922 (lv_at hl 6 rfl) ?_
  refine lv_iconst (v := nI 1) hx hb dL_law_924 kc_iconst_1 ?_
  refine r_addN hx hb dL_law_925 ?_
  refine r_sld hx hb hX hbl hbA hL hw (i := (5 * k) + 1) (by omega) (v := p0) h1 dL_law_926 ?_
  refine lv_aload_n hx hb dL_law_927 rfl (lv_at hl 1 rfl) ?_
  refine lv_iload hx hb dL_law_928 (lv_at hl 6 rfl) ?_
  refine lv_iconst (v := nI 2) hx hb dL_law_930 kc_iconst_2 ?_
  refine r_addN hx hb dL_law_931 ?_
  refine r_sld hx hb hX hbl hbA hL hw (i := (5 * k) + 2) (by omega) (v := p1) h2 dL_law_932 ?_
  refine lv_aload_n hx hb dL_law_933 rfl (lv_at hl 1 rfl) ?_
  refine lv_iload hx hb dL_law_934 (lv_at hl 6 rfl) ?_
  refine lv_iconst (v := nI 3) hx hb dL_law_936 kc_iconst_3 ?_
  refine r_addN hx hb dL_law_937 ?_
  refine r_sld hx hb hX hbl hbA hL hw (i := (5 * k) + 3) (by omega) (v := p2) h3 dL_law_938 ?_
  refine cp_Vi (As := [.int p0, .int p1, .int p2]) (rest := []) (wc := wM cI m9 sa tx th n7 ln po2 lt fi sc nu2 ad2 rv) (wr := ([(x9, .inr (3, [.ref (q 0), .ref (h9 0), .ref (t9 0)]))] : va_W) ++ wS cI q st ++ wR cR h9 (fr7 ad n8) ol n7 ++ wT cC t9 tx ln po ki rp tg nu ++ ([(o9, .inl (cJ, 1, .inr (.inl fo)))] : va_W) ++ ([(p9, .inl (cD, 1, .inr (.inr (.inr (.inl fd)))))] : va_W)) S (c_X4_sibling_e1 l D (sz := H.size) (cI := cI) (m9 := m9) (sa := sa) (tx := tx) (th := th) (sv := n7) (ln := ln) (po := po2) (lt := lt) (fi := fi) (sc := sc) (nu := nu2) (ad := ad2) (rv := rv) (p0 := p0) (p1 := p1) (p2 := p2) (hv := hv)) (cwV 3 hts gL_law_X4_sibling rfl rfl rfl (by decide +kernel) ⟨Nat.le_of_ble_eq_true rfl, Nat.le_of_ble_eq_true rfl⟩) hw hA [14, 15, 16] [0, 1, 2, 3, 4, 5, 6, 7, 8, 9, 10, 11, 12, 13] [0] rfl rfl (k0 := 17) rfl (by decide) rfl 0 rfl rfl rfl hl.1 (Nat.le_of_ble_eq_true rfl) ⟨(show (cells + 1) + 0 ≤ room_1.cells by omega), (show (slots + 6) + 0 ≤ room_1.slots by omega)⟩ rfl dL_law_939 (fun r_939 u_939 H locs e_939 hw => ?_)
  have hw : Wd D A [(cI, .int), (cR, .object RX1), (cC, .char), (cJ, .long), (cD, .double)] (wM cI m9 sa tx (nI 1) n7 ln po2 lt fi sc nu2 ad2 rv ++ ([(x9, .inr (3, [.ref (q 0), .ref (h9 0), .ref (t9 0)]))] : va_W) ++ wS cI q st ++ wR cR h9 (fr7 ad n8) ol n7 ++ wT cC t9 tx ln po ki rp tg nu ++ ([(o9, .inl (cJ, 1, .inr (.inl fo)))] : va_W) ++ ([(p9, .inl (cD, 1, .inr (.inr (.inr (.inl fd)))))] : va_W) ++ wP cI ad sv n8) s s.heap H locs := hw
  have e_939 : r_939 = nI 0 := e_939
  subst e_939
  refine lv_istore (lv' := [(7, .int (nI 0)), (6, .int (nI 1)), (0, .ref b), (1, .ref x9), (2, .ref (m9 0)), (3, .ref o9), (4, .ref p9), (5, .int (nI (5 * k)))]) hx hb dL_law_942 hl (by decide) rfl (fun ls hl => ?_)
  refine lv_aload_n hx hb dL_law_944 rfl (lv_at hl 4 rfl) ?_
  refine cq_V (As := []) (rest := []) S (c_X4_thrown l D (cI := cI) (m9 := m9) (sa := sa) (tx := tx) (th := nI 1) (sv := n7) (ln := ln) (po := po2) (lt := lt) (fi := fi) (sc := sc) (nu := nu2) (ad := ad2) (rv := rv)) (cwV 0 hts gL_law_X4_thrown rfl rfl rfl (by decide +kernel) ⟨Nat.le_of_ble_eq_true rfl, Nat.le_of_ble_eq_true rfl⟩) (hw.q.sub [0, 1, 2] [0] rfl rfl) 0 rfl rfl rfl hl.1 (Nat.le_of_ble_eq_true rfl) ⟨(show (cells + 1) ≤ room_1.cells by omega), (show (slots + 6) ≤ room_1.slots by omega)⟩ rfl dL_law_945 (fun r_945 e_945 => ?_)
  have e_945 : r_945 = (nI 1) := e_945
  subst e_945
  refine lv_iload hx hb dL_law_948 (lv_at hl 1 rfl) ?_
  refine r_icmp_eqN (tgt := 955) hx hb (by decide) (by decide) dL_law_950 (by decide) (fun _ => ?_) (fun h => absurd h (by decide))
  refine lv_iload hx hb dL_law_955 (lv_at hl 1 rfl) ?_
  refine lv_if_ne (tgt := 972) hx hb dL_law_957 (by decide) (fun _ => ?_) (fun h => absurd h (by decide))
  refine lv_goto (tgt := 1875) hx hb dL_law_972 (by decide) ?_
  have hw : Wd D A [(cI, .int), (cR, .object RX1), (cC, .char), (cJ, .long), (cD, .double)] (([(x9, .inr (3, [.ref (q 0), .ref (h9 0), .ref (t9 0)]))] : va_W) ++ wS cI q st ++ wR cR h9 (fr7 ad n8) ol n7 ++ wT cC t9 tx ln po ki rp tg nu ++ ([(o9, .inl (cJ, 1, .inr (.inl fo)))] : va_W) ++ ([(p9, .inl (cD, 1, .inr (.inr (.inr (.inl fd)))))] : va_W) ++ wM cI m9 sa tx (nI 1) n7 ln po2 lt fi sc nu2 ad2 rv ++ wP cI ad sv n8) s s.heap H locs := hw.ord [3, 4, 5, 6, 7, 8, 9, 10, 11, 12, 13, 14, 15, 16, 0, 1, 2] (k0 := 17) rfl rfl (by decide)
  have hl : lv_has ls 10 [(0, .ref b), (1, .ref x9), (2, .ref (m9 0)), (3, .ref o9), (4, .ref p9), (5, .int (nI (5 * k)))] := lv_sub hl [2, 3, 4, 5, 6, 7] rfl
  refine W.widen (k := cells + 7) (n := slots + 5790) (by omega) (by omega) ?_
  exact kk H locs ls ⟨st, ad, sv, ol, n7, n8, tx, ln, po, ki, rp, tg, nu, fo, fd, sa, nI 1, po2, lt, fi, sc, nu2, ad2, rv, hw, LV_m hLV (by omega)⟩ hl
set_option maxHeartbeats 4000000 in
set_option maxRecDepth 100000 in
theorem law_entries_e1 {p : Program} {l : Launch} {e : Env} {s : State} {m : MethodId} {args : Array Value} {below : List Frame} {meth : Method} {c : Code} {Q : State → Prop} {D : va_G} {A : Nat → Prop} {b L : Nat} {xs : Nat → Int32} {cells slots : Nat} {cI cR cC cJ cD : ClassId} {x9 : Nat} {q h9 t9 : Nat → Nat} {o9 p9 : Nat} {m9 : Nat → Nat} {B k : Nat} (F : LF p l s m c args A b L xs) (hk5 : 5 * k + 5 ≤ L) (hB : B + 100 < 2 ^ 31) (hR : cells + 7 ≤ room_1.cells ∧ slots + 5790 ≤ room_1.slots) {st : St} {ad : Nat → Nat → Nat} {sv : Nat → St} {ol n7 n8 : Nat} {tx : Nat → Nat} {ln po : Nat} {ki rp tg nu : Int32} {fo : Nat → Int64} {fd : Nat → UInt64} {sa : Nat → Int32} {th : Int32} {po2 : Nat} {lt fi sc nu2 : Int32} {ad2 rv : Nat} {H : Heap} {locs : List Loc} (hw : Wd D A [(cI, .int), (cR, .object RX1), (cC, .char), (cJ, .long), (cD, .double)] ([(x9, .inr (3, [.ref (q 0), .ref (h9 0), .ref (t9 0)]))] ++ wS cI q st ++ wR cR h9 (fr7 ad n8) ol n7 ++ wT cC t9 tx ln po ki rp tg nu ++ [(o9, .inl (cJ, 1, .inr (.inl fo)))] ++ [(p9, .inl (cD, 1, .inr (.inr (.inr (.inl fd)))))] ++ wM cI m9 sa tx th n7 ln po2 lt fi sc nu2 ad2 rv ++ wP cI ad sv n8) s s.heap H locs) (hLV : LV st sv ol n7 n8 tx ln po sa po2 B) {ls : Array Slot} (hl : lv_has ls 10 [(0, .ref b), (1, .ref x9), (2, .ref (m9 0)), (3, .ref o9), (4, .ref p9), (5, .int (nI (5 * k)))]) {p0 p1 p2 : Int32} (hv : ¬ ((inP p0 (nI 0) (nI 3) ∧ inP p1 (nI 0) (nI 5)) ∧ inP p2 (nI 0) (nI 4))) (h1 : xs (5 * k + 1) = p0) (h2 : xs (5 * k + 2) = p1) (h3 : xs (5 * k + 3) = p2) (kk : ∀ (H : Heap) (locs : List Loc) (ls : Array Slot), LW D A s cI cR cC cJ cD x9 q h9 t9 o9 p9 m9 (B + 41) H locs → lv_has ls 10 [(0, .ref b), (1, .ref x9), (2, .ref (m9 0)), (3, .ref o9), (4, .ref p9), (5, .int (nI (5 * k)))] → W p l e room_1 s m args below meth c H locs (cells + 7) (slots + 5790) Q (F0 m 1875 ls [])) : W p l e room_1 s m args below meth c H locs cells slots Q (F0 m 1179 ls []) := by
  obtain ⟨S, hz, hxe, hzq, hl9, hA, hX, hbl, hbA, hL⟩ := id F
  obtain ⟨hh, hRl, hHs, htx, hln, hpo, hpo2⟩ := id hLV
  have h6 : n7 ≤ 6 := Nat.le_trans hh.2.1 hh.2.2.1
  obtain ⟨hx, hb, hml, hown, hts⟩ := id S
  refine lv_aload_n hx hb dL_law_1179 rfl (lv_at hl 1 rfl) ?_
  refine lv_aload_n hx hb dL_law_1180 rfl (lv_at hl 0 rfl) ?_
  refine lv_iload hx hb dL_law_1181 (lv_at hl 5 rfl) ?_
  refine lv_iconst (v := nI 1) hx hb dL_law_1183 kc_iconst_1 ?_
  refine r_addN hx hb dL_law_1184 ?_
  refine r_sld hx hb hX hbl hbA hL hw (i := (5 * k) + 1) (by omega) (v := p0) h1 dL_law_1185 ?_
  refine lv_aload_n hx hb dL_law_1186 rfl (lv_at hl 0 rfl) ?_
  refine lv_iload hx hb dL_law_1187 (lv_at hl 5 rfl) ?_
  refine lv_iconst (v := nI 2) hx hb dL_law_1189 kc_iconst_2 ?_
  refine r_addN hx hb dL_law_1190 ?_
  refine r_sld hx hb hX hbl hbA hL hw (i := (5 * k) + 2) (by omega) (v := p1) h2 dL_law_1191 ?_
  refine lv_aload_n hx hb dL_law_1192 rfl (lv_at hl 0 rfl) ?_
  refine lv_iload hx hb dL_law_1193 (lv_at hl 5 rfl) ?_
  refine lv_iconst (v := nI 3) hx hb dL_law_1195 kc_iconst_3 ?_
  refine r_addN hx hb dL_law_1196 ?_
  refine r_sld hx hb hX hbl hbA hL hw (i := (5 * k) + 3) (by omega) (v := p2) h3 dL_law_1197 ?_
  refine lv_aload_n hx hb dL_law_1198 rfl (lv_at hl 3 rfl) ?_
  refine cpz_S (w1 := fun (u9 : Unit) => ([(x9, .inr (3, [.ref (q 0), .ref (h9 0), .ref (t9 0)]))] : va_W) ++ wS cI q st ++ wR cR h9 (fr7 ad n8) ol n7 ++ wT cC t9 tx ln po ki rp tg nu ++ ([(o9, .inl (cJ, 1, .inr (.inl fo)))] : va_W)) (pl := fun (u9 : Unit) => wP cI ad sv n8) (As := [.ref x9, .int p0, .int p1, .int p2, .ref o9]) (rest := []) (wc := ([(x9, .inr (3, [.ref (q 0), .ref (h9 0), .ref (t9 0)]))] : va_W) ++ wS cI q st ++ wR cR h9 (fr7 ad n8) ol n7 ++ wT cC t9 tx ln po ki rp tg nu ++ ([(o9, .inl (cJ, 1, .inr (.inl fo)))] : va_W)) (wr := ([(p9, .inl (cD, 1, .inr (.inr (.inr (.inl fd)))))] : va_W) ++ wM cI m9 sa tx th n7 ln po2 lt fi sc nu2 ad2 rv) S hz hxe hzq (c_L_entries_e1 l D (hl9 := hl9) (sz := H.size) (cI := cI) (cR := cR) (cC := cC) (x9 := x9) (q := q) (st := st) (h9 := h9) (ad := ad) (sv := sv) (ol := ol) (n7 := n7) (n8 := n8) (t9 := t9) (tx := tx) (ln := ln) (po := po) (ki := ki) (rp := rp) (tg := tg) (nu := nu) (cJ := cJ) (o9 := o9) (fo := fo) (p0 := p0) (p1 := p1) (p2 := p2) (hh := hh) (hv := hv)) (vx_cwSW 5 hts gL_law_L_entries rfl rfl rfl (by decide +kernel) ⟨Nat.le_of_ble_eq_true rfl, Nat.le_of_ble_eq_true rfl⟩) hw hA [0, 1, 2, 3, 4, 5, 6, 7, 8, 9, 10, 11, 12] [13, 14, 15, 16] [0, 1, 2, 3] rfl rfl (k0 := 17) rfl (by decide) rfl rfl hl.1 (Nat.le_of_ble_eq_true rfl) ⟨(show cells + 1 ≤ room_1.cells by omega), (show slots + 6 ≤ room_1.slots by omega)⟩ rfl dL_law_1199 (fun r_1199 u_1199 H locs e_1199 hw => ?_)
  have hw : Wd D A [(cI, .int), (cR, .object RX1), (cC, .char), (cJ, .long), (cD, .double)] (([(x9, .inr (3, [.ref (q 0), .ref (h9 0), .ref (t9 0)]))] : va_W) ++ wS cI q st ++ wR cR h9 (fr7 ad n8) ol n7 ++ wT cC t9 tx ln po ki rp tg nu ++ ([(o9, .inl (cJ, 1, .inr (.inl fo)))] : va_W) ++ ([(p9, .inl (cD, 1, .inr (.inr (.inr (.inl fd)))))] : va_W) ++ wM cI m9 sa tx th n7 ln po2 lt fi sc nu2 ad2 rv ++ wP cI ad sv n8) s s.heap H locs := hw
  have e_1199 : r_1199 = nI 1 := e_1199
  subst e_1199
  refine lv_istore (lv' := [(6, .int (nI 1)), (0, .ref b), (1, .ref x9), (2, .ref (m9 0)), (3, .ref o9), (4, .ref p9), (5, .int (nI (5 * k)))]) hx hb dL_law_1202 hl (by decide) rfl (fun ls hl => ?_)
  refine lv_aload_n hx hb dL_law_1204 rfl (lv_at hl 3 rfl) ?_
  refine lv_aload_n hx hb dL_law_1205 rfl (lv_at hl 1 rfl) ?_
  refine lv_iload hx hb dL_law_1206 (lv_at hl 6 rfl) ?_
  refine lv_iconst (v := nI 1) hx hb dL_law_1208 kc_iconst_1 ?_
  refine r_addN hx hb dL_law_1209 ?_
  refine r_sld hx hb hX hbl hbA hL hw (i := (5 * k) + 1) (by omega) (v := p0) h1 dL_law_1210 ?_
  refine lv_aload_n hx hb dL_law_1211 rfl (lv_at hl 1 rfl) ?_
  refine lv_iload hx hb dL_law_1212 (lv_at hl 6 rfl) ?_
  refine lv_iconst (v := nI 2) hx hb dL_law_1214 kc_iconst_2 ?_
  refine r_addN hx hb dL_law_1215 ?_
  refine r_sld hx hb hX hbl hbA hL hw (i := (5 * k) + 2) (by omega) (v := p1) h2 dL_law_1216 ?_
  refine lv_aload_n hx hb dL_law_1217 rfl (lv_at hl 1 rfl) ?_
  refine lv_iload hx hb dL_law_1218 (lv_at hl 6 rfl) ?_
  refine lv_iconst (v := nI 3) hx hb dL_law_1220 kc_iconst_3 ?_
  refine r_addN hx hb dL_law_1221 ?_
  refine r_sld hx hb hX hbl hbA hL hw (i := (5 * k) + 3) (by omega) (v := p2) h3 dL_law_1222 ?_
  refine cp_Vi (As := [.int p0, .int p1, .int p2]) (rest := []) (wc := wM cI m9 sa tx th n7 ln po2 lt fi sc nu2 ad2 rv) (wr := ([(x9, .inr (3, [.ref (q 0), .ref (h9 0), .ref (t9 0)]))] : va_W) ++ wS cI q st ++ wR cR h9 (fr7 ad n8) ol n7 ++ wT cC t9 tx ln po ki rp tg nu ++ ([(o9, .inl (cJ, 1, .inr (.inl fo)))] : va_W) ++ ([(p9, .inl (cD, 1, .inr (.inr (.inr (.inl fd)))))] : va_W)) S (c_X4_entries_e1 l D (sz := H.size) (cI := cI) (m9 := m9) (sa := sa) (tx := tx) (th := th) (sv := n7) (ln := ln) (po := po2) (lt := lt) (fi := fi) (sc := sc) (nu := nu2) (ad := ad2) (rv := rv) (p0 := p0) (p1 := p1) (p2 := p2) (hv := hv)) (cwV 3 hts gL_law_X4_entries rfl rfl rfl (by decide +kernel) ⟨Nat.le_of_ble_eq_true rfl, Nat.le_of_ble_eq_true rfl⟩) hw hA [14, 15, 16] [0, 1, 2, 3, 4, 5, 6, 7, 8, 9, 10, 11, 12, 13] [0] rfl rfl (k0 := 17) rfl (by decide) rfl 0 rfl rfl rfl hl.1 (Nat.le_of_ble_eq_true rfl) ⟨(show (cells + 1) + 0 ≤ room_1.cells by omega), (show (slots + 6) + 0 ≤ room_1.slots by omega)⟩ rfl dL_law_1223 (fun r_1223 u_1223 H locs e_1223 hw => ?_)
  have hw : Wd D A [(cI, .int), (cR, .object RX1), (cC, .char), (cJ, .long), (cD, .double)] (wM cI m9 sa tx (nI 1) n7 ln po2 lt fi sc nu2 ad2 rv ++ ([(x9, .inr (3, [.ref (q 0), .ref (h9 0), .ref (t9 0)]))] : va_W) ++ wS cI q st ++ wR cR h9 (fr7 ad n8) ol n7 ++ wT cC t9 tx ln po ki rp tg nu ++ ([(o9, .inl (cJ, 1, .inr (.inl fo)))] : va_W) ++ ([(p9, .inl (cD, 1, .inr (.inr (.inr (.inl fd)))))] : va_W) ++ wP cI ad sv n8) s s.heap H locs := hw
  have e_1223 : r_1223 = nI 0 := e_1223
  subst e_1223
  refine lv_istore (lv' := [(7, .int (nI 0)), (6, .int (nI 1)), (0, .ref b), (1, .ref x9), (2, .ref (m9 0)), (3, .ref o9), (4, .ref p9), (5, .int (nI (5 * k)))]) hx hb dL_law_1226 hl (by decide) rfl (fun ls hl => ?_)
  refine lv_aload_n hx hb dL_law_1228 rfl (lv_at hl 4 rfl) ?_
  refine cq_V (As := []) (rest := []) S (c_X4_thrown l D (cI := cI) (m9 := m9) (sa := sa) (tx := tx) (th := nI 1) (sv := n7) (ln := ln) (po := po2) (lt := lt) (fi := fi) (sc := sc) (nu := nu2) (ad := ad2) (rv := rv)) (cwV 0 hts gL_law_X4_thrown rfl rfl rfl (by decide +kernel) ⟨Nat.le_of_ble_eq_true rfl, Nat.le_of_ble_eq_true rfl⟩) (hw.q.sub [0, 1, 2] [0] rfl rfl) 0 rfl rfl rfl hl.1 (Nat.le_of_ble_eq_true rfl) ⟨(show (cells + 1) ≤ room_1.cells by omega), (show (slots + 6) ≤ room_1.slots by omega)⟩ rfl dL_law_1229 (fun r_1229 e_1229 => ?_)
  have e_1229 : r_1229 = (nI 1) := e_1229
  subst e_1229
  refine lv_iload hx hb dL_law_1232 (lv_at hl 1 rfl) ?_
  refine r_icmp_eqN (tgt := 1239) hx hb (by decide) (by decide) dL_law_1234 (by decide) (fun _ => ?_) (fun h => absurd h (by decide))
  refine lv_iload hx hb dL_law_1239 (lv_at hl 1 rfl) ?_
  refine lv_if_ne (tgt := 1256) hx hb dL_law_1241 (by decide) (fun _ => ?_) (fun h => absurd h (by decide))
  refine lv_goto (tgt := 1875) hx hb dL_law_1256 (by decide) ?_
  have hw : Wd D A [(cI, .int), (cR, .object RX1), (cC, .char), (cJ, .long), (cD, .double)] (([(x9, .inr (3, [.ref (q 0), .ref (h9 0), .ref (t9 0)]))] : va_W) ++ wS cI q st ++ wR cR h9 (fr7 ad n8) ol n7 ++ wT cC t9 tx ln po ki rp tg nu ++ ([(o9, .inl (cJ, 1, .inr (.inl fo)))] : va_W) ++ ([(p9, .inl (cD, 1, .inr (.inr (.inr (.inl fd)))))] : va_W) ++ wM cI m9 sa tx (nI 1) n7 ln po2 lt fi sc nu2 ad2 rv ++ wP cI ad sv n8) s s.heap H locs := hw.ord [3, 4, 5, 6, 7, 8, 9, 10, 11, 12, 13, 14, 15, 16, 0, 1, 2] (k0 := 17) rfl rfl (by decide)
  have hl : lv_has ls 10 [(0, .ref b), (1, .ref x9), (2, .ref (m9 0)), (3, .ref o9), (4, .ref p9), (5, .int (nI (5 * k)))] := lv_sub hl [2, 3, 4, 5, 6, 7] rfl
  refine W.widen (k := cells + 7) (n := slots + 5790) (by omega) (by omega) ?_
  exact kk H locs ls ⟨st, ad, sv, ol, n7, n8, tx, ln, po, ki, rp, tg, nu, fo, fd, sa, nI 1, po2, lt, fi, sc, nu2, ad2, rv, hw, LV_m hLV (by omega)⟩ hl
