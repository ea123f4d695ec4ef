set_option maxHeartbeats 4000000 in
set_option maxRecDepth 100000 in
theorem law_latest_v {p : Program} {l : Launch} {e : Env} {s : State} {m : MethodId} {args : Array Value} {below : List Frame} {meth : Method} {c : Code} {Q : State → Prop} {D : va_G} {A : Nat → Prop} {b L : Nat} {xs : Nat → Int32} {cells slots : Nat} {cI cR cC cJ cD : ClassId} {x9 : Nat} {q h9 t9 : Nat → Nat} {o9 p9 : Nat} {m9 : Nat → Nat} {B k : Nat} (F : LF p l s m c args A b L xs) (hk5 : 5 * k + 5 ≤ L) (hB : B + 100 < 2 ^ 31) (hR : cells + 7 ≤ room_1.cells ∧ slots + 5790 ≤ room_1.slots) {st : St} {ad : Nat → Nat → Nat} {sv : Nat → St} {ol n7 n8 : Nat} {tx : Nat → Nat} {ln po : Nat} {ki rp tg nu : Int32} {fo : Nat → Int64} {fd : Nat → UInt64} {sa : Nat → Int32} {th : Int32} {po2 : Nat} {lt fi sc nu2 : Int32} {ad2 rv : Nat} {H : Heap} {locs : List Loc} (hw : Wd D A [(cI, .int), (cR, .object RX1), (cC, .char), (cJ, .long), (cD, .double)] ([(x9, .inr (3, [.ref (q 0), .ref (h9 0), .ref (t9 0)]))] ++ wS cI q st ++ wR cR h9 (fr7 ad n8) ol n7 ++ wT cC t9 tx ln po ki rp tg nu ++ [(o9, .inl (cJ, 1, .inr (.inl fo)))] ++ [(p9, .inl (cD, 1, .inr (.inr (.inr (.inl fd)))))] ++ wM cI m9 sa tx th n7 ln po2 lt fi sc nu2 ad2 rv ++ wP cI ad sv n8) s s.heap H locs) (hLV : LV st sv ol n7 n8 tx ln po sa po2 B) {ls : Array Slot} (hl : lv_has ls 10 [(0, .ref b), (1, .ref x9), (2, .ref (m9 0)), (3, .ref o9), (4, .ref p9), (5, .int (nI (5 * k)))]) {r w : Nat} (hr : r < 4) (hw5 : w < 6) (h1 : xs (5 * k + 1) = nI r) (h2 : xs (5 * k + 2) = nI w) (kk : ∀ (H : Heap) (locs : List Loc) (ls : Array Slot), LW D A s cI cR cC cJ cD x9 q h9 t9 o9 p9 m9 (B + 41) H locs → lv_has ls 10 [(0, .ref b), (1, .ref x9), (2, .ref (m9 0)), (3, .ref o9), (4, .ref p9), (5, .int (nI (5 * k)))] → W p l e room_1 s m args below meth c H locs (cells + 7) (slots + 5790) Q (F0 m 1875 ls [])) : W p l e room_1 s m args below meth c H locs cells slots Q (F0 m 827 ls []) := by
  obtain ⟨S, hz, hxe, hzq, hl9, hA, hX, hbl, hbA, hL⟩ := id F
  obtain ⟨hh, hRl, hHs, htx, hln, hpo, hpo2⟩ := id hLV
  have h6 : n7 ≤ 6 := Nat.le_trans hh.2.1 hh.2.2.1
  obtain ⟨hx, hb, hml, hown, hts⟩ := id S
  refine lv_aload_n hx hb dL_law_827 rfl (lv_at hl 1 rfl) ?_
  refine lv_aload_n hx hb dL_law_828 rfl (lv_at hl 0 rfl) ?_
  refine lv_iload hx hb dL_law_829 (lv_at hl 5 rfl) ?_
  refine lv_iconst (v := nI 1) hx hb dL_law_831 kc_iconst_1 ?_
  refine r_addN hx hb dL_law_832 ?_
  refine r_sld hx hb hX hbl hbA hL hw (i := (5 * k) + 1) (by omega) (v := nI r) h1 dL_law_833 ?_
  refine lv_aload_n hx hb dL_law_834 rfl (lv_at hl 0 rfl) ?_
  refine lv_iload hx hb dL_law_835 (lv_at hl 5 rfl) ?_
  refine lv_iconst (v := nI 2) hx hb dL_law_837 kc_iconst_2 ?_
  refine r_addN hx hb dL_law_838 ?_
  refine r_sld hx hb hX hbl hbA hL hw (i := (5 * k) + 2) (by omega) (v := nI w) h2 dL_law_839 ?_
  refine lv_aload_n hx hb dL_law_840 rfl (lv_at hl 3 rfl) ?_
  refine cpz_S (w1 := fun (u9 : Unit) => ([(x9, .inr (3, [.ref (q 0), .ref (h9 0), .ref (t9 0)]))] : va_W) ++ wS cI q st ++ wR cR h9 (fr7 ad n8) ol n7 ++ wT cC t9 tx ln po ki rp tg nu ++ ([(o9, .inl (cJ, 1, .inr (.inl (vp_updL fo 0 (((ltE st (r * 480 + w * 80 + 0 * 4) 4).2)).toInt64))))] : va_W)) (pl := fun (u9 : Unit) => wP cI ad sv n8) (As := [.ref x9, .int (nI r), .int (nI w), .ref o9]) (rest := []) (wc := ([(x9, .inr (3, [.ref (q 0), .ref (h9 0), .ref (t9 0)]))] : va_W) ++ wS cI q st ++ wR cR h9 (fr7 ad n8) ol n7 ++ wT cC t9 tx ln po ki rp tg nu ++ ([(o9, .inl (cJ, 1, .inr (.inl fo)))] : va_W)) (wr := ([(p9, .inl (cD, 1, .inr (.inr (.inr (.inl fd)))))] : va_W) ++ wM cI m9 sa tx th n7 ln po2 lt fi sc nu2 ad2 rv) S hz hxe hzq (c_L_latest_v l D (hl9 := hl9) (sz := H.size) (cI := cI) (cR := cR) (cC := cC) (x9 := x9) (q := q) (st := st) (h9 := h9) (ad := ad) (sv := sv) (ol := ol) (n7 := n7) (n8 := n8) (t9 := t9) (tx := tx) (ln := ln) (po := po) (ki := ki) (rp := rp) (tg := tg) (nu := nu) (cJ := cJ) (o9 := o9) (fo := fo) (r := r) (w := w) (hh := hh) (hr := by omega) (hw5 := by omega)) (vx_cwSW 4 hts gL_law_L_latest rfl rfl rfl (by decide +kernel) ⟨Nat.le_of_ble_eq_true rfl, Nat.le_of_ble_eq_true rfl⟩) hw hA [0, 1, 2, 3, 4, 5, 6, 7, 8, 9, 10, 11, 12] [13, 14, 15, 16] [0, 1, 2, 3] rfl rfl (k0 := 17) rfl (by decide) rfl rfl hl.1 (Nat.le_of_ble_eq_true rfl) ⟨(show cells + 0 ≤ room_1.cells by omega), (show slots + 0 ≤ room_1.slots by omega)⟩ rfl dL_law_841 (fun r_841 u_841 H locs e_841 hw => ?_)
  have hw : Wd D A [(cI, .int), (cR, .object RX1), (cC, .char), (cJ, .long), (cD, .double)] (([(x9, .inr (3, [.ref (q 0), .ref (h9 0), .ref (t9 0)]))] : va_W) ++ wS cI q st ++ wR cR h9 (fr7 ad n8) ol n7 ++ wT cC t9 tx ln po ki rp tg nu ++ ([(o9, .inl (cJ, 1, .inr (.inl (vp_updL fo 0 (((ltE st (r * 480 + w * 80 + 0 * 4) 4).2)).toInt64))))] : va_W) ++ ([(p9, .inl (cD, 1, .inr (.inr (.inr (.inl fd)))))] : va_W) ++ wM cI m9 sa tx th n7 ln po2 lt fi sc nu2 ad2 rv ++ wP cI ad sv n8) s s.heap H locs := hw
  have e_841 : r_841 = nI 0 := e_841
  subst e_841
  refine lv_istore (lv' := [(6, .int (nI 0)), (0, .ref b), (1, .ref x9), (2, .ref (m9 0)), (3, .ref o9), (4, .ref p9), (5, .int (nI (5 * k)))]) hx hb dL_law_844 hl (by decide) rfl (fun ls hl => ?_)
  refine lv_aload_n hx hb dL_law_846 rfl (lv_at hl 3 rfl) ?_
  refine lv_aload_n hx hb dL_law_847 rfl (lv_at hl 1 rfl) ?_
  refine lv_iload hx hb dL_law_848 (lv_at hl 6 rfl) ?_
  refine lv_iconst (v := nI 1) hx hb dL_law_850 kc_iconst_1 ?_
  refine r_addN hx hb dL_law_851 ?_
  refine r_sld hx hb hX hbl hbA hL hw (i := (5 * k) + 1) (by omega) (v := nI r) h1 dL_law_852 ?_
  refine lv_aload_n hx hb dL_law_853 rfl (lv_at hl 1 rfl) ?_
  refine lv_iload hx hb dL_law_854 (lv_at hl 6 rfl) ?_
  refine lv_iconst (v := nI 2) hx hb dL_law_856 kc_iconst_2 ?_
  refine r_addN hx hb dL_law_857 ?_
  refine r_sld hx hb hX hbl hbA hL hw (i := (5 * k) + 2) (by omega) (v := nI w) h2 dL_law_858 ?_
  refine cp_Vi (As := [.int (nI r), .int (nI w)]) (rest := []) (wc := wM cI m9 sa tx th n7 ln po2 lt fi sc nu2 ad2 rv) (wr := ([(x9, .inr (3, [.ref (q 0), .ref (h9 0), .ref (t9 0)]))] : va_W) ++ wS cI q st ++ wR cR h9 (fr7 ad n8) ol n7 ++ wT cC t9 tx ln po ki rp tg nu ++ ([(o9, .inl (cJ, 1, .inr (.inl (vp_updL fo 0 (((ltE st (r * 480 + w * 80 + 0 * 4) 4).2)).toInt64))))] : va_W) ++ ([(p9, .inl (cD, 1, .inr (.inr (.inr (.inl fd)))))] : va_W)) S (c_X4_latest_v l D (sz := H.size) (cI := cI) (m9 := m9) (sa := sa) (tx := tx) (th := th) (sv := n7) (ln := ln) (po := po2) (lt := lt) (fi := fi) (sc := sc) (nu := nu2) (ad := ad2) (rv := rv) (r := r) (w := w) (hr := by omega) (hw5 := by omega)) (cwV 2 hts gL_law_X4_latest rfl rfl rfl (by decide +kernel) ⟨Nat.le_of_ble_eq_true rfl, Nat.le_of_ble_eq_true rfl⟩) hw hA [14, 15, 16] [0, 1, 2, 3, 4, 5, 6, 7, 8, 9, 10, 11, 12, 13] [0] rfl rfl (k0 := 17) rfl (by decide) rfl 0 rfl rfl rfl hl.1 (Nat.le_of_ble_eq_true rfl) ⟨(show cells + 0 ≤ room_1.cells by omega), (show slots + 0 ≤ room_1.slots by omega)⟩ rfl dL_law_859 (fun r_859 u_859 H locs e_859 hw => ?_)
  have hw : Wd D A [(cI, .int), (cR, .object RX1), (cC, .char), (cJ, .long), (cD, .double)] (wM cI m9 sa tx (nI 0) n7 ln po2 lt fi sc nu2 ad2 rv ++ ([(x9, .inr (3, [.ref (q 0), .ref (h9 0), .ref (t9 0)]))] : va_W) ++ wS cI q st ++ wR cR h9 (fr7 ad n8) ol n7 ++ wT cC t9 tx ln po ki rp tg nu ++ ([(o9, .inl (cJ, 1, .inr (.inl (vp_updL fo 0 (((ltE st (r * 480 + w * 80 + 0 * 4) 4).2)).toInt64))))] : va_W) ++ ([(p9, .inl (cD, 1, .inr (.inr (.inr (.inl fd)))))] : va_W) ++ wP cI ad sv n8) s s.heap H locs := hw
  have e_859 : r_859 = ltM sa r w := e_859
  subst e_859
  refine lv_istore (lv' := [(7, .int (ltM sa r w)), (6, .int (nI 0)), (0, .ref b), (1, .ref x9), (2, .ref (m9 0)), (3, .ref o9), (4, .ref p9), (5, .int (nI (5 * k)))]) hx hb dL_law_862 hl (by decide) rfl (fun ls hl => ?_)
  refine lv_aload_n hx hb dL_law_864 rfl (lv_at hl 4 rfl) ?_
  refine cq_V (As := []) (rest := []) S (c_X4_thrown l D (cI := cI) (m9 := m9) (sa := sa) (tx := tx) (th := nI 0) (sv := n7) (ln := ln) (po := po2) (lt := lt) (fi := fi) (sc := sc) (nu := nu2) (ad := ad2) (rv := rv)) (cwV 0 hts gL_law_X4_thrown rfl rfl rfl (by decide +kernel) ⟨Nat.le_of_ble_eq_true rfl, Nat.le_of_ble_eq_true rfl⟩) (hw.q.sub [0, 1, 2] [0] rfl rfl) 0 rfl rfl rfl hl.1 (Nat.le_of_ble_eq_true rfl) ⟨(show cells ≤ room_1.cells by omega), (show slots ≤ room_1.slots by omega)⟩ rfl dL_law_865 (fun r_865 e_865 => ?_)
  have e_865 : r_865 = (nI 0) := e_865
  subst e_865
  refine lv_iload hx hb dL_law_868 (lv_at hl 1 rfl) ?_
  refine r_icmp_eqN (tgt := 875) hx hb (by decide) (by decide) dL_law_870 (by decide) (fun _ => ?_) (fun h => absurd h (by decide))
  refine lv_iload hx hb dL_law_875 (lv_at hl 1 rfl) ?_
  refine lv_if_ne (tgt := 892) hx hb dL_law_877 (by decide) (fun h => absurd h (by decide)) (fun _ => ?_)
  refine lv_aload_n hx hb dL_law_880 rfl (lv_at hl 5 rfl) ?_
  refine lv_iconst (v := nI 0) hx hb dL_law_881 kc_iconst_0 ?_
  refine r_out hx hb hw 15 3 rfl rfl dL_law_882 ?_
  refine lv_iload hx hb dL_law_883 (lv_at hl 0 rfl) ?_
  refine lv_i2l hx hb dL_law_885 rfl ?_
  refine r_lcmpE hx hb (show (((ltE st (r * 480 + w * 80 + 0 * 4) 4).2)).toInt64 = (ltM sa r w).toInt64 from congrArg Int32.toInt64 (lt_eq2 (by omega) hRl hr hw5)) dL_law_886 ?_
  refine lv_if_eq (tgt := 892) hx hb dL_law_887 (by decide) (fun _ => ?_) (fun h => absurd h (by decide))
  refine lv_goto (tgt := 1875) hx hb dL_law_892 (by decide) ?_
  have hw : Wd D A [(cI, .int), (cR, .object RX1), (cC, .char), (cJ, .long), (cD, .double)] (([(x9, .inr (3, [.ref (q 0), .ref (h9 0), .ref (t9 0)]))] : va_W) ++ wS cI q st ++ wR cR h9 (fr7 ad n8) ol n7 ++ wT cC t9 tx ln po ki rp tg nu ++ ([(o9, .inl (cJ, 1, .inr (.inl (vp_updL fo 0 (((ltE st (r * 480 + w * 80 + 0 * 4) 4).2)).toInt64))))] : va_W) ++ ([(p9, .inl (cD, 1, .inr (.inr (.inr (.inl fd)))))] : va_W) ++ wM cI m9 sa tx (nI 0) n7 ln po2 lt fi sc nu2 ad2 rv ++ wP cI ad sv n8) s s.heap H locs := hw.ord [3, 4, 5, 6, 7, 8, 9, 10, 11, 12, 13, 14, 15, 16, 0, 1, 2] (k0 := 17) rfl rfl (by decide)
  have hl : lv_has ls 10 [(0, .ref b), (1, .ref x9), (2, .ref (m9 0)), (3, .ref o9), (4, .ref p9), (5, .int (nI (5 * k)))] := lv_sub hl [2, 3, 4, 5, 6, 7] rfl
  refine W.widen (k := cells + 7) (n := slots + 5790) (by omega) (by omega) ?_
  exact kk H locs ls ⟨st, ad, sv, ol, n7, n8, tx, ln, po, ki, rp, tg, nu, vp_updL fo 0 (((ltE st (r * 480 + w * 80 + 0 * 4) 4).2)).toInt64, fd, sa, nI 0, po2, lt, fi, sc, nu2, ad2, rv, hw, LV_m hLV (by omega)⟩ hl
set_option maxHeartbeats 4000000 in
set_option maxRecDepth 100000 in
theorem law_sibling_v {p : Program} {l : Launch} {e : Env} {s : State} {m : MethodId} {args : Array Value} {below : List Frame} {meth : Method} {c : Code} {Q : State → Prop} {D : va_G} {A : Nat → Prop} {b L : Nat} {xs : Nat → Int32} {cells slots : Nat} {cI cR cC cJ cD : ClassId} {x9 : Nat} {q h9 t9 : Nat → Nat} {o9 p9 : Nat} {m9 : Nat → Nat} {B k : Nat} (F : LF p l s m c args A b L xs) (hk5 : 5 * k + 5 ≤ L) (hB : B + 100 < 2 ^ 31) (hR : cells + 7 ≤ room_1.cells ∧ slots + 5790 ≤ room_1.slots) {st : St} {ad : Nat → Nat → Nat} {sv : Nat → St} {ol n7 n8 : Nat} {tx : Nat → Nat} {ln po : Nat} {ki rp tg nu : Int32} {fo : Nat → Int64} {fd : Nat → UInt64} {sa : Nat → Int32} {th : Int32} {po2 : Nat} {lt fi sc nu2 : Int32} {ad2 rv : Nat} {H : Heap} {locs : List Loc} (hw : Wd D A [(cI, .int), (cR, .object RX1), (cC, .char), (cJ, .long), (cD, .double)] ([(x9, .inr (3, [.ref (q 0), .ref (h9 0), .ref (t9 0)]))] ++ wS cI q st ++ wR cR h9 (fr7 ad n8) ol n7 ++ wT cC t9 tx ln po ki rp tg nu ++ [(o9, .inl (cJ, 1, .inr (.inl fo)))] ++ [(p9, .inl (cD, 1, .inr (.inr (.inr (.inl fd)))))] ++ wM cI m9 sa tx th n7 ln po2 lt fi sc nu2 ad2 rv ++ wP cI ad sv n8) s s.heap H locs) (hLV : LV st sv ol n7 n8 tx ln po sa po2 B) {ls : Array Slot} (hl : lv_has ls 10 [(0, .ref b), (1, .ref x9), (2, .ref (m9 0)), (3, .ref o9), (4, .ref p9), (5, .int (nI (5 * k)))]) {r w : Nat} {x : Int32} (hr : r < 4) (hw5 : w < 6) (hx0 : 0 ≤ x) (h1 : xs (5 * k + 1) = nI r) (h2 : xs (5 * k + 2) = nI w) (h3 : xs (5 * k + 3) = x) (kk : ∀ (H : Heap) (locs : List Loc) (ls : Array Slot), LW D A s cI cR cC cJ cD x9 q h9 t9 o9 p9 m9 (B + 41) H locs → lv_has ls 10 [(0, .ref b), (1, .ref x9), (2, .ref (m9 0)), (3, .ref o9), (4, .ref p9), (5, .int (nI (5 * k)))] → W p l e room_1 s m args below meth c H locs (cells + 7) (slots + 5790) Q (F0 m 1875 ls [])) : W p l e room_1 s m args below meth c H locs cells slots Q (F0 m 895 ls []) := by
  obtain ⟨S, hz, hxe, hzq, hl9, hA, hX, hbl, hbA, hL⟩ := id F
  obtain ⟨hh, hRl, hHs, htx, hln, hpo, hpo2⟩ := id hLV
  have h6 : n7 ≤ 6 := Nat.le_trans hh.2.1 hh.2.2.1
  obtain ⟨hx, hb, hml, hown, hts⟩ := id S
  refine lv_aload_n hx hb dL_law_895 rfl (lv_at hl 1 rfl) ?_
  refine lv_aload_n hx hb dL_law_896 rfl (lv_at hl 0 rfl) ?_
  refine lv_iload hx hb dL_law_897 (lv_at hl 5 rfl) ?_
  refine lv_iconst (v := nI 1) hx hb dL_law_899 kc_iconst_1 ?_
  refine r_addN hx hb dL_law_900 ?_
  refine r_sld hx hb hX hbl hbA hL hw (i := (5 * k) + 1) (by omega) (v := nI r) h1 dL_law_901 ?_
  refine lv_aload_n hx hb dL_law_902 rfl (lv_at hl 0 rfl) ?_
  refine lv_iload hx hb dL_law_903 (lv_at hl 5 rfl) ?_
  refine lv_iconst (v := nI 2) hx hb dL_law_905 kc_iconst_2 ?_
  refine r_addN hx hb dL_law_906 ?_
  refine r_sld hx hb hX hbl hbA hL hw (i := (5 * k) + 2) (by omega) (v := nI w) h2 dL_law_907 ?_
  refine lv_aload_n hx hb dL_law_908 rfl (lv_at hl 0 rfl) ?_
  refine lv_iload hx hb dL_law_909 (lv_at hl 5 rfl) ?_
  refine lv_iconst (v := nI 3) hx hb dL_law_911 kc_iconst_3 ?_
  refine r_addN hx hb dL_law_912 ?_
  refine r_sld hx hb hX hbl hbA hL hw (i := (5 * k) + 3) (by omega) (v := x) h3 dL_law_913 ?_
  refine lv_aload_n hx hb dL_law_914 rfl (lv_at hl 3 rfl) ?_
  refine cpz_S (w1 := fun (u9 : Unit) => ([(x9, .inr (3, [.ref (q 0), .ref (h9 0), .ref (t9 0)]))] : va_W) ++ wS cI q st ++ wR cR h9 (fr7 ad n8) ol n7 ++ wT cC t9 tx ln po ki rp tg nu ++ ([(o9, .inl (cJ, 1, .inr (.inl (vp_updL fo 0 ((sbE st (r * 480 + w * 80 + 1 * 4) 4 x 4 0)).toInt64))))] : va_W)) (pl := fun (u9 : Unit) => wP cI ad sv n8) (As := [.ref x9, .int (nI r), .int (nI w), .int x, .ref o9]) (rest := []) (wc := ([(x9, .inr (3, [.ref (q 0), .ref (h9 0), .ref (t9 0)]))] : va_W) ++ wS cI q st ++ wR cR h9 (fr7 ad n8) ol n7 ++ wT cC t9 tx ln po ki rp tg nu ++ ([(o9, .inl (cJ, 1, .inr (.inl fo)))] : va_W)) (wr := ([(p9, .inl (cD, 1, .inr (.inr (.inr (.inl fd)))))] : va_W) ++ wM cI m9 sa tx th n7 ln po2 lt fi sc nu2 ad2 rv) S hz hxe hzq (c_L_sibling_v l D (hl9 := hl9) (sz := H.size) (cI := cI) (cR := cR) (cC := cC) (x9 := x9) (q := q) (st := st) (h9 := h9) (ad := ad) (sv := sv) (ol := ol) (n7 := n7) (n8 := n8) (t9 := t9) (tx := tx) (ln := ln) (po := po) (ki := ki) (rp := rp) (tg := tg) (nu := nu) (cJ := cJ) (o9 := o9) (fo := fo) (r := r) (w := w) (x := x) (hh := hh) (hr := by omega) (hw5 := by omega) (hx0 := hx0)) (vx_cwSW 5 hts gL_law_L_sibling rfl rfl rfl (by decide +kernel) ⟨Nat.le_of_ble_eq_true rfl, Nat.le_of_ble_eq_true rfl⟩) hw hA [0, 1, 2, 3, 4, 5, 6, 7, 8, 9, 10, 11, 12] [13, 14, 15, 16] [0, 1, 2, 3] rfl rfl (k0 := 17) rfl (by decide) rfl rfl hl.1 (Nat.le_of_ble_eq_true rfl) ⟨(show cells + 0 ≤ room_1.cells by omega), (show slots + 0 ≤ room_1.slots by omega)⟩ rfl dL_law_915 (fun r_915 u_915 H locs e_915 hw => ?_)
  have hw : Wd D A [(cI, .int), (cR, .object RX1), (cC, .char), (cJ, .long), (cD, .double)] (([(x9, .inr (3, [.ref (q 0), .ref (h9 0), .ref (t9 0)]))] : va_W) ++ wS cI q st ++ wR cR h9 (fr7 ad n8) ol n7 ++ wT cC t9 tx ln po ki rp tg nu ++ ([(o9, .inl (cJ, 1, .inr (.inl (vp_updL fo 0 ((sbE st (r * 480 + w * 80 + 1 * 4) 4 x 4 0)).toInt64))))] : va_W) ++ ([(p9, .inl (cD, 1, .inr (.inr (.inr (.inl fd)))))] : va_W) ++ wM cI m9 sa tx th n7 ln po2 lt fi sc nu2 ad2 rv ++ wP cI ad sv n8) s s.heap H locs := hw
  have e_915 : r_915 = nI 0 := e_915
  subst e_915
  refine lv_istore (lv' := [(6, .int (nI 0)), (0, .ref b), (1, .ref x9), (2, .ref (m9 0)), (3, .ref o9), (4, .ref p9), (5, .int (nI (5 * k)))]) hx hb dL_law_918 hl (by decide) rfl (fun ls hl => ?_)
  refine lv_aload_n hx hb dL_law_920 rfl (lv_at hl 3 rfl) ?_
  refine lv_aload_n hx hb dL_law_921 rfl (lv_at hl 1 rfl) ?_
  refine lv_iload hx hb dL_law_922 (lv_at hl 6 rfl) ?_
  refine lv_iconst (v := nI 1) hx hb dL_law_924 kc_iconst_1 ?_
  refine r_addN hx hb dL_law_925 ?_
  refine r_sld hx hb hX hbl hbA hL hw (i := (5 * k) + 1) (by omega) (v := nI r) h1 dL_law_926 ?_
  refine lv_aload_n hx hb dL_law_927 rfl (lv_at hl 1 rfl) ?_
  refine lv_iload hx hb dL_law_928 (lv_at hl 6 rfl) ?_
  refine lv_iconst (v := nI 2) hx hb dL_law_930 kc_iconst_2 ?_
  refine r_addN hx hb dL_law_931 ?_
  refine r_sld hx hb hX hbl hbA hL hw (i := (5 * k) + 2) (by omega) (v := nI w) h2 dL_law_932 ?_
  refine lv_aload_n hx hb dL_law_933 rfl (lv_at hl 1 rfl) ?_
  refine lv_iload hx hb dL_law_934 (lv_at hl 6 rfl) ?_
  refine lv_iconst (v := nI 3) hx hb dL_law_936 kc_iconst_3 ?_
  refine r_addN hx hb dL_law_937 ?_
  refine r_sld hx hb hX hbl hbA hL hw (i := (5 * k) + 3) (by omega) (v := x) h3 dL_law_938 ?_
  refine cp_Vi (As := [.int (nI r), .int (nI w), .int x]) (rest := []) (wc := wM cI m9 sa tx th n7 ln po2 lt fi sc nu2 ad2 rv) (wr := ([(x9, .inr (3, [.ref (q 0), .ref (h9 0), .ref (t9 0)]))] : va_W) ++ wS cI q st ++ wR cR h9 (fr7 ad n8) ol n7 ++ wT cC t9 tx ln po ki rp tg nu ++ ([(o9, .inl (cJ, 1, .inr (.inl (vp_updL fo 0 ((sbE st (r * 480 + w * 80 + 1 * 4) 4 x 4 0)).toInt64))))] : va_W) ++ ([(p9, .inl (cD, 1, .inr (.inr (.inr (.inl fd)))))] : va_W)) S (c_X4_sibling_v l D (sz := H.size) (cI := cI) (m9 := m9) (sa := sa) (tx := tx) (th := th) (sv := n7) (ln := ln) (po := po2) (lt := lt) (fi := fi) (sc := sc) (nu := nu2) (ad := ad2) (rv := rv) (r := r) (w := w) (x := x) (hr := by omega) (hw5 := by omega) (hx0 := Int32.not_lt.mpr hx0)) (cwV 3 hts gL_law_X4_sibling rfl rfl rfl (by decide +kernel) ⟨Nat.le_of_ble_eq_true rfl, Nat.le_of_ble_eq_true rfl⟩) hw hA [14, 15, 16] [0, 1, 2, 3, 4, 5, 6, 7, 8, 9, 10, 11, 12, 13] [0] rfl rfl (k0 := 17) rfl (by decide) rfl 0 rfl rfl rfl hl.1 (Nat.le_of_ble_eq_true rfl) ⟨(show cells + 0 ≤ room_1.cells by omega), (show slots + 0 ≤ room_1.slots by omega)⟩ rfl dL_law_939 (fun r_939 u_939 H locs e_939 hw => ?_)
  have hw : Wd D A [(cI, .int), (cR, .object RX1), (cC, .char), (cJ, .long), (cD, .double)] (wM cI m9 sa tx (nI 0) n7 ln po2 lt fi sc nu2 ad2 rv ++ ([(x9, .inr (3, [.ref (q 0), .ref (h9 0), .ref (t9 0)]))] : va_W) ++ wS cI q st ++ wR cR h9 (fr7 ad n8) ol n7 ++ wT cC t9 tx ln po ki rp tg nu ++ ([(o9, .inl (cJ, 1, .inr (.inl (vp_updL fo 0 ((sbE st (r * 480 + w * 80 + 1 * 4) 4 x 4 0)).toInt64))))] : va_W) ++ ([(p9, .inl (cD, 1, .inr (.inr (.inr (.inl fd)))))] : va_W) ++ wP cI ad sv n8) s s.heap H locs := hw
  have e_939 : r_939 = sbM sa r w x 4 0 := e_939
  subst e_939
  refine lv_istore (lv' := [(7, .int (sbM sa r w x 4 0)), (6, .int (nI 0)), (0, .ref b), (1, .ref x9), (2, .ref (m9 0)), (3, .ref o9), (4, .ref p9), (5, .int (nI (5 * k)))]) hx hb dL_law_942 hl (by decide) rfl (fun ls hl => ?_)
  refine lv_aload_n hx hb dL_law_944 rfl (lv_at hl 4 rfl) ?_
  refine cq_V (As := []) (rest := []) S (c_X4_thrown l D (cI := cI) (m9 := m9) (sa := sa) (tx := tx) (th := nI 0) (sv := n7) (ln := ln) (po := po2) (lt := lt) (fi := fi) (sc := sc) (nu := nu2) (ad := ad2) (rv := rv)) (cwV 0 hts gL_law_X4_thrown rfl rfl rfl (by decide +kernel) ⟨Nat.le_of_ble_eq_true rfl, Nat.le_of_ble_eq_true rfl⟩) (hw.q.sub [0, 1, 2] [0] rfl rfl) 0 rfl rfl rfl hl.1 (Nat.le_of_ble_eq_true rfl) ⟨(show cells ≤ room_1.cells by omega), (show slots ≤ room_1.slots by omega)⟩ rfl dL_law_945 (fun r_945 e_945 => ?_)
  have e_945 : r_945 = (nI 0) := e_945
  subst e_945
  refine lv_iload hx hb dL_law_948 (lv_at hl 1 rfl) ?_
  refine r_icmp_eqN (tgt := 955) hx hb (by decide) (by decide) dL_law_950 (by decide) (fun _ => ?_) (fun h => absurd h (by decide))
  refine lv_iload hx hb dL_law_955 (lv_at hl 1 rfl) ?_
  refine lv_if_ne (tgt := 972) hx hb dL_law_957 (by decide) (fun h => absurd h (by decide)) (fun _ => ?_)
  refine lv_aload_n hx hb dL_law_960 rfl (lv_at hl 5 rfl) ?_
  refine lv_iconst (v := nI 0) hx hb dL_law_961 kc_iconst_0 ?_
  refine r_out hx hb hw 15 3 rfl rfl dL_law_962 ?_
  refine lv_iload hx hb dL_law_963 (lv_at hl 0 rfl) ?_
  refine lv_i2l hx hb dL_law_965 rfl ?_
  refine r_lcmpE hx hb (show ((sbE st (r * 480 + w * 80 + 1 * 4) 4 x 4 0)).toInt64 = (sbM sa r w x 4 0).toInt64 from congrArg Int32.toInt64 (sb_eq x (by omega) hRl hr hw5 4 0 rfl)) dL_law_966 ?_
  refine lv_if_eq (tgt := 972) hx hb dL_law_967 (by decide) (fun _ => ?_) (fun h => absurd h (by decide))
  refine lv_goto (tgt := 1875) hx hb dL_law_972 (by decide) ?_
  have hw : Wd D A [(cI, .int), (cR, .object RX1), (cC, .char), (cJ, .long), (cD, .double)] (([(x9, .inr (3, [.ref (q 0), .ref (h9 0), .ref (t9 0)]))] : va_W) ++ wS cI q st ++ wR cR h9 (fr7 ad n8) ol n7 ++ wT cC t9 tx ln po ki rp tg nu ++ ([(o9, .inl (cJ, 1, .inr (.inl (vp_updL fo 0 ((sbE st (r * 480 + w * 80 + 1 * 4) 4 x 4 0)).toInt64))))] : va_W) ++ ([(p9, .inl (cD, 1, .inr (.inr (.inr (.inl fd)))))] : va_W) ++ wM cI m9 sa tx (nI 0) n7 ln po2 lt fi sc nu2 ad2 rv ++ wP cI ad sv n8) s s.heap H locs := hw.ord [3, 4, 5, 6, 7, 8, 9, 10, 11, 12, 13, 14, 15, 16, 0, 1, 2] (k0 := 17) rfl rfl (by decide)
  have hl : lv_has ls 10 [(0, .ref b), (1, .ref x9), (2, .ref (m9 0)), (3, .ref o9), (4, .ref p9), (5, .int (nI (5 * k)))] := lv_sub hl [2, 3, 4, 5, 6, 7] rfl
  refine W.widen (k := cells + 7) (n := slots + 5790) (by omega) (by omega) ?_
  exact kk H locs ls ⟨st, ad, sv, ol, n7, n8, tx, ln, po, ki, rp, tg, nu, vp_updL fo 0 ((sbE st (r * 480 + w * 80 + 1 * 4) 4 x 4 0)).toInt64, fd, sa, nI 0, po2, lt, fi, sc, nu2, ad2, rv, hw, LV_m hLV (by omega)⟩ hl
set_option maxHeartbeats 4000000 in
set_option maxRecDepth 100000 in
theorem law_greatest_v {p : Program} {l : Launch} {e : Env} {s : State} {m : MethodId} {args : Array Value} {below : List Frame} {meth : Method} {c : Code} {Q : State → Prop} {D : va_G} {A : Nat → Prop} {b L : Nat} {xs : Nat → Int32} {cells slots : Nat} {cI cR cC cJ cD : ClassId} {x9 : Nat} {q h9 t9 : Nat → Nat} {o9 p9 : Nat} {m9 : Nat → Nat} {B k : Nat} (F : LF p l s m c args A b L xs) (hk5 : 5 * k + 5 ≤ L) (hB : B + 100 < 2 ^ 31) (hR : cells + 7 ≤ room_1.cells ∧ slots + 5790 ≤ room_1.slots) {st : St} {ad : Nat → Nat → Nat} {sv : Nat → St} {ol n7 n8 : Nat} {tx : Nat → Nat} {ln po : Nat} {ki rp tg nu : Int32} {fo : Nat → Int64} {fd : Nat → UInt64} {sa : Nat → Int32} {th : Int32} {po2 : Nat} {lt fi sc nu2 : Int32} {ad2 rv : Nat} {H : Heap} {locs : List Loc} (hw : Wd D A [(cI, .int), (cR, .object RX1), (cC, .char), (cJ, .long), (cD, .double)] ([(x9, .inr (3, [.ref (q 0), .ref (h9 0), .ref (t9 0)]))] ++ wS cI q st ++ wR cR h9 (fr7 ad n8) ol n7 ++ wT cC t9 tx ln po ki rp tg nu ++ [(o9, .inl (cJ, 1, .inr (.inl fo)))] ++ [(p9, .inl (cD, 1, .inr (.inr (.inr (.inl fd)))))] ++ wM cI m9 sa tx th n7 ln po2 lt fi sc nu2 ad2 rv ++ wP cI ad sv n8) s s.heap H locs) (hLV : LV st sv ol n7 n8 tx ln po sa po2 B) {ls : Array Slot} (hl : lv_has ls 10 [(0, .ref b), (1, .ref x9), (2, .ref (m9 0)), (3, .ref o9), (4, .ref p9), (5, .int (nI (5 * k)))]) {r w : Nat} (hr : r < 4) (hw5 : w < 6) (h1 : xs (5 * k + 1) = nI r) (h2 : xs (5 * k + 2) = nI w) (kk : ∀ (H : Heap) (locs : List Loc) (ls : Array Slot), LW D A s cI cR cC cJ cD x9 q h9 t9 o9 p9 m9 (B + 41) H locs → lv_has ls 10 [(0, .ref b), (1, .ref x9), (2, .ref (m9 0)), (3, .ref o9), (4, .ref p9), (5, .int (nI (5 * k)))] → W p l e room_1 s m args below meth c H locs (cells + 7) (slots + 5790) Q (F0 m 1875 ls [])) : W p l e room_1 s m args below meth c H locs cells slots Q (F0 m 975 ls []) := by
  obtain ⟨S, hz, hxe, hzq, hl9, hA, hX, hbl, hbA, hL⟩ := id F
  obtain ⟨hh, hRl, hHs, htx, hln, hpo, hpo2⟩ := id hLV
  have h6 : n7 ≤ 6 := Nat.le_trans hh.2.1 hh.2.2.1
  obtain ⟨hx, hb, hml, hown, hts⟩ := id S
  refine lv_aload_n hx hb dL_law_975 rfl (lv_at hl 1 rfl) ?_
  refine lv_aload_n hx hb dL_law_976 rfl (lv_at hl 0 rfl) ?_
  refine lv_iload hx hb dL_law_977 (lv_at hl 5 rfl) ?_
  refine lv_iconst (v := nI 1) hx hb dL_law_979 kc_iconst_1 ?_
  refine r_addN hx hb dL_law_980 ?_
  refine r_sld hx hb hX hbl hbA hL hw (i := (5 * k) + 1) (by omega) (v := nI r) h1 dL_law_981 ?_
  refine lv_aload_n hx hb dL_law_982 rfl (lv_at hl 0 rfl) ?_
  refine lv_iload hx hb dL_law_983 (lv_at hl 5 rfl) ?_
  refine lv_iconst (v := nI 2) hx hb dL_law_985 kc_iconst_2 ?_
  refine r_addN hx hb dL_law_986 ?_
  refine r_sld hx hb hX hbl hbA hL hw (i := (5 * k) + 2) (by omega) (v := nI w) h2 dL_law_987 ?_
  refine lv_aload_n hx hb dL_law_988 rfl (lv_at hl 3 rfl) ?_
  refine cpz_S (w1 := fun (u9 : Unit) => ([(x9, .inr (3, [.ref (q 0), .ref (h9 0), .ref (t9 0)]))] : va_W) ++ wS cI q st ++ wR cR h9 (fr7 ad n8) ol n7 ++ wT cC t9 tx ln po ki rp tg nu ++ ([(o9, .inl (cJ, 1, .inr (.inl (vp_updL fo 0 ((grE st (r * 480 + w * 80 + 2 * 4) 4)).toInt64))))] : va_W)) (pl := fun (u9 : Unit) => wP cI ad sv n8) (As := [.ref x9, .int (nI r), .int (nI w), .ref o9]) (rest := []) (wc := ([(x9, .inr (3, [.ref (q 0), .ref (h9 0), .ref (t9 0)]))] : va_W) ++ wS cI q st ++ wR cR h9 (fr7 ad n8) ol n7 ++ wT cC t9 tx ln po ki rp tg nu ++ ([(o9, .inl (cJ, 1, .inr (.inl fo)))] : va_W)) (wr := ([(p9, .inl (cD, 1, .inr (.inr (.inr (.inl fd)))))] : va_W) ++ wM cI m9 sa tx th n7 ln po2 lt fi sc nu2 ad2 rv) S hz hxe hzq (c_L_greatest_v l D (hl9 := hl9) (sz := H.size) (cI := cI) (cR := cR) (cC := cC) (x9 := x9) (q := q) (st := st) (h9 := h9) (ad := ad) (sv := sv) (ol := ol) (n7 := n7) (n8 := n8) (t9 := t9) (tx := tx) (ln := ln) (po := po) (ki := ki) (rp := rp) (tg := tg) (nu := nu) (cJ := cJ) (o9 := o9) (fo := fo) (r := r) (w := w) (hh := hh) (hr := by omega) (hw5 := by omega)) (vx_cwSW 4 hts gL_law_L_greatest rfl rfl rfl (by decide +kernel) ⟨Nat.le_of_ble_eq_true rfl, Nat.le_of_ble_eq_true rfl⟩) hw hA [0, 1, 2, 3, 4, 5, 6, 7, 8, 9, 10, 11, 12] [13, 14, 15, 16] [0, 1, 2, 3] rfl rfl (k0 := 17) rfl (by decide) rfl rfl hl.1 (Nat.le_of_ble_eq_true rfl) ⟨(show cells + 0 ≤ room_1.cells by omega), (show slots + 0 ≤ room_1.slots by omega)⟩ rfl dL_law_989 (fun r_989 u_989 H locs e_989 hw => ?_)
  have hw : Wd D A [(cI, .int), (cR, .object RX1), (cC, .char), (cJ, .long), (cD, .double)] (([(x9, .inr (3, [.ref (q 0), .ref (h9 0), .ref (t9 0)]))] : va_W) ++ wS cI q st ++ wR cR h9 (fr7 ad n8) ol n7 ++ wT cC t9 tx ln po ki rp tg nu ++ ([(o9, .inl (cJ, 1, .inr (.inl (vp_updL fo 0 ((grE st (r * 480 + w * 80 + 2 * 4) 4)).toInt64))))] : va_W) ++ ([(p9, .inl (cD, 1, .inr (.inr (.inr (.inl fd)))))] : va_W) ++ wM cI m9 sa tx th n7 ln po2 lt fi sc nu2 ad2 rv ++ wP cI ad sv n8) s s.heap H locs := hw
  have e_989 : r_989 = nI 0 := e_989
  subst e_989
  refine lv_istore (lv' := [(6, .int (nI 0)), (0, .ref b), (1, .ref x9), (2, .ref (m9 0)), (3, .ref o9), (4, .ref p9), (5, .int (nI (5 * k)))]) hx hb dL_law_992 hl (by decide) rfl (fun ls hl => ?_)
  refine lv_aload_n hx hb dL_law_994 rfl (lv_at hl 3 rfl) ?_
  refine lv_aload_n hx hb dL_law_995 rfl (lv_at hl 1 rfl) ?_
  refine lv_iload hx hb dL_law_996 (lv_at hl 6 rfl) ?_
  refine lv_iconst (v := nI 1) hx hb dL_law_998 kc_iconst_1 ?_
  refine r_addN hx hb dL_law_999 ?_
  refine r_sld hx hb hX hbl hbA hL hw (i := (5 * k) + 1) (by omega) (v := nI r) h1 dL_law_1000 ?_
  refine lv_aload_n hx hb dL_law_1001 rfl (lv_at hl 1 rfl) ?_
  refine lv_iload hx hb dL_law_1002 (lv_at hl 6 rfl) ?_
  refine lv_iconst (v := nI 2) hx hb dL_law_1004 kc_iconst_2 ?_
  refine r_addN hx hb dL_law_1005 ?_
  refine r_sld hx hb hX hbl hbA hL hw (i := (5 * k) + 2) (by omega) (v := nI w) h2 dL_law_1006 ?_
  refine cp_Vi (As := [.int (nI r), .int (nI w)]) (rest := []) (wc := wM cI m9 sa tx th n7 ln po2 lt fi sc nu2 ad2 rv) (wr := ([(x9, .inr (3, [.ref (q 0), .ref (h9 0), .ref (t9 0)]))] : va_W) ++ wS cI q st ++ wR cR h9 (fr7 ad n8) ol n7 ++ wT cC t9 tx ln po ki rp tg nu ++ ([(o9, .inl (cJ, 1, .inr (.inl (vp_updL fo 0 ((grE st (r * 480 + w * 80 + 2 * 4) 4)).toInt64))))] : va_W) ++ ([(p9, .inl (cD, 1, .inr (.inr (.inr (.inl fd)))))] : va_W)) S (c_X4_greatest_v l D (sz := H.size) (cI := cI) (m9 := m9) (sa := sa) (tx := tx) (th := th) (sv := n7) (ln := ln) (po := po2) (lt := lt) (fi := fi) (sc := sc) (nu := nu2) (ad := ad2) (rv := rv) (r := r) (w := w) (hr := by omega) (hw5 := by omega)) (cwV 2 hts gL_law_X4_greatest rfl rfl rfl (by decide +kernel) ⟨Nat.le_of_ble_eq_true rfl, Nat.le_of_ble_eq_true rfl⟩) hw hA [14, 15, 16] [0, 1, 2, 3, 4, 5, 6, 7, 8, 9, 10, 11, 12, 13] [0] rfl rfl (k0 := 17) rfl (by decide) rfl 0 rfl rfl rfl hl.1 (Nat.le_of_ble_eq_true rfl) ⟨(show cells + 0 ≤ room_1.cells by omega), (show slots + 0 ≤ room_1.slots by omega)⟩ rfl dL_law_1007 (fun r_1007 u_1007 H locs e_1007 hw => ?_)
  have hw : Wd D A [(cI, .int), (cR, .object RX1), (cC, .char), (cJ, .long), (cD, .double)] (wM cI m9 sa tx (nI 0) n7 ln po2 lt fi sc nu2 ad2 rv ++ ([(x9, .inr (3, [.ref (q 0), .ref (h9 0), .ref (t9 0)]))] : va_W) ++ wS cI q st ++ wR cR h9 (fr7 ad n8) ol n7 ++ wT cC t9 tx ln po ki rp tg nu ++ ([(o9, .inl (cJ, 1, .inr (.inl (vp_updL fo 0 ((grE st (r * 480 + w * 80 + 2 * 4) 4)).toInt64))))] : va_W) ++ ([(p9, .inl (cD, 1, .inr (.inr (.inr (.inl fd)))))] : va_W) ++ wP cI ad sv n8) s s.heap H locs := hw
  have e_1007 : r_1007 = goM sa r w 4 := e_1007
  subst e_1007
  refine lv_istore (lv' := [(7, .int (goM sa r w 4)), (6, .int (nI 0)), (0, .ref b), (1, .ref x9), (2, .ref (m9 0)), (3, .ref o9), (4, .ref p9), (5, .int (nI (5 * k)))]) hx hb dL_law_1010 hl (by decide) rfl (fun ls hl => ?_)
  refine lv_aload_n hx hb dL_law_1012 rfl (lv_at hl 4 rfl) ?_
  refine cq_V (As := []) (rest := []) S (c_X4_thrown l D (cI := cI) (m9 := m9) (sa := sa) (tx := tx) (th := nI 0) (sv := n7) (ln := ln) (po := po2) (lt := lt) (fi := fi) (sc := sc) (nu := nu2) (ad := ad2) (rv := rv)) (cwV 0 hts gL_law_X4_thrown rfl rfl rfl (by decide +kernel) ⟨Nat.le_of_ble_eq_true rfl, Nat.le_of_ble_eq_true rfl⟩) (hw.q.sub [0, 1, 2] [0] rfl rfl) 0 rfl rfl rfl hl.1 (Nat.le_of_ble_eq_true rfl) ⟨(show cells ≤ room_1.cells by omega), (show slots ≤ room_1.slots by omega)⟩ rfl dL_law_1013 (fun r_1013 e_1013 => ?_)
  have e_1013 : r_1013 = (nI 0) := e_1013
  subst e_1013
  refine lv_iload hx hb dL_law_1016 (lv_at hl 1 rfl) ?_
  refine r_icmp_eqN (tgt := 1023) hx hb (by decide) (by decide) dL_law_1018 (by decide) (fun _ => ?_) (fun h => absurd h (by decide))
  refine lv_iload hx hb dL_law_1023 (lv_at hl 1 rfl) ?_
  refine lv_if_ne (tgt := 1040) hx hb dL_law_1025 (by decide) (fun h => absurd h (by decide)) (fun _ => ?_)
  refine lv_aload_n hx hb dL_law_1028 rfl (lv_at hl 5 rfl) ?_
  refine lv_iconst (v := nI 0) hx hb dL_law_1029 kc_iconst_0 ?_
  refine r_out hx hb hw 15 3 rfl rfl dL_law_1030 ?_
  refine lv_iload hx hb dL_law_1031 (lv_at hl 0 rfl) ?_
  refine lv_i2l hx hb dL_law_1033 rfl ?_
  refine r_lcmpE hx hb (show ((grE st (r * 480 + w * 80 + 2 * 4) 4)).toInt64 = (goM sa r w 4).toInt64 from congrArg Int32.toInt64 (gr_eq (by omega) hRl hr hw5 4 (Nat.le_refl _))) dL_law_1034 ?_
  refine lv_if_eq (tgt := 1040) hx hb dL_law_1035 (by decide) (fun _ => ?_) (fun h => absurd h (by decide))
  refine lv_goto (tgt := 1875) hx hb dL_law_1040 (by decide) ?_
  have hw : Wd D A [(cI, .int), (cR, .object RX1), (cC, .char), (cJ, .long), (cD, .double)] (([(x9, .inr (3, [.ref (q 0), .ref (h9 0), .ref (t9 0)]))] : va_W) ++ wS cI q st ++ wR cR h9 (fr7 ad n8) ol n7 ++ wT cC t9 tx ln po ki rp tg nu ++ ([(o9, .inl (cJ, 1, .inr (.inl (vp_updL fo 0 ((grE st (r * 480 + w * 80 + 2 * 4) 4)).toInt64))))] : va_W) ++ ([(p9, .inl (cD, 1, .inr (.inr (.inr (.inl fd)))))] : va_W) ++ wM cI m9 sa tx (nI 0) n7 ln po2 lt fi sc nu2 ad2 rv ++ wP cI ad sv n8) s s.heap H locs := hw.ord [3, 4, 5, 6, 7, 8, 9, 10, 11, 12, 13, 14, 15, 16, 0, 1, 2] (k0 := 17) rfl rfl (by decide)
  have hl : lv_has ls 10 [(0, .ref b), (1, .ref x9), (2, .ref (m9 0)), (3, .ref o9), (4, .ref p9), (5, .int (nI (5 * k)))] := lv_sub hl [2, 3, 4, 5, 6, 7] rfl
  refine W.widen (k := cells + 7) (n := slots + 5790) (by omega) (by omega) ?_
  exact kk H locs ls ⟨st, ad, sv, ol, n7, n8, tx, ln, po, ki, rp, tg, nu, vp_updL fo 0 ((grE st (r * 480 + w * 80 + 2 * 4) 4)).toInt64, fd, sa, nI 0, po2, lt, fi, sc, nu2, ad2, rv, hw, LV_m hLV (by omega)⟩ hl
set_option maxHeartbeats 4000000 in
set_option maxRecDepth 100000 in
theorem law_counter_v {p : Program} {l : Launch} {e : Env} {s : State} {m : MethodId} {args : Array Value} {below : List Frame} {meth : Method} {c : Code} {Q : State → Prop} {D : va_G} {A : Nat → Prop} {b L : Nat} {xs : Nat → Int32} {cells slots : Nat} {cI cR cC cJ cD : ClassId} {x9 : Nat} {q h9 t9 : Nat → Nat} {o9 p9 : Nat} {m9 : Nat → Nat} {B k : Nat} (F : LF p l s m c args A b L xs) (hk5 : 5 * k + 5 ≤ L) (hB : B + 100 < 2 ^ 31) (hR : cells + 7 ≤ room_1.cells ∧ slots + 5790 ≤ room_1.slots) {st : St} {ad : Nat → Nat → Nat} {sv : Nat → St} {ol n7 n8 : Nat} {tx : Nat → Nat} {ln po : Nat} {ki rp tg nu : Int32} {fo : Nat → Int64} {fd : Nat → UInt64} {sa : Nat → Int32} {th : Int32} {po2 : Nat} {lt fi sc nu2 : Int32} {ad2 rv : Nat} {H : Heap} {locs : List Loc} (hw : Wd D A [(cI, .int), (cR, .object RX1), (cC, .char), (cJ, .long), (cD, .double)] ([(x9, .inr (3, [.ref (q 0), .ref (h9 0), .ref (t9 0)]))] ++ wS cI q st ++ wR cR h9 (fr7 ad n8) ol n7 ++ wT cC t9 tx ln po ki rp tg nu ++ [(o9, .inl (cJ, 1, .inr (.inl fo)))] ++ [(p9, .inl (cD, 1, .inr (.inr (.inr (.inl fd)))))] ++ wM cI m9 sa tx th n7 ln po2 lt fi sc nu2 ad2 rv ++ wP cI ad sv n8) s s.heap H locs) (hLV : LV st sv ol n7 n8 tx ln po sa po2 B) {ls : Array Slot} (hl : lv_has ls 10 [(0, .ref b), (1, .ref x9), (2, .ref (m9 0)), (3, .ref o9), (4, .ref p9), (5, .int (nI (5 * k)))]) {r w : Nat} (hr : r < 4) (hw5 : w < 6) (h1 : xs (5 * k + 1) = nI r) (h2 : xs (5 * k + 2) = nI w) (kk : ∀ (H : Heap) (locs : List Loc) (ls : Array Slot), LW D A s cI cR cC cJ cD x9 q h9 t9 o9 p9 m9 (B + 41) H locs → lv_has ls 10 [(0, .ref b), (1, .ref x9), (2, .ref (m9 0)), (3, .ref o9), (4, .ref p9), (5, .int (nI (5 * k)))] → W p l e room_1 s m args below meth c H locs (cells + 7) (slots + 5790) Q (F0 m 1875 ls [])) : W p l e room_1 s m args below meth c H locs cells slots Q (F0 m 1043 ls []) := by
  obtain ⟨S, hz, hxe, hzq, hl9, hA, hX, hbl, hbA, hL⟩ := id F
  obtain ⟨hh, hRl, hHs, htx, hln, hpo, hpo2⟩ := id hLV
  have h6 : n7 ≤ 6 := Nat.le_trans hh.2.1 hh.2.2.1
  obtain ⟨hx, hb, hml, hown, hts⟩ := id S
  refine lv_aload_n hx hb dL_law_1043 rfl (lv_at hl 1 rfl) ?_
  refine lv_aload_n hx hb dL_law_1044 rfl (lv_at hl 0 rfl) ?_
  refine lv_iload hx hb dL_law_1045 (lv_at hl 5 rfl) ?_
  refine lv_iconst (v := nI 1) hx hb dL_law_1047 kc_iconst_1 ?_
  refine r_addN hx hb dL_law_1048 ?_
  refine r_sld hx hb hX hbl hbA hL hw (i := (5 * k) + 1) (by omega) (v := nI r) h1 dL_law_1049 ?_
  refine lv_aload_n hx hb dL_law_1050 rfl (lv_at hl 0 rfl) ?_
  refine lv_iload hx hb dL_law_1051 (lv_at hl 5 rfl) ?_
  refine lv_iconst (v := nI 2) hx hb dL_law_1053 kc_iconst_2 ?_
  refine r_addN hx hb dL_law_1054 ?_
  refine r_sld hx hb hX hbl hbA hL hw (i := (5 * k) + 2) (by omega) (v := nI w) h2 dL_law_1055 ?_
  refine lv_aload_n hx hb dL_law_1056 rfl (lv_at hl 3 rfl) ?_
  refine cpz_S (w1 := fun (u9 : Unit) => ([(x9, .inr (3, [.ref (q 0), .ref (h9 0), .ref (t9 0)]))] : va_W) ++ wS cI q st ++ wR cR h9 (fr7 ad n8) ol n7 ++ wT cC t9 tx ln po ki rp tg nu ++ ([(o9, .inl (cJ, 1, .inr (.inl (vp_updL fo 0 ((smE st (r * 480 + w * 80 + 3 * 4) (cE 3 * 4 - 3 * 4))).toInt64))))] : va_W)) (pl := fun (u9 : Unit) => wP cI ad sv n8) (As := [.ref x9, .int (nI r), .int (nI w), .ref o9]) (rest := []) (wc := ([(x9, .inr (3, [.ref (q 0), .ref (h9 0), .ref (t9 0)]))] : va_W) ++ wS cI q st ++ wR cR h9 (fr7 ad n8) ol n7 ++ wT cC t9 tx ln po ki rp tg nu ++ ([(o9, .inl (cJ, 1, .inr (.inl fo)))] : va_W)) (wr := ([(p9, .inl (cD, 1, .inr (.inr (.inr (.inl fd)))))] : va_W) ++ wM cI m9 sa tx th n7 ln po2 lt fi sc nu2 ad2 rv) S hz hxe hzq (c_L_counter_v l D (hl9 := hl9) (sz := H.size) (cI := cI) (cR := cR) (cC := cC) (x9 := x9) (q := q) (st := st) (h9 := h9) (ad := ad) (sv := sv) (ol := ol) (n7 := n7) (n8 := n8) (t9 := t9) (tx := tx) (ln := ln) (po := po) (ki := ki) (rp := rp) (tg := tg) (nu := nu) (cJ := cJ) (o9 := o9) (fo := fo) (r := r) (w := w) (hh := hh) (hr := by omega) (hw5 := by omega)) (vx_cwSW 4 hts gL_law_L_counter rfl rfl rfl (by decide +kernel) ⟨Nat.le_of_ble_eq_true rfl, Nat.le_of_ble_eq_true rfl⟩) hw hA [0, 1, 2, 3, 4, 5, 6, 7, 8, 9, 10, 11, 12] [13, 14, 15, 16] [0, 1, 2, 3] rfl rfl (k0 := 17) rfl (by decide) rfl rfl hl.1 (Nat.le_of_ble_eq_true rfl) ⟨(show cells + 0 ≤ room_1.cells by omega), (show slots + 0 ≤ room_1.slots by omega)⟩ rfl dL_law_1057 (fun r_1057 u_1057 H locs e_1057 hw => ?_)
  have hw : Wd D A [(cI, .int), (cR, .object RX1), (cC, .char), (cJ, .long), (cD, .double)] (([(x9, .inr (3, [.ref (q 0), .ref (h9 0), .ref (t9 0)]))] : va_W) ++ wS cI q st ++ wR cR h9 (fr7 ad n8) ol n7 ++ wT cC t9 tx ln po ki rp tg nu ++ ([(o9, .inl (cJ, 1, .inr (.inl (vp_updL fo 0 ((smE st (r * 480 + w * 80 + 3 * 4) (cE 3 * 4 - 3 * 4))).toInt64))))] : va_W) ++ ([(p9, .inl (cD, 1, .inr (.inr (.inr (.inl fd)))))] : va_W) ++ wM cI m9 sa tx th n7 ln po2 lt fi sc nu2 ad2 rv ++ wP cI ad sv n8) s s.heap H locs := hw
  have e_1057 : r_1057 = nI 0 := e_1057
  subst e_1057
  refine lv_istore (lv' := [(6, .int (nI 0)), (0, .ref b), (1, .ref x9), (2, .ref (m9 0)), (3, .ref o9), (4, .ref p9), (5, .int (nI (5 * k)))]) hx hb dL_law_1060 hl (by decide) rfl (fun ls hl => ?_)
  refine lv_aload_n hx hb dL_law_1062 rfl (lv_at hl 3 rfl) ?_
  refine lv_aload_n hx hb dL_law_1063 rfl (lv_at hl 1 rfl) ?_
  refine lv_iload hx hb dL_law_1064 (lv_at hl 6 rfl) ?_
  refine lv_iconst (v := nI 1) hx hb dL_law_1066 kc_iconst_1 ?_
  refine r_addN hx hb dL_law_1067 ?_
  refine r_sld hx hb hX hbl hbA hL hw (i := (5 * k) + 1) (by omega) (v := nI r) h1 dL_law_1068 ?_
  refine lv_aload_n hx hb dL_law_1069 rfl (lv_at hl 1 rfl) ?_
  refine lv_iload hx hb dL_law_1070 (lv_at hl 6 rfl) ?_
  refine lv_iconst (v := nI 2) hx hb dL_law_1072 kc_iconst_2 ?_
  refine r_addN hx hb dL_law_1073 ?_
  refine r_sld hx hb hX hbl hbA hL hw (i := (5 * k) + 2) (by omega) (v := nI w) h2 dL_law_1074 ?_
  refine cp_Vi (As := [.int (nI r), .int (nI w)]) (rest := []) (wc := wM cI m9 sa tx th n7 ln po2 lt fi sc nu2 ad2 rv) (wr := ([(x9, .inr (3, [.ref (q 0), .ref (h9 0), .ref (t9 0)]))] : va_W) ++ wS cI q st ++ wR cR h9 (fr7 ad n8) ol n7 ++ wT cC t9 tx ln po ki rp tg nu ++ ([(o9, .inl (cJ, 1, .inr (.inl (vp_updL fo 0 ((smE st (r * 480 + w * 80 + 3 * 4) (cE 3 * 4 - 3 * 4))).toInt64))))] : va_W) ++ ([(p9, .inl (cD, 1, .inr (.inr (.inr (.inl fd)))))] : va_W)) S (c_X4_counter_v l D (sz := H.size) (cI := cI) (m9 := m9) (sa := sa) (tx := tx) (th := th) (sv := n7) (ln := ln) (po := po2) (lt := lt) (fi := fi) (sc := sc) (nu := nu2) (ad := ad2) (rv := rv) (r := r) (w := w) (hr := by omega) (hw5 := by omega)) (cwV 2 hts gL_law_X4_counter rfl rfl rfl (by decide +kernel) ⟨Nat.le_of_ble_eq_true rfl, Nat.le_of_ble_eq_true rfl⟩) hw hA [14, 15, 16] [0, 1, 2, 3, 4, 5, 6, 7, 8, 9, 10, 11, 12, 13] [0] rfl rfl (k0 := 17) rfl (by decide) rfl 0 rfl rfl rfl hl.1 (Nat.le_of_ble_eq_true rfl) ⟨(show cells + 0 ≤ room_1.cells by omega), (show slots + 0 ≤ room_1.slots by omega)⟩ rfl dL_law_1075 (fun r_1075 u_1075 H locs e_1075 hw => ?_)
  have hw : Wd D A [(cI, .int), (cR, .object RX1), (cC, .char), (cJ, .long), (cD, .double)] (wM cI m9 sa tx (nI 0) n7 ln po2 lt fi sc nu2 ad2 rv ++ ([(x9, .inr (3, [.ref (q 0), .ref (h9 0), .ref (t9 0)]))] : va_W) ++ wS cI q st ++ wR cR h9 (fr7 ad n8) ol n7 ++ wT cC t9 tx ln po ki rp tg nu ++ ([(o9, .inl (cJ, 1, .inr (.inl (vp_updL fo 0 ((smE st (r * 480 + w * 80 + 3 * 4) (cE 3 * 4 - 3 * 4))).toInt64))))] : va_W) ++ ([(p9, .inl (cD, 1, .inr (.inr (.inr (.inl fd)))))] : va_W) ++ wP cI ad sv n8) s s.heap H locs := hw
  have e_1075 : r_1075 = smM sa r w 3 4 := e_1075
  subst e_1075
  refine lv_istore (lv' := [(7, .int (smM sa r w 3 4)), (6, .int (nI 0)), (0, .ref b), (1, .ref x9), (2, .ref (m9 0)), (3, .ref o9), (4, .ref p9), (5, .int (nI (5 * k)))]) hx hb dL_law_1078 hl (by decide) rfl (fun ls hl => ?_)
  refine lv_aload_n hx hb dL_law_1080 rfl (lv_at hl 4 rfl) ?_
  refine cq_V (As := []) (rest := []) S (c_X4_thrown l D (cI := cI) (m9 := m9) (sa := sa) (tx := tx) (th := nI 0) (sv := n7) (ln := ln) (po := po2) (lt := lt) (fi := fi) (sc := sc) (nu := nu2) (ad := ad2) (rv := rv)) (cwV 0 hts gL_law_X4_thrown rfl rfl rfl (by decide +kernel) ⟨Nat.le_of_ble_eq_true rfl, Nat.le_of_ble_eq_true rfl⟩) (hw.q.sub [0, 1, 2] [0] rfl rfl) 0 rfl rfl rfl hl.1 (Nat.le_of_ble_eq_true rfl) ⟨(show cells ≤ room_1.cells by omega), (show slots ≤ room_1.slots by omega)⟩ rfl dL_law_1081 (fun r_1081 e_1081 => ?_)
  have e_1081 : r_1081 = (nI 0) := e_1081
  subst e_1081
  refine lv_iload hx hb dL_law_1084 (lv_at hl 1 rfl) ?_
  refine r_icmp_eqN (tgt := 1091) hx hb (by decide) (by decide) dL_law_1086 (by decide) (fun _ => ?_) (fun h => absurd h (by decide))
  refine lv_iload hx hb dL_law_1091 (lv_at hl 1 rfl) ?_
  refine lv_if_ne (tgt := 1108) hx hb dL_law_1093 (by decide) (fun h => absurd h (by decide)) (fun _ => ?_)
  refine lv_aload_n hx hb dL_law_1096 rfl (lv_at hl 5 rfl) ?_
  refine lv_iconst (v := nI 0) hx hb dL_law_1097 kc_iconst_0 ?_
  refine r_out hx hb hw 15 3 rfl rfl dL_law_1098 ?_
  refine lv_iload hx hb dL_law_1099 (lv_at hl 0 rfl) ?_
  refine lv_i2l hx hb dL_law_1101 rfl ?_
  refine r_lcmpE hx hb (show ((smE st (r * 480 + w * 80 + 3 * 4) (cE 3 * 4 - 3 * 4))).toInt64 = (smM sa r w 3 4).toInt64 from congrArg Int32.toInt64 (sm_eq (by omega) hRl hr hw5 (by decide) 4 (Nat.le_refl _))) dL_law_1102 ?_
  refine lv_if_eq (tgt := 1108) hx hb dL_law_1103 (by decide) (fun _ => ?_) (fun h => absurd h (by decide))
  refine lv_goto (tgt := 1875) hx hb dL_law_1108 (by decide) ?_
  have hw : Wd D A [(cI, .int), (cR, .object RX1), (cC, .char), (cJ, .long), (cD, .double)] (([(x9, .inr (3, [.ref (q 0), .ref (h9 0), .ref (t9 0)]))] : va_W) ++ wS cI q st ++ wR cR h9 (fr7 ad n8) ol n7 ++ wT cC t9 tx ln po ki rp tg nu ++ ([(o9, .inl (cJ, 1, .inr (.inl (vp_updL fo 0 ((smE st (r * 480 + w * 80 + 3 * 4) (cE 3 * 4 - 3 * 4))).toInt64))))] : va_W) ++ ([(p9, .inl (cD, 1, .inr (.inr (.inr (.inl fd)))))] : va_W) ++ wM cI m9 sa tx (nI 0) n7 ln po2 lt fi sc nu2 ad2 rv ++ wP cI ad sv n8) s s.heap H locs := hw.ord [3, 4, 5, 6, 7, 8, 9, 10, 11, 12, 13, 14, 15, 16, 0, 1, 2] (k0 := 17) rfl rfl (by decide)
  have hl : lv_has ls 10 [(0, .ref b), (1, .ref x9), (2, .ref (m9 0)), (3, .ref o9), (4, .ref p9), (5, .int (nI (5 * k)))] := lv_sub hl [2, 3, 4, 5, 6, 7] rfl
  refine W.widen (k := cells + 7) (n := slots + 5790) (by omega) (by omega) ?_
  exact kk H locs ls ⟨st, ad, sv, ol, n7, n8, tx, ln, po, ki, rp, tg, nu, vp_updL fo 0 ((smE st (r * 480 + w * 80 + 3 * 4) (cE 3 * 4 - 3 * 4))).toInt64, fd, sa, nI 0, po2, lt, fi, sc, nu2, ad2, rv, hw, LV_m hLV (by omega)⟩ hl
set_option maxHeartbeats 4000000 in
set_option maxRecDepth 100000 in
theorem law_elements_v {p : Program} {l : Launch} {e : Env} {s : State} {m : MethodId} {args : Array Value} {below : List Frame} {meth : Method} {c : Code} {Q : State → Prop} {D : va_G} {A : Nat → Prop} {b L : Nat} {xs : Nat → Int32} {cells slots : Nat} {cI cR cC cJ cD : ClassId} {x9 : Nat} {q h9 t9 : Nat → Nat} {o9 p9 : Nat} {m9 : Nat → Nat} {B k : Nat} (F : LF p l s m c args A b L xs) (hk5 : 5 * k + 5 ≤ L) (hB : B + 100 < 2 ^ 31) (hR : cells + 7 ≤ room_1.cells ∧ slots + 5790 ≤ room_1.slots) {st : St} {ad : Nat → Nat → Nat} {sv : Nat → St} {ol n7 n8 : Nat} {tx : Nat → Nat} {ln po : Nat} {ki rp tg nu : Int32} {fo : Nat → Int64} {fd : Nat → UInt64} {sa : Nat → Int32} {th : Int32} {po2 : Nat} {lt fi sc nu2 : Int32} {ad2 rv : Nat} {H : Heap} {locs : List Loc} (hw : Wd D A [(cI, .int), (cR, .object RX1), (cC, .char), (cJ, .long), (cD, .double)] ([(x9, .inr (3, [.ref (q 0), .ref (h9 0), .ref (t9 0)]))] ++ wS cI q st ++ wR cR h9 (fr7 ad n8) ol n7 ++ wT cC t9 tx ln po ki rp tg nu ++ [(o9, .inl (cJ, 1, .inr (.inl fo)))] ++ [(p9, .inl (cD, 1, .inr (.inr (.inr (.inl fd)))))] ++ wM cI m9 sa tx th n7 ln po2 lt fi sc nu2 ad2 rv ++ wP cI ad sv n8) s s.heap H locs) (hLV : LV st sv ol n7 n8 tx ln po sa po2 B) {ls : Array Slot} (hl : lv_has ls 10 [(0, .ref b), (1, .ref x9), (2, .ref (m9 0)), (3, .ref o9), (4, .ref p9), (5, .int (nI (5 * k)))]) {r w : Nat} (hr : r < 4) (hw5 : w < 6) (h1 : xs (5 * k + 1) = nI r) (h2 : xs (5 * k + 2) = nI w) (kk : ∀ (H : Heap) (locs : List Loc) (ls : Array Slot), LW D A s cI cR cC cJ cD x9 q h9 t9 o9 p9 m9 (B + 41) H locs → lv_has ls 10 [(0, .ref b), (1, .ref x9), (2, .ref (m9 0)), (3, .ref o9), (4, .ref p9), (5, .int (nI (5 * k)))] → W p l e room_1 s m args below meth c H locs (cells + 7) (slots + 5790) Q (F0 m 1875 ls [])) : W p l e room_1 s m args below meth c H locs cells slots Q (F0 m 1111 ls []) := by
  obtain ⟨S, hz, hxe, hzq, hl9, hA, hX, hbl, hbA, hL⟩ := id F
  obtain ⟨hh, hRl, hHs, htx, hln, hpo, hpo2⟩ := id hLV
  have h6 : n7 ≤ 6 := Nat.le_trans hh.2.1 hh.2.2.1
  obtain ⟨hx, hb, hml, hown, hts⟩ := id S
  refine lv_aload_n hx hb dL_law_1111 rfl (lv_at hl 1 rfl) ?_
  refine lv_aload_n hx hb dL_law_1112 rfl (lv_at hl 0 rfl) ?_
  refine lv_iload hx hb dL_law_1113 (lv_at hl 5 rfl) ?_
  refine lv_iconst (v := nI 1) hx hb dL_law_1115 kc_iconst_1 ?_
  refine r_addN hx hb dL_law_1116 ?_
  refine r_sld hx hb hX hbl hbA hL hw (i := (5 * k) + 1) (by omega) (v := nI r) h1 dL_law_1117 ?_
  refine lv_aload_n hx hb dL_law_1118 rfl (lv_at hl 0 rfl) ?_
  refine lv_iload hx hb dL_law_1119 (lv_at hl 5 rfl) ?_
  refine lv_iconst (v := nI 2) hx hb dL_law_1121 kc_iconst_2 ?_
  refine r_addN hx hb dL_law_1122 ?_
  refine r_sld hx hb hX hbl hbA hL hw (i := (5 * k) + 2) (by omega) (v := nI w) h2 dL_law_1123 ?_
  refine lv_aload_n hx hb dL_law_1124 rfl (lv_at hl 3 rfl) ?_
  refine cpz_S (w1 := fun (u9 : Unit) => ([(x9, .inr (3, [.ref (q 0), .ref (h9 0), .ref (t9 0)]))] : va_W) ++ wS cI q st ++ wR cR h9 (fr7 ad n8) ol n7 ++ wT cC t9 tx ln po ki rp tg nu ++ ([(o9, .inl (cJ, 1, .inr (.inl (vp_updL fo 0 ((ebE st (r * 480 + w * 80 + 4 * 4) 64)).toInt64))))] : va_W)) (pl := fun (u9 : Unit) => wP cI ad sv n8) (As := [.ref x9, .int (nI r), .int (nI w), .ref o9]) (rest := []) (wc := ([(x9, .inr (3, [.ref (q 0), .ref (h9 0), .ref (t9 0)]))] : va_W) ++ wS cI q st ++ wR cR h9 (fr7 ad n8) ol n7 ++ wT cC t9 tx ln po ki rp tg nu ++ ([(o9, .inl (cJ, 1, .inr (.inl fo)))] : va_W)) (wr := ([(p9, .inl (cD, 1, .inr (.inr (.inr (.inl fd)))))] : va_W) ++ wM cI m9 sa tx th n7 ln po2 lt fi sc nu2 ad2 rv) S hz hxe hzq (c_L_elements_v l D (hl9 := hl9) (sz := H.size) (cI := cI) (cR := cR) (cC := cC) (x9 := x9) (q := q) (st := st) (h9 := h9) (ad := ad) (sv := sv) (ol := ol) (n7 := n7) (n8 := n8) (t9 := t9) (tx := tx) (ln := ln) (po := po) (ki := ki) (rp := rp) (tg := tg) (nu := nu) (cJ := cJ) (o9 := o9) (fo := fo) (r := r) (w := w) (hh := hh) (hr := by omega) (hw5 := by omega)) (vx_cwSW 4 hts gL_law_L_elements rfl rfl rfl (by decide +kernel) ⟨Nat.le_of_ble_eq_true rfl, Nat.le_of_ble_eq_true rfl⟩) hw hA [0, 1, 2, 3, 4, 5, 6, 7, 8, 9, 10, 11, 12] [13, 14, 15, 16] [0, 1, 2, 3] rfl rfl (k0 := 17) rfl (by decide) rfl rfl hl.1 (Nat.le_of_ble_eq_true rfl) ⟨(show cells + 0 ≤ room_1.cells by omega), (show slots + 0 ≤ room_1.slots by omega)⟩ rfl dL_law_1125 (fun r_1125 u_1125 H locs e_1125 hw => ?_)
  have hw : Wd D A [(cI, .int), (cR, .object RX1), (cC, .char), (cJ, .long), (cD, .double)] (([(x9, .inr (3, [.ref (q 0), .ref (h9 0), .ref (t9 0)]))] : va_W) ++ wS cI q st ++ wR cR h9 (fr7 ad n8) ol n7 ++ wT cC t9 tx ln po ki rp tg nu ++ ([(o9, .inl (cJ, 1, .inr (.inl (vp_updL fo 0 ((ebE st (r * 480 + w * 80 + 4 * 4) 64)).toInt64))))] : va_W) ++ ([(p9, .inl (cD, 1, .inr (.inr (.inr (.inl fd)))))] : va_W) ++ wM cI m9 sa tx th n7 ln po2 lt fi sc nu2 ad2 rv ++ wP cI ad sv n8) s s.heap H locs := hw
  have e_1125 : r_1125 = nI 0 := e_1125
  subst e_1125
  refine lv_istore (lv' := [(6, .int (nI 0)), (0, .ref b), (1, .ref x9), (2, .ref (m9 0)), (3, .ref o9), (4, .ref p9), (5, .int (nI (5 * k)))]) hx hb dL_law_1128 hl (by decide) rfl (fun ls hl => ?_)
  refine lv_aload_n hx hb dL_law_1130 rfl (lv_at hl 3 rfl) ?_
  refine lv_aload_n hx hb dL_law_1131 rfl (lv_at hl 1 rfl) ?_
  refine lv_iload hx hb dL_law_1132 (lv_at hl 6 rfl) ?_
  refine lv_iconst (v := nI 1) hx hb dL_law_1134 kc_iconst_1 ?_
  refine r_addN hx hb dL_law_1135 ?_
  refine r_sld hx hb hX hbl hbA hL hw (i := (5 * k) + 1) (by omega) (v := nI r) h1 dL_law_1136 ?_
  refine lv_aload_n hx hb dL_law_1137 rfl (lv_at hl 1 rfl) ?_
  refine lv_iload hx hb dL_law_1138 (lv_at hl 6 rfl) ?_
  refine lv_iconst (v := nI 2) hx hb dL_law_1140 kc_iconst_2 ?_
  refine r_addN hx hb dL_law_1141 ?_
  refine r_sld hx hb hX hbl hbA hL hw (i := (5 * k) + 2) (by omega) (v := nI w) h2 dL_law_1142 ?_
  refine cp_Vi (As := [.int (nI r), .int (nI w)]) (rest := []) (wc := wM cI m9 sa tx th n7 ln po2 lt fi sc nu2 ad2 rv) (wr := ([(x9, .inr (3, [.ref (q 0), .ref (h9 0), .ref (t9 0)]))] : va_W) ++ wS cI q st ++ wR cR h9 (fr7 ad n8) ol n7 ++ wT cC t9 tx ln po ki rp tg nu ++ ([(o9, .inl (cJ, 1, .inr (.inl (vp_updL fo 0 ((ebE st (r * 480 + w * 80 + 4 * 4) 64)).toInt64))))] : va_W) ++ ([(p9, .inl (cD, 1, .inr (.inr (.inr (.inl fd)))))] : va_W)) S (c_X4_elements_v l D (sz := H.size) (cI := cI) (m9 := m9) (sa := sa) (tx := tx) (th := th) (sv := n7) (ln := ln) (po := po2) (lt := lt) (fi := fi) (sc := sc) (nu := nu2) (ad := ad2) (rv := rv) (r := r) (w := w) (hr := by omega) (hw5 := by omega)) (cwV 2 hts gL_law_X4_elements rfl rfl rfl (by decide +kernel) ⟨Nat.le_of_ble_eq_true rfl, Nat.le_of_ble_eq_true rfl⟩) hw hA [14, 15, 16] [0, 1, 2, 3, 4, 5, 6, 7, 8, 9, 10, 11, 12, 13] [0] rfl rfl (k0 := 17) rfl (by decide) rfl 0 rfl rfl rfl hl.1 (Nat.le_of_ble_eq_true rfl) ⟨(show cells + 0 ≤ room_1.cells by omega), (show slots + 0 ≤ room_1.slots by omega)⟩ rfl dL_law_1143 (fun r_1143 u_1143 H locs e_1143 hw => ?_)
  have hw : Wd D A [(cI, .int), (cR, .object RX1), (cC, .char), (cJ, .long), (cD, .double)] (wM cI m9 sa tx (nI 0) n7 ln po2 lt fi sc nu2 ad2 rv ++ ([(x9, .inr (3, [.ref (q 0), .ref (h9 0), .ref (t9 0)]))] : va_W) ++ wS cI q st ++ wR cR h9 (fr7 ad n8) ol n7 ++ wT cC t9 tx ln po ki rp tg nu ++ ([(o9, .inl (cJ, 1, .inr (.inl (vp_updL fo 0 ((ebE st (r * 480 + w * 80 + 4 * 4) 64)).toInt64))))] : va_W) ++ ([(p9, .inl (cD, 1, .inr (.inr (.inr (.inl fd)))))] : va_W) ++ wP cI ad sv n8) s s.heap H locs := hw
  have e_1143 : r_1143 = elM sa r w 64 := e_1143
  subst e_1143
  refine lv_istore (lv' := [(7, .int (elM sa r w 64)), (6, .int (nI 0)), (0, .ref b), (1, .ref x9), (2, .ref (m9 0)), (3, .ref o9), (4, .ref p9), (5, .int (nI (5 * k)))]) hx hb dL_law_1146 hl (by decide) rfl (fun ls hl => ?_)
  refine lv_aload_n hx hb dL_law_1148 rfl (lv_at hl 4 rfl) ?_
  refine cq_V (As := []) (rest := []) S (c_X4_thrown l D (cI := cI) (m9 := m9) (sa := sa) (tx := tx) (th := nI 0) (sv := n7) (ln := ln) (po := po2) (lt := lt) (fi := fi) (sc := sc) (nu := nu2) (ad := ad2) (rv := rv)) (cwV 0 hts gL_law_X4_thrown rfl rfl rfl (by decide +kernel) ⟨Nat.le_of_ble_eq_true rfl, Nat.le_of_ble_eq_true rfl⟩) (hw.q.sub [0, 1, 2] [0] rfl rfl) 0 rfl rfl rfl hl.1 (Nat.le_of_ble_eq_true rfl) ⟨(show cells ≤ room_1.cells by omega), (show slots ≤ room_1.slots by omega)⟩ rfl dL_law_1149 (fun r_1149 e_1149 => ?_)
  have e_1149 : r_1149 = (nI 0) := e_1149
  subst e_1149
  refine lv_iload hx hb dL_law_1152 (lv_at hl 1 rfl) ?_
  refine r_icmp_eqN (tgt := 1159) hx hb (by decide) (by decide) dL_law_1154 (by decide) (fun _ => ?_) (fun h => absurd h (by decide))
  refine lv_iload hx hb dL_law_1159 (lv_at hl 1 rfl) ?_
  refine lv_if_ne (tgt := 1176) hx hb dL_law_1161 (by decide) (fun h => absurd h (by decide)) (fun _ => ?_)
  refine lv_aload_n hx hb dL_law_1164 rfl (lv_at hl 5 rfl) ?_
  refine lv_iconst (v := nI 0) hx hb dL_law_1165 kc_iconst_0 ?_
  refine r_out hx hb hw 15 3 rfl rfl dL_law_1166 ?_
  refine lv_iload hx hb dL_law_1167 (lv_at hl 0 rfl) ?_
  refine lv_i2l hx hb dL_law_1169 rfl ?_
  refine r_lcmpE hx hb (show ((ebE st (r * 480 + w * 80 + 4 * 4) 64)).toInt64 = (elM sa r w 64).toInt64 from congrArg Int32.toInt64 (el_eq (by omega) hRl hr hw5 64 (Nat.le_refl _))) dL_law_1170 ?_
  refine lv_if_eq (tgt := 1176) hx hb dL_law_1171 (by decide) (fun _ => ?_) (fun h => absurd h (by decide))
  refine lv_goto (tgt := 1875) hx hb dL_law_1176 (by decide) ?_
  have hw : Wd D A [(cI, .int), (cR, .object RX1), (cC, .char), (cJ, .long), (cD, .double)] (([(x9, .inr (3, [.ref (q 0), .ref (h9 0), .ref (t9 0)]))] : va_W) ++ wS cI q st ++ wR cR h9 (fr7 ad n8) ol n7 ++ wT cC t9 tx ln po ki rp tg nu ++ ([(o9, .inl (cJ, 1, .inr (.inl (vp_updL fo 0 ((ebE st (r * 480 + w * 80 + 4 * 4) 64)).toInt64))))] : va_W) ++ ([(p9, .inl (cD, 1, .inr (.inr (.inr (.inl fd)))))] : va_W) ++ wM cI m9 sa tx (nI 0) n7 ln po2 lt fi sc nu2 ad2 rv ++ wP cI ad sv n8) s s.heap H locs := hw.ord [3, 4, 5, 6, 7, 8, 9, 10, 11, 12, 13, 14, 15, 16, 0, 1, 2] (k0 := 17) rfl rfl (by decide)
  have hl : lv_has ls 10 [(0, .ref b), (1, .ref x9), (2, .ref (m9 0)), (3, .ref o9), (4, .ref p9), (5, .int (nI (5 * k)))] := lv_sub hl [2, 3, 4, 5, 6, 7] rfl
  refine W.widen (k := cells + 7) (n := slots + 5790) (by omega) (by omega) ?_
  exact kk H locs ls ⟨st, ad, sv, ol, n7, n8, tx, ln, po, ki, rp, tg, nu, vp_updL fo 0 ((ebE st (r * 480 + w * 80 + 4 * 4) 64)).toInt64, fd, sa, nI 0, po2, lt, fi, sc, nu2, ad2, rv, hw, LV_m hLV (by omega)⟩ hl
set_option maxHeartbeats 4000000 in
set_option maxRecDepth 100000 in
theorem law_entries_v {p : Program} {l : Launch} {e : Env} {s : State} {m : MethodId} {args : Array Value} {below : List Frame} {meth : Method} {c : Code} {Q : State → Prop} {D : va_G} {A : Nat → Prop} {b L : Nat} {xs : Nat → Int32} {cells slots : Nat} {cI cR cC cJ cD : ClassId} {x9 : Nat} {q h9 t9 : Nat → Nat} {o9 p9 : Nat} {m9 : Nat → Nat} {B k : Nat} (F : LF p l s m c args A b L xs) (hk5 : 5 * k + 5 ≤ L) (hB : B + 100 < 2 ^ 31) (hR : cells + 7 ≤ room_1.cells ∧ slots + 5790 ≤ room_1.slots) {st : St} {ad : Nat → Nat → Nat} {sv : Nat → St} {ol n7 n8 : Nat} {tx : Nat → Nat} {ln po : Nat} {ki rp tg nu : Int32} {fo : Nat → Int64} {fd : Nat → UInt64} {sa : Nat → Int32} {th : Int32} {po2 : Nat} {lt fi sc nu2 : Int32} {ad2 rv : Nat} {H : Heap} {locs : List Loc} (hw : Wd D A [(cI, .int), (cR, .object RX1), (cC, .char), (cJ, .long), (cD, .double)] ([(x9, .inr (3, [.ref (q 0), .ref (h9 0), .ref (t9 0)]))] ++ wS cI q st ++ wR cR h9 (fr7 ad n8) ol n7 ++ wT cC t9 tx ln po ki rp tg nu ++ [(o9, .inl (cJ, 1, .inr (.inl fo)))] ++ [(p9, .inl (cD, 1, .inr (.inr (.inr (.inl fd)))))] ++ wM cI m9 sa tx th n7 ln po2 lt fi sc nu2 ad2 rv ++ wP cI ad sv n8) s s.heap H locs) (hLV : LV st sv ol n7 n8 tx ln po sa po2 B) {ls : Array Slot} (hl : lv_has ls 10 [(0, .ref b), (1, .ref x9), (2, .ref (m9 0)), (3, .ref o9), (4, .ref p9), (5, .int (nI (5 * k)))]) {r w g : Nat} (hr : r < 4) (hw5 : w < 6) (hg : g < 5) (h1 : xs (5 * k + 1) = nI r) (h2 : xs (5 * k + 2) = nI w) (h3 : xs (5 * k + 3) = nI g) (kk : ∀ (H : Heap) (locs : List Loc) (ls : Array Slot), LW D A s cI cR cC cJ cD x9 q h9 t9 o9 p9 m9 (B + 41) H locs → lv_has ls 10 [(0, .ref b), (1, .ref x9), (2, .ref (m9 0)), (3, .ref o9), (4, .ref p9), (5, .int (nI (5 * k)))] → W p l e room_1 s m args below meth c H locs (cells + 7) (slots + 5790) Q (F0 m 1875 ls [])) : W p l e room_1 s m args below meth c H locs cells slots Q (F0 m 1179 ls []) := by
  obtain ⟨S, hz, hxe, hzq, hl9, hA, hX, hbl, hbA, hL⟩ := id F
  obtain ⟨hh, hRl, hHs, htx, hln, hpo, hpo2⟩ := id hLV
  have h6 : n7 ≤ 6 := Nat.le_trans hh.2.1 hh.2.2.1
  obtain ⟨hx, hb, hml, hown, hts⟩ := id S
  refine lv_aload_n hx hb dL_law_1179 rfl (lv_at hl 1 rfl) ?_
  refine lv_aload_n hx hb dL_law_1180 rfl (lv_at hl 0 rfl) ?_
  refine lv_iload hx hb dL_law_1181 (lv_at hl 5 rfl) ?_
  refine lv_iconst (v := nI 1) hx hb dL_law_1183 kc_iconst_1 ?_
  refine r_addN hx hb dL_law_1184 ?_
  refine r_sld hx hb hX hbl hbA hL hw (i := (5 * k) + 1) (by omega) (v := nI r) h1 dL_law_1185 ?_
  refine lv_aload_n hx hb dL_law_1186 rfl (lv_at hl 0 rfl) ?_
  refine lv_iload hx hb dL_law_1187 (lv_at hl 5 rfl) ?_
  refine lv_iconst (v := nI 2) hx hb dL_law_1189 kc_iconst_2 ?_
  refine r_addN hx hb dL_law_1190 ?_
  refine r_sld hx hb hX hbl hbA hL hw (i := (5 * k) + 2) (by omega) (v := nI w) h2 dL_law_1191 ?_
  refine lv_aload_n hx hb dL_law_1192 rfl (lv_at hl 0 rfl) ?_
  refine lv_iload hx hb dL_law_1193 (lv_at hl 5 rfl) ?_
  refine lv_iconst (v := nI 3) hx hb dL_law_1195 kc_iconst_3 ?_
  refine r_addN hx hb dL_law_1196 ?_
  refine r_sld hx hb hX hbl hbA hL hw (i := (5 * k) + 3) (by omega) (v := nI g) h3 dL_law_1197 ?_
  refine lv_aload_n hx hb dL_law_1198 rfl (lv_at hl 3 rfl) ?_
  refine cpz_S (w1 := fun (u9 : Unit) => ([(x9, .inr (3, [.ref (q 0), .ref (h9 0), .ref (t9 0)]))] : va_W) ++ wS cI q st ++ wR cR h9 (fr7 ad n8) ol n7 ++ wT cC t9 tx ln po ki rp tg nu ++ ([(o9, .inl (cJ, 1, .inr (.inl (vp_updL fo 0 ((nI (cntE st.1 (r * 480 + w * 80 + g * 4) (cE g * 4 - g * 4)))).toInt64))))] : va_W)) (pl := fun (u9 : Unit) => wP cI ad sv n8) (As := [.ref x9, .int (nI r), .int (nI w), .int (nI g), .ref o9]) (rest := []) (wc := ([(x9, .inr (3, [.ref (q 0), .ref (h9 0), .ref (t9 0)]))] : va_W) ++ wS cI q st ++ wR cR h9 (fr7 ad n8) ol n7 ++ wT cC t9 tx ln po ki rp tg nu ++ ([(o9, .inl (cJ, 1, .inr (.inl fo)))] : va_W)) (wr := ([(p9, .inl (cD, 1, .inr (.inr (.inr (.inl fd)))))] : va_W) ++ wM cI m9 sa tx th n7 ln po2 lt fi sc nu2 ad2 rv) S hz hxe hzq (c_L_entries_v l D (hl9 := hl9) (sz := H.size) (cI := cI) (cR := cR) (cC := cC) (x9 := x9) (q := q) (st := st) (h9 := h9) (ad := ad) (sv := sv) (ol := ol) (n7 := n7) (n8 := n8) (t9 := t9) (tx := tx) (ln := ln) (po := po) (ki := ki) (rp := rp) (tg := tg) (nu := nu) (cJ := cJ) (o9 := o9) (fo := fo) (r := r) (w := w) (g := g) (hh := hh) (hr := by omega) (hw5 := by omega) (hg := by omega)) (vx_cwSW 5 hts gL_law_L_entries rfl rfl rfl (by decide +kernel) ⟨Nat.le_of_ble_eq_true rfl, Nat.le_of_ble_eq_true rfl⟩) hw hA [0, 1, 2, 3, 4, 5, 6, 7, 8, 9, 10, 11, 12] [13, 14, 15, 16] [0, 1, 2, 3] rfl rfl (k0 := 17) rfl (by decide) rfl rfl hl.1 (Nat.le_of_ble_eq_true rfl) ⟨(show cells + 0 ≤ room_1.cells by omega), (show slots + 0 ≤ room_1.slots by omega)⟩ rfl dL_law_1199 (fun r_1199 u_1199 H locs e_1199 hw => ?_)
  have hw : Wd D A [(cI, .int), (cR, .object RX1), (cC, .char), (cJ, .long), (cD, .double)] (([(x9, .inr (3, [.ref (q 0), .ref (h9 0), .ref (t9 0)]))] : va_W) ++ wS cI q st ++ wR cR h9 (fr7 ad n8) ol n7 ++ wT cC t9 tx ln po ki rp tg nu ++ ([(o9, .inl (cJ, 1, .inr (.inl (vp_updL fo 0 ((nI (cntE st.1 (r * 480 + w * 80 + g * 4) (cE g * 4 - g * 4)))).toInt64))))] : va_W) ++ ([(p9, .inl (cD, 1, .inr (.inr (.inr (.inl fd)))))] : va_W) ++ wM cI m9 sa tx th n7 ln po2 lt fi sc nu2 ad2 rv ++ wP cI ad sv n8) s s.heap H locs := hw
  have e_1199 : r_1199 = nI 0 := e_1199
  subst e_1199
  refine lv_istore (lv' := [(6, .int (nI 0)), (0, .ref b), (1, .ref x9), (2, .ref (m9 0)), (3, .ref o9), (4, .ref p9), (5, .int (nI (5 * k)))]) hx hb dL_law_1202 hl (by decide) rfl (fun ls hl => ?_)
  refine lv_aload_n hx hb dL_law_1204 rfl (lv_at hl 3 rfl) ?_
  refine lv_aload_n hx hb dL_law_1205 rfl (lv_at hl 1 rfl) ?_
  refine lv_iload hx hb dL_law_1206 (lv_at hl 6 rfl) ?_
  refine lv_iconst (v := nI 1) hx hb dL_law_1208 kc_iconst_1 ?_
  refine r_addN hx hb dL_law_1209 ?_
  refine r_sld hx hb hX hbl hbA hL hw (i := (5 * k) + 1) (by omega) (v := nI r) h1 dL_law_1210 ?_
  refine lv_aload_n hx hb dL_law_1211 rfl (lv_at hl 1 rfl) ?_
  refine lv_iload hx hb dL_law_1212 (lv_at hl 6 rfl) ?_
  refine lv_iconst (v := nI 2) hx hb dL_law_1214 kc_iconst_2 ?_
  refine r_addN hx hb dL_law_1215 ?_
  refine r_sld hx hb hX hbl hbA hL hw (i := (5 * k) + 2) (by omega) (v := nI w) h2 dL_law_1216 ?_
  refine lv_aload_n hx hb dL_law_1217 rfl (lv_at hl 1 rfl) ?_
  refine lv_iload hx hb dL_law_1218 (lv_at hl 6 rfl) ?_
  refine lv_iconst (v := nI 3) hx hb dL_law_1220 kc_iconst_3 ?_
  refine r_addN hx hb dL_law_1221 ?_
  refine r_sld hx hb hX hbl hbA hL hw (i := (5 * k) + 3) (by omega) (v := nI g) h3 dL_law_1222 ?_
  refine cp_Vi (As := [.int (nI r), .int (nI w), .int (nI g)]) (rest := []) (wc := wM cI m9 sa tx th n7 ln po2 lt fi sc nu2 ad2 rv) (wr := ([(x9, .inr (3, [.ref (q 0), .ref (h9 0), .ref (t9 0)]))] : va_W) ++ wS cI q st ++ wR cR h9 (fr7 ad n8) ol n7 ++ wT cC t9 tx ln po ki rp tg nu ++ ([(o9, .inl (cJ, 1, .inr (.inl (vp_updL fo 0 ((nI (cntE st.1 (r * 480 + w * 80 + g * 4) (cE g * 4 - g * 4)))).toInt64))))] : va_W) ++ ([(p9, .inl (cD, 1, .inr (.inr (.inr (.inl fd)))))] : va_W)) S (c_X4_entries_v l D (sz := H.size) (cI := cI) (m9 := m9) (sa := sa) (tx := tx) (th := th) (sv := n7) (ln := ln) (po := po2) (lt := lt) (fi := fi) (sc := sc) (nu := nu2) (ad := ad2) (rv := rv) (r := r) (w := w) (c9 := g) (hr := by omega) (hw5 := by omega) (hc := by omega)) (cwV 3 hts gL_law_X4_entries rfl rfl rfl (by decide +kernel) ⟨Nat.le_of_ble_eq_true rfl, Nat.le_of_ble_eq_true rfl⟩) hw hA [14, 15, 16] [0, 1, 2, 3, 4, 5, 6, 7, 8, 9, 10, 11, 12, 13] [0] rfl rfl (k0 := 17) rfl (by decide) rfl 0 rfl rfl rfl hl.1 (Nat.le_of_ble_eq_true rfl) ⟨(show cells + 0 ≤ room_1.cells by omega), (show slots + 0 ≤ room_1.slots by omega)⟩ rfl dL_law_1223 (fun r_1223 u_1223 H locs e_1223 hw => ?_)
  have hw : Wd D A [(cI, .int), (cR, .object RX1), (cC, .char), (cJ, .long), (cD, .double)] (wM cI m9 sa tx (nI 0) n7 ln po2 lt fi sc nu2 ad2 rv ++ ([(x9, .inr (3, [.ref (q 0), .ref (h9 0), .ref (t9 0)]))] : va_W) ++ wS cI q st ++ wR cR h9 (fr7 ad n8) ol n7 ++ wT cC t9 tx ln po ki rp tg nu ++ ([(o9, .inl (cJ, 1, .inr (.inl (vp_updL fo 0 ((nI (cntE st.1 (r * 480 + w * 80 + g * 4) (cE g * 4 - g * 4)))).toInt64))))] : va_W) ++ ([(p9, .inl (cD, 1, .inr (.inr (.inr (.inl fd)))))] : va_W) ++ wP cI ad sv n8) s s.heap H locs := hw
  have e_1223 : r_1223 = nI (enM sa r w g 4) := e_1223
  subst e_1223
  refine lv_istore (lv' := [(7, .int (nI (enM sa r w g 4))), (6, .int (nI 0)), (0, .ref b), (1, .ref x9), (2, .ref (m9 0)), (3, .ref o9), (4, .ref p9), (5, .int (nI (5 * k)))]) hx hb dL_law_1226 hl (by decide) rfl (fun ls hl => ?_)
  refine lv_aload_n hx hb dL_law_1228 rfl (lv_at hl 4 rfl) ?_
  refine cq_V (As := []) (rest := []) S (c_X4_thrown l D (cI := cI) (m9 := m9) (sa := sa) (tx := tx) (th := nI 0) (sv := n7) (ln := ln) (po := po2) (lt := lt) (fi := fi) (sc := sc) (nu := nu2) (ad := ad2) (rv := rv)) (cwV 0 hts gL_law_X4_thrown rfl rfl rfl (by decide +kernel) ⟨Nat.le_of_ble_eq_true rfl, Nat.le_of_ble_eq_true rfl⟩) (hw.q.sub [0, 1, 2] [0] rfl rfl) 0 rfl rfl rfl hl.1 (Nat.le_of_ble_eq_true rfl) ⟨(show cells ≤ room_1.cells by omega), (show slots ≤ room_1.slots by omega)⟩ rfl dL_law_1229 (fun r_1229 e_1229 => ?_)
  have e_1229 : r_1229 = (nI 0) := e_1229
  subst e_1229
  refine lv_iload hx hb dL_law_1232 (lv_at hl 1 rfl) ?_
  refine r_icmp_eqN (tgt := 1239) hx hb (by decide) (by decide) dL_law_1234 (by decide) (fun _ => ?_) (fun h => absurd h (by decide))
  refine lv_iload hx hb dL_law_1239 (lv_at hl 1 rfl) ?_
  refine lv_if_ne (tgt := 1256) hx hb dL_law_1241 (by decide) (fun h => absurd h (by decide)) (fun _ => ?_)
  refine lv_aload_n hx hb dL_law_1244 rfl (lv_at hl 5 rfl) ?_
  refine lv_iconst (v := nI 0) hx hb dL_law_1245 kc_iconst_0 ?_
  refine r_out hx hb hw 15 3 rfl rfl dL_law_1246 ?_
  refine lv_iload hx hb dL_law_1247 (lv_at hl 0 rfl) ?_
  refine lv_i2l hx hb dL_law_1249 rfl ?_
  refine r_lcmpE hx hb (show ((nI (cntE st.1 (r * 480 + w * 80 + g * 4) (cE g * 4 - g * 4)))).toInt64 = (nI (enM sa r w g 4)).toInt64 from congrArg Int32.toInt64 (congrArg nI (en_all (by omega) hRl hr hw5 hg))) dL_law_1250 ?_
  refine lv_if_eq (tgt := 1256) hx hb dL_law_1251 (by decide) (fun _ => ?_) (fun h => absurd h (by decide))
  refine lv_goto (tgt := 1875) hx hb dL_law_1256 (by decide) ?_
  have hw : Wd D A [(cI, .int), (cR, .object RX1), (cC, .char), (cJ, .long), (cD, .double)] (([(x9, .inr (3, [.ref (q 0), .ref (h9 0), .ref (t9 0)]))] : va_W) ++ wS cI q st ++ wR cR h9 (fr7 ad n8) ol n7 ++ wT cC t9 tx ln po ki rp tg nu ++ ([(o9, .inl (cJ, 1, .inr (.inl (vp_updL fo 0 ((nI (cntE st.1 (r * 480 + w * 80 + g * 4) (cE g * 4 - g * 4)))).toInt64))))] : va_W) ++ ([(p9, .inl (cD, 1, .inr (.inr (.inr (.inl fd)))))] : va_W) ++ wM cI m9 sa tx (nI 0) n7 ln po2 lt fi sc nu2 ad2 rv ++ wP cI ad sv n8) s s.heap H locs := hw.ord [3, 4, 5, 6, 7, 8, 9, 10, 11, 12, 13, 14, 15, 16, 0, 1, 2] (k0 := 17) rfl rfl (by decide)
  have hl : lv_has ls 10 [(0, .ref b), (1, .ref x9), (2, .ref (m9 0)), (3, .ref o9), (4, .ref p9), (5, .int (nI (5 * k)))] := lv_sub hl [2, 3, 4, 5, 6, 7] rfl
  refine W.widen (k := cells + 7) (n := slots + 5790) (by omega) (by omega) ?_
  exact kk H locs ls ⟨st, ad, sv, ol, n7, n8, tx, ln, po, ki, rp, tg, nu, vp_updL fo 0 ((nI (cntE st.1 (r * 480 + w * 80 + g * 4) (cE g * 4 - g * 4)))).toInt64, fd, sa, nI 0, po2, lt, fi, sc, nu2, ad2, rv, hw, LV_m hLV (by omega)⟩ hl
set_option maxHeartbeats 4000000 in
set_option maxRecDepth 100000 in
theorem law_exists_v {p : Program} {l : Launch} {e : Env} {s : State} {m : MethodId} {args : Array Value} {below : List Frame} {meth : Method} {c : Code} {Q : State → Prop} {D : va_G} {A : Nat → Prop} {b L : Nat} {xs : Nat → Int32} {cells slots : Nat} {cI cR cC cJ cD : ClassId} {x9 : Nat} {q h9 t9 : Nat → Nat} {o9 p9 : Nat} {m9 : Nat → Nat} {B k : Nat} (F : LF p l s m c args A b L xs) (hk5 : 5 * k + 5 ≤ L) (hB : B + 100 < 2 ^ 31) (hR : cells + 7 ≤ room_1.cells ∧ slots + 5790 ≤ room_1.slots) {st : St} {ad : Nat → Nat → Nat} {sv : Nat → St} {ol n7 n8 : Nat} {tx : Nat → Nat} {ln po : Nat} {ki rp tg nu : Int32} {fo : Nat → Int64} {fd : Nat → UInt64} {sa : Nat → Int32} {th : Int32} {po2 : Nat} {lt fi sc nu2 : Int32} {ad2 rv : Nat} {H : Heap} {locs : List Loc} (hw : Wd D A [(cI, .int), (cR, .object RX1), (cC, .char), (cJ, .long), (cD, .double)] ([(x9, .inr (3, [.ref (q 0), .ref (h9 0), .ref (t9 0)]))] ++ wS cI q st ++ wR cR h9 (fr7 ad n8) ol n7 ++ wT cC t9 tx ln po ki rp tg nu ++ [(o9, .inl (cJ, 1, .inr (.inl fo)))] ++ [(p9, .inl (cD, 1, .inr (.inr (.inr (.inl fd)))))] ++ wM cI m9 sa tx th n7 ln po2 lt fi sc nu2 ad2 rv ++ wP cI ad sv n8) s s.heap H locs) (hLV : LV st sv ol n7 n8 tx ln po sa po2 B) {ls : Array Slot} (hl : lv_has ls 10 [(0, .ref b), (1, .ref x9), (2, .ref (m9 0)), (3, .ref o9), (4, .ref p9), (5, .int (nI (5 * k)))]) {r w : Nat} (hr : r < 4) (hw5 : w < 6) (h1 : xs (5 * k + 1) = nI r) (h2 : xs (5 * k + 2) = nI w) (kk : ∀ (H : Heap) (locs : List Loc) (ls : Array Slot), LW D A s cI cR cC cJ cD x9 q h9 t9 o9 p9 m9 (B + 41) H locs → lv_has ls 10 [(0, .ref b), (1, .ref x9), (2, .ref (m9 0)), (3, .ref o9), (4, .ref p9), (5, .int (nI (5 * k)))] → W p l e room_1 s m args below meth c H locs (cells + 7) (slots + 5790) Q (F0 m 1875 ls [])) : W p l e room_1 s m args below meth c H locs cells slots Q (F0 m 1259 ls []) := by
  obtain ⟨S, hz, hxe, hzq, hl9, hA, hX, hbl, hbA, hL⟩ := id F
  obtain ⟨hh, hRl, hHs, htx, hln, hpo, hpo2⟩ := id hLV
  have h6 : n7 ≤ 6 := Nat.le_trans hh.2.1 hh.2.2.1
  obtain ⟨hx, hb, hml, hown, hts⟩ := id S
  refine lv_aload_n hx hb dL_law_1259 rfl (lv_at hl 1 rfl) ?_
  refine lv_aload_n hx hb dL_law_1260 rfl (lv_at hl 0 rfl) ?_
  refine lv_iload hx hb dL_law_1261 (lv_at hl 5 rfl) ?_
  refine lv_iconst (v := nI 1) hx hb dL_law_1263 kc_iconst_1 ?_
  refine r_addN hx hb dL_law_1264 ?_
  refine r_sld hx hb hX hbl hbA hL hw (i := (5 * k) + 1) (by omega) (v := nI r) h1 dL_law_1265 ?_
  refine lv_aload_n hx hb dL_law_1266 rfl (lv_at hl 0 rfl) ?_
  refine lv_iload hx hb dL_law_1267 (lv_at hl 5 rfl) ?_
  refine lv_iconst (v := nI 2) hx hb dL_law_1269 kc_iconst_2 ?_
  refine r_addN hx hb dL_law_1270 ?_
  refine r_sld hx hb hX hbl hbA hL hw (i := (5 * k) + 2) (by omega) (v := nI w) h2 dL_law_1271 ?_
  refine lv_aload_n hx hb dL_law_1272 rfl (lv_at hl 3 rfl) ?_
  refine cpz_S (w1 := fun (u9 : Unit) => ([(x9, .inr (3, [.ref (q 0), .ref (h9 0), .ref (t9 0)]))] : va_W) ++ wS cI q st ++ wR cR h9 (fr7 ad n8) ol n7 ++ wT cC t9 tx ln po ki rp tg nu ++ ([(o9, .inl (cJ, 1, .inr (.inl (vp_updL fo 0 (if 0 < cntE st.1 (r * 480 + w * 80 + 0 * 4) 80 then (1 : Int64) else 0)))))] : va_W)) (pl := fun (u9 : Unit) => wP cI ad sv n8) (As := [.ref x9, .int (nI r), .int (nI w), .ref o9]) (rest := []) (wc := ([(x9, .inr (3, [.ref (q 0), .ref (h9 0), .ref (t9 0)]))] : va_W) ++ wS cI q st ++ wR cR h9 (fr7 ad n8) ol n7 ++ wT cC t9 tx ln po ki rp tg nu ++ ([(o9, .inl (cJ, 1, .inr (.inl fo)))] : va_W)) (wr := ([(p9, .inl (cD, 1, .inr (.inr (.inr (.inl fd)))))] : va_W) ++ wM cI m9 sa tx th n7 ln po2 lt fi sc nu2 ad2 rv) S hz hxe hzq (c_L_exists_v l D (hl9 := hl9) (sz := H.size) (cI := cI) (cR := cR) (cC := cC) (x9 := x9) (q := q) (st := st) (h9 := h9) (ad := ad) (sv := sv) (ol := ol) (n7 := n7) (n8 := n8) (t9 := t9) (tx := tx) (ln := ln) (po := po) (ki := ki) (rp := rp) (tg := tg) (nu := nu) (cJ := cJ) (o9 := o9) (fo := fo) (r := r) (w := w) (hh := hh) (hr := by omega) (hw5 := by omega)) (vx_cwSW 4 hts gL_law_L_exists rfl rfl rfl (by decide +kernel) ⟨Nat.le_of_ble_eq_true rfl, Nat.le_of_ble_eq_true rfl⟩) hw hA [0, 1, 2, 3, 4, 5, 6, 7, 8, 9, 10, 11, 12] [13, 14, 15, 16] [0, 1, 2, 3] rfl rfl (k0 := 17) rfl (by decide) rfl rfl hl.1 (Nat.le_of_ble_eq_true rfl) ⟨(show cells + 0 ≤ room_1.cells by omega), (show slots + 0 ≤ room_1.slots by omega)⟩ rfl dL_law_1273 (fun r_1273 u_1273 H locs e_1273 hw => ?_)
  have hw : Wd D A [(cI, .int), (cR, .object RX1), (cC, .char), (cJ, .long), (cD, .double)] (([(x9, .inr (3, [.ref (q 0), .ref (h9 0), .ref (t9 0)]))] : va_W) ++ wS cI q st ++ wR cR h9 (fr7 ad n8) ol n7 ++ wT cC t9 tx ln po ki rp tg nu ++ ([(o9, .inl (cJ, 1, .inr (.inl (vp_updL fo 0 (if 0 < cntE st.1 (r * 480 + w * 80 + 0 * 4) 80 then (1 : Int64) else 0)))))] : va_W) ++ ([(p9, .inl (cD, 1, .inr (.inr (.inr (.inl fd)))))] : va_W) ++ wM cI m9 sa tx th n7 ln po2 lt fi sc nu2 ad2 rv ++ wP cI ad sv n8) s s.heap H locs := hw
  have e_1273 : r_1273 = nI 0 := e_1273
  subst e_1273
  refine lv_istore (lv' := [(6, .int (nI 0)), (0, .ref b), (1, .ref x9), (2, .ref (m9 0)), (3, .ref o9), (4, .ref p9), (5, .int (nI (5 * k)))]) hx hb dL_law_1276 hl (by decide) rfl (fun ls hl => ?_)
  refine lv_aload_n hx hb dL_law_1278 rfl (lv_at hl 3 rfl) ?_
  refine lv_aload_n hx hb dL_law_1279 rfl (lv_at hl 1 rfl) ?_
  refine lv_iload hx hb dL_law_1280 (lv_at hl 6 rfl) ?_
  refine lv_iconst (v := nI 1) hx hb dL_law_1282 kc_iconst_1 ?_
  refine r_addN hx hb dL_law_1283 ?_
  refine r_sld hx hb hX hbl hbA hL hw (i := (5 * k) + 1) (by omega) (v := nI r) h1 dL_law_1284 ?_
  refine lv_aload_n hx hb dL_law_1285 rfl (lv_at hl 1 rfl) ?_
  refine lv_iload hx hb dL_law_1286 (lv_at hl 6 rfl) ?_
  refine lv_iconst (v := nI 2) hx hb dL_law_1288 kc_iconst_2 ?_
  refine r_addN hx hb dL_law_1289 ?_
  refine r_sld hx hb hX hbl hbA hL hw (i := (5 * k) + 2) (by omega) (v := nI w) h2 dL_law_1290 ?_
  refine cp_Vi (As := [.int (nI r), .int (nI w)]) (rest := []) (wc := wM cI m9 sa tx th n7 ln po2 lt fi sc nu2 ad2 rv) (wr := ([(x9, .inr (3, [.ref (q 0), .ref (h9 0), .ref (t9 0)]))] : va_W) ++ wS cI q st ++ wR cR h9 (fr7 ad n8) ol n7 ++ wT cC t9 tx ln po ki rp tg nu ++ ([(o9, .inl (cJ, 1, .inr (.inl (vp_updL fo 0 (if 0 < cntE st.1 (r * 480 + w * 80 + 0 * 4) 80 then (1 : Int64) else 0)))))] : va_W) ++ ([(p9, .inl (cD, 1, .inr (.inr (.inr (.inl fd)))))] : va_W)) S (c_X4_exists_v l D (sz := H.size) (cI := cI) (m9 := m9) (sa := sa) (tx := tx) (th := th) (sv := n7) (ln := ln) (po := po2) (lt := lt) (fi := fi) (sc := sc) (nu := nu2) (ad := ad2) (rv := rv) (r := r) (w := w) (hr := by omega) (hw5 := by omega)) (cwV 2 hts gL_law_X4_exists rfl rfl rfl (by decide +kernel) ⟨Nat.le_of_ble_eq_true rfl, Nat.le_of_ble_eq_true rfl⟩) hw hA [14, 15, 16] [0, 1, 2, 3, 4, 5, 6, 7, 8, 9, 10, 11, 12, 13] [0] rfl rfl (k0 := 17) rfl (by decide) rfl 0 rfl rfl rfl hl.1 (Nat.le_of_ble_eq_true rfl) ⟨(show cells + 0 ≤ room_1.cells by omega), (show slots + 0 ≤ room_1.slots by omega)⟩ rfl dL_law_1291 (fun r_1291 u_1291 H locs e_1291 hw => ?_)
  have hw : Wd D A [(cI, .int), (cR, .object RX1), (cC, .char), (cJ, .long), (cD, .double)] (wM cI m9 sa tx (nI 0) n7 ln po2 lt fi sc nu2 ad2 rv ++ ([(x9, .inr (3, [.ref (q 0), .ref (h9 0), .ref (t9 0)]))] : va_W) ++ wS cI q st ++ wR cR h9 (fr7 ad n8) ol n7 ++ wT cC t9 tx ln po ki rp tg nu ++ ([(o9, .inl (cJ, 1, .inr (.inl (vp_updL fo 0 (if 0 < cntE st.1 (r * 480 + w * 80 + 0 * 4) 80 then (1 : Int64) else 0)))))] : va_W) ++ ([(p9, .inl (cD, 1, .inr (.inr (.inr (.inl fd)))))] : va_W) ++ wP cI ad sv n8) s s.heap H locs := hw
  have e_1291 : r_1291 = b2 (0 < exS sa r w 5) := e_1291
  subst e_1291
  refine lv_istore (lv' := [(7, .int (b2 (0 < exS sa r w 5))), (6, .int (nI 0)), (0, .ref b), (1, .ref x9), (2, .ref (m9 0)), (3, .ref o9), (4, .ref p9), (5, .int (nI (5 * k)))]) hx hb dL_law_1294 hl (by decide) rfl (fun ls hl => ?_)
  refine lv_aload_n hx hb dL_law_1296 rfl (lv_at hl 4 rfl) ?_
  refine cq_V (As := []) (rest := []) S (c_X4_thrown l D (cI := cI) (m9 := m9) (sa := sa) (tx := tx) (th := nI 0) (sv := n7) (ln := ln) (po := po2) (lt := lt) (fi := fi) (sc := sc) (nu := nu2) (ad := ad2) (rv := rv)) (cwV 0 hts gL_law_X4_thrown rfl rfl rfl (by decide +kernel) ⟨Nat.le_of_ble_eq_true rfl, Nat.le_of_ble_eq_true rfl⟩) (hw.q.sub [0, 1, 2] [0] rfl rfl) 0 rfl rfl rfl hl.1 (Nat.le_of_ble_eq_true rfl) ⟨(show cells ≤ room_1.cells by omega), (show slots ≤ room_1.slots by omega)⟩ rfl dL_law_1297 (fun r_1297 e_1297 => ?_)
  have e_1297 : r_1297 = (nI 0) := e_1297
  subst e_1297
  refine lv_iload hx hb dL_law_1300 (lv_at hl 1 rfl) ?_
  refine r_icmp_eqN (tgt := 1307) hx hb (by decide) (by decide) dL_law_1302 (by decide) (fun _ => ?_) (fun h => absurd h (by decide))
  refine lv_iload hx hb dL_law_1307 (lv_at hl 1 rfl) ?_
  refine lv_if_ne (tgt := 1331) hx hb dL_law_1309 (by decide) (fun h => absurd h (by decide)) (fun _ => ?_)
  refine lv_aload_n hx hb dL_law_1312 rfl (lv_at hl 5 rfl) ?_
  refine lv_iconst (v := nI 0) hx hb dL_law_1313 kc_iconst_0 ?_
  refine r_out hx hb hw 15 3 rfl rfl dL_law_1314 ?_
  refine lv_iload hx hb dL_law_1315 (lv_at hl 0 rfl) ?_
  refine r_if_eqB (tgt := 1324) hx hb dL_law_1317 (by decide) (fun c_1317 => ?_) (fun c_1317 => ?_)
  ·
    refine lv_lconst (v := 0) hx hb dL_law_1324 (by decide +kernel) ?_
    refine r_lcmpE hx hb (show (if 0 < cntE st.1 (r * 480 + w * 80 + 0 * 4) 80 then (1 : Int64) else 0) = (0 : Int64) from if_neg (by rw [ex_eq (by omega) hRl hr hw5]; exact c_1317)) dL_law_1325 ?_
    refine lv_if_eq (tgt := 1331) hx hb dL_law_1326 (by decide) (fun _ => ?_) (fun h => absurd h (by decide))
    refine lv_goto (tgt := 1875) hx hb dL_law_1331 (by decide) ?_
    have hw : Wd D A [(cI, .int), (cR, .object RX1), (cC, .char), (cJ, .long), (cD, .double)] (([(x9, .inr (3, [.ref (q 0), .ref (h9 0), .ref (t9 0)]))] : va_W) ++ wS cI q st ++ wR cR h9 (fr7 ad n8) ol n7 ++ wT cC t9 tx ln po ki rp tg nu ++ ([(o9, .inl (cJ, 1, .inr (.inl (vp_updL fo 0 (if 0 < cntE st.1 (r * 480 + w * 80 + 0 * 4) 80 then (1 : Int64) else 0)))))] : va_W) ++ ([(p9, .inl (cD, 1, .inr (.inr (.inr (.inl fd)))))] : va_W) ++ wM cI m9 sa tx (nI 0) n7 ln po2 lt fi sc nu2 ad2 rv ++ wP cI ad sv n8) s s.heap H locs := hw.ord [3, 4, 5, 6, 7, 8, 9, 10, 11, 12, 13, 14, 15, 16, 0, 1, 2] (k0 := 17) rfl rfl (by decide)
    have hl : lv_has ls 10 [(0, .ref b), (1, .ref x9), (2, .ref (m9 0)), (3, .ref o9), (4, .ref p9), (5, .int (nI (5 * k)))] := lv_sub hl [2, 3, 4, 5, 6, 7] rfl
    refine W.widen (k := cells + 7) (n := slots + 5790) (by omega) (by omega) ?_
    exact kk H locs ls ⟨st, ad, sv, ol, n7, n8, tx, ln, po, ki, rp, tg, nu, vp_updL fo 0 (if 0 < cntE st.1 (r * 480 + w * 80 + 0 * 4) 80 then (1 : Int64) else 0), fd, sa, nI 0, po2, lt, fi, sc, nu2, ad2, rv, hw, LV_m hLV (by omega)⟩ hl
  ·
    refine lv_lconst (v := 1) hx hb dL_law_1320 (by decide +kernel) ?_
    refine lv_goto (tgt := 1325) hx hb dL_law_1321 (by decide) ?_
    refine r_lcmpE hx hb (show (if 0 < cntE st.1 (r * 480 + w * 80 + 0 * 4) 80 then (1 : Int64) else 0) = (1 : Int64) from if_pos (by rw [ex_eq (by omega) hRl hr hw5]; exact c_1317)) dL_law_1325 ?_
    refine lv_if_eq (tgt := 1331) hx hb dL_law_1326 (by decide) (fun _ => ?_) (fun h => absurd h (by decide))
    refine lv_goto (tgt := 1875) hx hb dL_law_1331 (by decide) ?_
    have hw : Wd D A [(cI, .int), (cR, .object RX1), (cC, .char), (cJ, .long), (cD, .double)] (([(x9, .inr (3, [.ref (q 0), .ref (h9 0), .ref (t9 0)]))] : va_W) ++ wS cI q st ++ wR cR h9 (fr7 ad n8) ol n7 ++ wT cC t9 tx ln po ki rp tg nu ++ ([(o9, .inl (cJ, 1, .inr (.inl (vp_updL fo 0 (if 0 < cntE st.1 (r * 480 + w * 80 + 0 * 4) 80 then (1 : Int64) else 0)))))] : va_W) ++ ([(p9, .inl (cD, 1, .inr (.inr (.inr (.inl fd)))))] : va_W) ++ wM cI m9 sa tx (nI 0) n7 ln po2 lt fi sc nu2 ad2 rv ++ wP cI ad sv n8) s s.heap H locs := hw.ord [3, 4, 5, 6, 7, 8, 9, 10, 11, 12, 13, 14, 15, 16, 0, 1, 2] (k0 := 17) rfl rfl (by decide)
    have hl : lv_has ls 10 [(0, .ref b), (1, .ref x9), (2, .ref (m9 0)), (3, .ref o9), (4, .ref p9), (5, .int (nI (5 * k)))] := lv_sub hl [2, 3, 4, 5, 6, 7] rfl
    refine W.widen (k := cells + 7) (n := slots + 5790) (by omega) (by omega) ?_
    exact kk H locs ls ⟨st, ad, sv, ol, n7, n8, tx, ln, po, ki, rp, tg, nu, vp_updL fo 0 (if 0 < cntE st.1 (r * 480 + w * 80 + 0 * 4) 80 then (1 : Int64) else 0), fd, sa, nI 0, po2, lt, fi, sc, nu2, ad2, rv, hw, LV_m hLV (by omega)⟩ hl
set_option maxHeartbeats 4000000 in
set_option maxRecDepth 100000 in
theorem law_mean_v {p : Program} {l : Launch} {e : Env} {s : State} {m : MethodId} {args : Array Value} {below : List Frame} {meth : Method} {c : Code} {Q : State → Prop} {D : va_G} {A : Nat → Prop} {b L : Nat} {xs : Nat → Int32} {cells slots : Nat} {cI cR cC cJ cD : ClassId} {x9 : Nat} {q h9 t9 : Nat → Nat} {o9 p9 : Nat} {m9 : Nat → Nat} {B k : Nat} (F : LF p l s m c args A b L xs) (hk5 : 5 * k + 5 ≤ L) (hB : B + 100 < 2 ^ 31) (hR : cells + 7 ≤ room_1.cells ∧ slots + 5790 ≤ room_1.slots) {st : St} {ad : Nat → Nat → Nat} {sv : Nat → St} {ol n7 n8 : Nat} {tx : Nat → Nat} {ln po : Nat} {ki rp tg nu : Int32} {fo : Nat → Int64} {fd : Nat → UInt64} {sa : Nat → Int32} {th : Int32} {po2 : Nat} {lt fi sc nu2 : Int32} {ad2 rv : Nat} {H : Heap} {locs : List Loc} (hw : Wd D A [(cI, .int), (cR, .object RX1), (cC, .char), (cJ, .long), (cD, .double)] ([(x9, .inr (3, [.ref (q 0), .ref (h9 0), .ref (t9 0)]))] ++ wS cI q st ++ wR cR h9 (fr7 ad n8) ol n7 ++ wT cC t9 tx ln po ki rp tg nu ++ [(o9, .inl (cJ, 1, .inr (.inl fo)))] ++ [(p9, .inl (cD, 1, .inr (.inr (.inr (.inl fd)))))] ++ wM cI m9 sa tx th n7 ln po2 lt fi sc nu2 ad2 rv ++ wP cI ad sv n8) s s.heap H locs) (hLV : LV st sv ol n7 n8 tx ln po sa po2 B) {ls : Array Slot} (hl : lv_has ls 10 [(0, .ref b), (1, .ref x9), (2, .ref (m9 0)), (3, .ref o9), (4, .ref p9), (5, .int (nI (5 * k)))]) {r w : Nat} (hr : r < 4) (hw5 : w < 6) (h1 : xs (5 * k + 1) = nI r) (h2 : xs (5 * k + 2) = nI w) (kk : ∀ (H : Heap) (locs : List Loc) (ls : Array Slot), LW D A s cI cR cC cJ cD x9 q h9 t9 o9 p9 m9 (B + 41) H locs → lv_has ls 10 [(0, .ref b), (1, .ref x9), (2, .ref (m9 0)), (3, .ref o9), (4, .ref p9), (5, .int (nI (5 * k)))] → W p l e room_1 s m args below meth c H locs (cells + 7) (slots + 5790) Q (F0 m 1875 ls [])) : W p l e room_1 s m args below meth c H locs cells slots Q (F0 m 1334 ls []) := by
  obtain ⟨S, hz, hxe, hzq, hl9, hA, hX, hbl, hbA, hL⟩ := id F
  obtain ⟨hh, hRl, hHs, htx, hln, hpo, hpo2⟩ := id hLV
  have h6 : n7 ≤ 6 := Nat.le_trans hh.2.1 hh.2.2.1
  obtain ⟨hx, hb, hml, hown, hts⟩ := id S
  have hsm := sm_eq (c := 1) (by omega) hRl hr hw5 (by decide) 4 (Nat.le_refl _)
  have hen9 := en_all (c := 1) (by omega) hRl hr hw5 (by decide)
  refine lv_aload_n hx hb dL_law_1334 rfl (lv_at hl 1 rfl) ?_
  refine lv_aload_n hx hb dL_law_1335 rfl (lv_at hl 0 rfl) ?_
  refine lv_iload hx hb dL_law_1336 (lv_at hl 5 rfl) ?_
  refine lv_iconst (v := nI 1) hx hb dL_law_1338 kc_iconst_1 ?_
  refine r_addN hx hb dL_law_1339 ?_
  refine r_sld hx hb hX hbl hbA hL hw (i := (5 * k) + 1) (by omega) (v := nI r) h1 dL_law_1340 ?_
  refine lv_aload_n hx hb dL_law_1341 rfl (lv_at hl 0 rfl) ?_
  refine lv_iload hx hb dL_law_1342 (lv_at hl 5 rfl) ?_
  refine lv_iconst (v := nI 2) hx hb dL_law_1344 kc_iconst_2 ?_
  refine r_addN hx hb dL_law_1345 ?_
  refine r_sld hx hb hX hbl hbA hL hw (i := (5 * k) + 2) (by omega) (v := nI w) h2 dL_law_1346 ?_
  refine lv_aload hx hb dL_law_1347 (lv_at hl 4 rfl) ?_
  refine cpz_S (w1 := fun (u9 : Nat → UInt64) => ([(x9, .inr (3, [.ref (q 0), .ref (h9 0), .ref (t9 0)]))] : va_W) ++ wS cI q st ++ wR cR h9 (fr7 ad n8) ol n7 ++ wT cC t9 tx ln po ki rp tg nu ++ ([(p9, .inl (cD, 1, .inr (.inr (.inr (.inl u9)))))] : va_W)) (pl := fun (u9 : Nat → UInt64) => wP cI ad sv n8) (As := [.ref x9, .int (nI r), .int (nI w), .ref p9]) (rest := []) (wc := ([(x9, .inr (3, [.ref (q 0), .ref (h9 0), .ref (t9 0)]))] : va_W) ++ wS cI q st ++ wR cR h9 (fr7 ad n8) ol n7 ++ wT cC t9 tx ln po ki rp tg nu ++ ([(p9, .inl (cD, 1, .inr (.inr (.inr (.inl fd)))))] : va_W)) (wr := ([(o9, .inl (cJ, 1, .inr (.inl fo)))] : va_W) ++ wM cI m9 sa tx th n7 ln po2 lt fi sc nu2 ad2 rv) S hz hxe hzq (c_L_mean_v l D (hl9 := hl9) (sz := H.size) (cI := cI) (cR := cR) (cC := cC) (x9 := x9) (q := q) (st := st) (h9 := h9) (ad := ad) (sv := sv) (ol := ol) (n7 := n7) (n8 := n8) (t9 := t9) (tx := tx) (ln := ln) (po := po) (ki := ki) (rp := rp) (tg := tg) (nu := nu) (cD := cD) (o9 := p9) (fo := fd) (r := r) (w := w) (hh := hh) (hr := by omega) (hw5 := by omega)) (vx_cwSW 4 hts gL_law_L_mean rfl rfl rfl (by decide +kernel) ⟨Nat.le_of_ble_eq_true rfl, Nat.le_of_ble_eq_true rfl⟩) hw hA [0, 1, 2, 3, 4, 5, 6, 7, 8, 9, 10, 11, 13] [12, 14, 15, 16] [0, 1, 2, 4] rfl rfl (k0 := 17) rfl (by decide) rfl rfl hl.1 (Nat.le_of_ble_eq_true rfl) ⟨(show cells + 0 ≤ room_1.cells by omega), (show slots + 0 ≤ room_1.slots by omega)⟩ rfl dL_law_1349 (fun r_1349 u_1349 H locs e_1349 hw => ?_)
  have hw : Wd D A [(cI, .int), (cR, .object RX1), (cC, .char), (cJ, .long), (cD, .double)] (([(x9, .inr (3, [.ref (q 0), .ref (h9 0), .ref (t9 0)]))] : va_W) ++ wS cI q st ++ wR cR h9 (fr7 ad n8) ol n7 ++ wT cC t9 tx ln po ki rp tg nu ++ ([(p9, .inl (cD, 1, .inr (.inr (.inr (.inl u_1349)))))] : va_W) ++ ([(o9, .inl (cJ, 1, .inr (.inl fo)))] : va_W) ++ wM cI m9 sa tx th n7 ln po2 lt fi sc nu2 ad2 rv ++ wP cI ad sv n8) s s.heap H locs := hw
  obtain ⟨e_1349, x_1349⟩ := e_1349
  have e_1349 : r_1349 = nI 0 := e_1349
  subst e_1349
  refine lv_istore (lv' := [(6, .int (nI 0)), (0, .ref b), (1, .ref x9), (2, .ref (m9 0)), (3, .ref o9), (4, .ref p9), (5, .int (nI (5 * k)))]) hx hb dL_law_1352 hl (by decide) rfl (fun ls hl => ?_)
  refine lv_aload_n hx hb dL_law_1354 rfl (lv_at hl 3 rfl) ?_
  refine lv_aload_n hx hb dL_law_1355 rfl (lv_at hl 1 rfl) ?_
  refine lv_iload hx hb dL_law_1356 (lv_at hl 6 rfl) ?_
  refine lv_iconst (v := nI 1) hx hb dL_law_1358 kc_iconst_1 ?_
  refine r_addN hx hb dL_law_1359 ?_
  refine r_sld hx hb hX hbl hbA hL hw (i := (5 * k) + 1) (by omega) (v := nI r) h1 dL_law_1360 ?_
  refine lv_aload_n hx hb dL_law_1361 rfl (lv_at hl 1 rfl) ?_
  refine lv_iload hx hb dL_law_1362 (lv_at hl 6 rfl) ?_
  refine lv_iconst (v := nI 2) hx hb dL_law_1364 kc_iconst_2 ?_
  refine r_addN hx hb dL_law_1365 ?_
  refine r_sld hx hb hX hbl hbA hL hw (i := (5 * k) + 2) (by omega) (v := nI w) h2 dL_law_1366 ?_
  refine cp_Vf (As := [.int (nI r), .int (nI w)]) (rest := []) (wc := wM cI m9 sa tx th n7 ln po2 lt fi sc nu2 ad2 rv) (wr := ([(x9, .inr (3, [.ref (q 0), .ref (h9 0), .ref (t9 0)]))] : va_W) ++ wS cI q st ++ wR cR h9 (fr7 ad n8) ol n7 ++ wT cC t9 tx ln po ki rp tg nu ++ ([(p9, .inl (cD, 1, .inr (.inr (.inr (.inl u_1349)))))] : va_W) ++ ([(o9, .inl (cJ, 1, .inr (.inl fo)))] : va_W)) S (c_X4_mean_v l D (sz := H.size) (cI := cI) (m9 := m9) (sa := sa) (tx := tx) (th := th) (sv := n7) (ln := ln) (po := po2) (lt := lt) (fi := fi) (sc := sc) (nu := nu2) (ad := ad2) (rv := rv) (r := r) (w := w) (hr := by omega) (hw5 := by omega)) (cwV 2 hts gL_law_X4_mean rfl rfl rfl (by decide +kernel) ⟨Nat.le_of_ble_eq_true rfl, Nat.le_of_ble_eq_true rfl⟩) hw hA [14, 15, 16] [0, 1, 2, 3, 4, 5, 6, 7, 8, 9, 10, 11, 12, 13] [0] rfl rfl (k0 := 17) rfl (by decide) rfl 0 rfl rfl rfl hl.1 (Nat.le_of_ble_eq_true rfl) ⟨(show cells + 0 ≤ room_1.cells by omega), (show slots + 0 ≤ room_1.slots by omega)⟩ rfl dL_law_1367 (fun r_1367 u_1367 H locs e_1367 hw => ?_)
  obtain ⟨⟩ := u_1367
  have hw : Wd D A [(cI, .int), (cR, .object RX1), (cC, .char), (cJ, .long), (cD, .double)] (wM cI m9 sa tx (nI 0) n7 ln po2 lt fi sc nu2 ad2 rv ++ ([(x9, .inr (3, [.ref (q 0), .ref (h9 0), .ref (t9 0)]))] : va_W) ++ wS cI q st ++ wR cR h9 (fr7 ad n8) ol n7 ++ wT cC t9 tx ln po ki rp tg nu ++ ([(p9, .inl (cD, 1, .inr (.inr (.inr (.inl u_1349)))))] : va_W) ++ ([(o9, .inl (cJ, 1, .inr (.inl fo)))] : va_W) ++ wP cI ad sv n8) s s.heap H locs := hw
  have e_1367 : r_1367 = mnF (enM sa r w 1 4) (smM sa r w 1 4) := e_1367
  subst e_1367
  refine lv_fstore (lv' := [(7, .float (mnF (enM sa r w 1 4) (smM sa r w 1 4))), (6, .int (nI 0)), (0, .ref b), (1, .ref x9), (2, .ref (m9 0)), (3, .ref o9), (4, .ref p9), (5, .int (nI (5 * k)))]) hx hb dL_law_1370 hl (by decide) rfl (fun ls hl => ?_)
  refine lv_aload_n hx hb dL_law_1372 rfl (lv_at hl 4 rfl) ?_
  refine cq_V (As := []) (rest := []) S (c_X4_thrown l D (cI := cI) (m9 := m9) (sa := sa) (tx := tx) (th := nI 0) (sv := n7) (ln := ln) (po := po2) (lt := lt) (fi := fi) (sc := sc) (nu := nu2) (ad := ad2) (rv := rv)) (cwV 0 hts gL_law_X4_thrown rfl rfl rfl (by decide +kernel) ⟨Nat.le_of_ble_eq_true rfl, Nat.le_of_ble_eq_true rfl⟩) (hw.q.sub [0, 1, 2] [0] rfl rfl) 0 rfl rfl rfl hl.1 (Nat.le_of_ble_eq_true rfl) ⟨(show cells ≤ room_1.cells by omega), (show slots ≤ room_1.slots by omega)⟩ rfl dL_law_1373 (fun r_1373 e_1373 => ?_)
  have e_1373 : r_1373 = (nI 0) := e_1373
  subst e_1373
  refine lv_iload hx hb dL_law_1376 (lv_at hl 1 rfl) ?_
  refine r_icmp_eqN (tgt := 1383) hx hb (by decide) (by decide) dL_law_1378 (by decide) (fun _ => ?_) (fun h => absurd h (by decide))
  refine lv_iload hx hb dL_law_1383 (lv_at hl 1 rfl) ?_
  refine lv_if_ne (tgt := 1421) hx hb dL_law_1385 (by decide) (fun h => absurd h (by decide)) (fun _ => ?_)
  refine lv_aload hx hb dL_law_1388 (lv_at hl 6 rfl) ?_
  refine lv_iconst (v := nI 0) hx hb dL_law_1390 kc_iconst_0 ?_
  refine r_outD hx hb hw 15 4 rfl rfl (x := FP.f2d (mnF (cntE st.1 (r * 480 + w * 80 + 1 * 4) (cE 1 * 4 - 1 * 4)) (smE st (r * 480 + w * 80 + 1 * 4) (cE 1 * 4 - 1 * 4)))) x_1349 dL_law_1391 ?_
  refine lv_fload hx hb dL_law_1392 (lv_at hl 0 rfl) ?_
  refine lv_f2d hx hb dL_law_1394 (fl_n64 (mnF_d _ _ (by have hen := enM_le sa r w 1 4; omega))) ?_
  refine r_dcmpE hx hb (show FP.f2d (mnF (cntE st.1 (r * 480 + w * 80 + 1 * 4) (cE 1 * 4 - 1 * 4)) (smE st (r * 480 + w * 80 + 1 * 4) (cE 1 * 4 - 1 * 4))) = FP.f2d (mnF (enM sa r w 1 4) (smM sa r w 1 4)) from by rw [hen9]; exact congrArg (fun z => FP.f2d (mnF _ z)) hsm) (mnF_d _ _ (by have hen := enM_le sa r w 1 4; omega)) dL_law_1395 ?_
  refine lv_if_eq (tgt := 1421) hx hb dL_law_1396 (by decide) (fun _ => ?_) (fun h => absurd h (by decide))
  refine lv_goto (tgt := 1875) hx hb dL_law_1421 (by decide) ?_
  have hw : Wd D A [(cI, .int), (cR, .object RX1), (cC, .char), (cJ, .long), (cD, .double)] (([(x9, .inr (3, [.ref (q 0), .ref (h9 0), .ref (t9 0)]))] : va_W) ++ wS cI q st ++ wR cR h9 (fr7 ad n8) ol n7 ++ wT cC t9 tx ln po ki rp tg nu ++ ([(o9, .inl (cJ, 1, .inr (.inl fo)))] : va_W) ++ ([(p9, .inl (cD, 1, .inr (.inr (.inr (.inl u_1349)))))] : va_W) ++ wM cI m9 sa tx (nI 0) n7 ln po2 lt fi sc nu2 ad2 rv ++ wP cI ad sv n8) s s.heap H locs := hw.ord [3, 4, 5, 6, 7, 8, 9, 10, 11, 12, 13, 14, 16, 15, 0, 1, 2] (k0 := 17) rfl rfl (by decide)
  have hl : lv_has ls 10 [(0, .ref b), (1, .ref x9), (2, .ref (m9 0)), (3, .ref o9), (4, .ref p9), (5, .int (nI (5 * k)))] := lv_sub hl [2, 3, 4, 5, 6, 7] rfl
  refine W.widen (k := cells + 7) (n := slots + 5790) (by omega) (by omega) ?_
  exact kk H locs ls ⟨st, ad, sv, ol, n7, n8, tx, ln, po, ki, rp, tg, nu, fo, u_1349, sa, nI 0, po2, lt, fi, sc, nu2, ad2, rv, hw, LV_m hLV (by omega)⟩ hl
set_option maxHeartbeats 4000000 in
set_option maxRecDepth 100000 in
theorem law_seen_v {p : Program} {l : Launch} {e : Env} {s : State} {m : MethodId} {args : Array Value} {below : List Frame} {meth : Method} {c : Code} {Q : State → Prop} {D : va_G} {A : Nat → Prop} {b L : Nat} {xs : Nat → Int32} {cells slots : Nat} {cI cR cC cJ cD : ClassId} {x9 : Nat} {q h9 t9 : Nat → Nat} {o9 p9 : Nat} {m9 : Nat → Nat} {B k : Nat} (F : LF p l s m c args A b L xs) (hk5 : 5 * k + 5 ≤ L) (hB : B + 100 < 2 ^ 31) (hR : cells + 7 ≤ room_1.cells ∧ slots + 5790 ≤ room_1.slots) {st : St} {ad : Nat → Nat → Nat} {sv : Nat → St} {ol n7 n8 : Nat} {tx : Nat → Nat} {ln po : Nat} {ki rp tg nu : Int32} {fo : Nat → Int64} {fd : Nat → UInt64} {sa : Nat → Int32} {th : Int32} {po2 : Nat} {lt fi sc nu2 : Int32} {ad2 rv : Nat} {H : Heap} {locs : List Loc} (hw : Wd D A [(cI, .int), (cR, .object RX1), (cC, .char), (cJ, .long), (cD, .double)] ([(x9, .inr (3, [.ref (q 0), .ref (h9 0), .ref (t9 0)]))] ++ wS cI q st ++ wR cR h9 (fr7 ad n8) ol n7 ++ wT cC t9 tx ln po ki rp tg nu ++ [(o9, .inl (cJ, 1, .inr (.inl fo)))] ++ [(p9, .inl (cD, 1, .inr (.inr (.inr (.inl fd)))))] ++ wM cI m9 sa tx th n7 ln po2 lt fi sc nu2 ad2 rv ++ wP cI ad sv n8) s s.heap H locs) (hLV : LV st sv ol n7 n8 tx ln po sa po2 B) {ls : Array Slot} (hl : lv_has ls 10 [(0, .ref b), (1, .ref x9), (2, .ref (m9 0)), (3, .ref o9), (4, .ref p9), (5, .int (nI (5 * k)))]) {a1 b1 : Nat} (ha : a1 < 4) (hb4 : b1 < 4) (h1 : xs (5 * k + 1) = nI a1) (h2 : xs (5 * k + 2) = nI b1) (kk : ∀ (H : Heap) (locs : List Loc) (ls : Array Slot), LW D A s cI cR cC cJ cD x9 q h9 t9 o9 p9 m9 (B + 41) H locs → lv_has ls 10 [(0, .ref b), (1, .ref x9), (2, .ref (m9 0)), (3, .ref o9), (4, .ref p9), (5, .int (nI (5 * k)))] → W p l e room_1 s m args below meth c H locs (cells + 7) (slots + 5790) Q (F0 m 1875 ls [])) : W p l e room_1 s m args below meth c H locs cells slots Q (F0 m 1424 ls []) := by
  obtain ⟨S, hz, hxe, hzq, hl9, hA, hX, hbl, hbA, hL⟩ := id F
  obtain ⟨hh, hRl, hHs, htx, hln, hpo, hpo2⟩ := id hLV
  have h6 : n7 ≤ 6 := Nat.le_trans hh.2.1 hh.2.2.1
  obtain ⟨hx, hb, hml, hown, hts⟩ := id S
  refine lv_aload_n hx hb dL_law_1424 rfl (lv_at hl 1 rfl) ?_
  refine lv_aload_n hx hb dL_law_1425 rfl (lv_at hl 0 rfl) ?_
  refine lv_iload hx hb dL_law_1426 (lv_at hl 5 rfl) ?_
  refine lv_iconst (v := nI 1) hx hb dL_law_1428 kc_iconst_1 ?_
  refine r_addN hx hb dL_law_1429 ?_
  refine r_sld hx hb hX hbl hbA hL hw (i := (5 * k) + 1) (by omega) (v := nI a1) h1 dL_law_1430 ?_
  refine lv_aload_n hx hb dL_law_1431 rfl (lv_at hl 0 rfl) ?_
  refine lv_iload hx hb dL_law_1432 (lv_at hl 5 rfl) ?_
  refine lv_iconst (v := nI 2) hx hb dL_law_1434 kc_iconst_2 ?_
  refine r_addN hx hb dL_law_1435 ?_
  refine r_sld hx hb hX hbl hbA hL hw (i := (5 * k) + 2) (by omega) (v := nI b1) h2 dL_law_1436 ?_
  refine lv_aload_n hx hb dL_law_1437 rfl (lv_at hl 3 rfl) ?_
  refine cpz_S (w1 := fun (u9 : Unit) => ([(x9, .inr (3, [.ref (q 0), .ref (h9 0), .ref (t9 0)]))] : va_W) ++ wS cI q st ++ wR cR h9 (fr7 ad n8) ol n7 ++ wT cC t9 tx ln po ki rp tg nu ++ ([(o9, .inl (cJ, 1, .inr (.inl (vp_updL fo 0 ((st.2.2.2.1 (a1 * 4 + b1))).toInt64))))] : va_W)) (pl := fun (u9 : Unit) => wP cI ad sv n8) (As := [.ref x9, .int (nI a1), .int (nI b1), .ref o9]) (rest := []) (wc := ([(x9, .inr (3, [.ref (q 0), .ref (h9 0), .ref (t9 0)]))] : va_W) ++ wS cI q st ++ wR cR h9 (fr7 ad n8) ol n7 ++ wT cC t9 tx ln po ki rp tg nu ++ ([(o9, .inl (cJ, 1, .inr (.inl fo)))] : va_W)) (wr := ([(p9, .inl (cD, 1, .inr (.inr (.inr (.inl fd)))))] : va_W) ++ wM cI m9 sa tx th n7 ln po2 lt fi sc nu2 ad2 rv) S hz hxe hzq (c_L_seen_v l D (hl9 := hl9) (sz := H.size) (cI := cI) (cR := cR) (cC := cC) (x9 := x9) (q := q) (st := st) (h9 := h9) (ad := ad) (sv := sv) (ol := ol) (n7 := n7) (n8 := n8) (t9 := t9) (tx := tx) (ln := ln) (po := po) (ki := ki) (rp := rp) (tg := tg) (nu := nu) (cJ := cJ) (o9 := o9) (fo := fo) (a := a1) (b := b1) (hh := hh) (ha := by omega) (hb4 := by omega)) (vx_cwSW 4 hts gL_law_L_seen rfl rfl rfl (by decide +kernel) ⟨Nat.le_of_ble_eq_true rfl, Nat.le_of_ble_eq_true rfl⟩) hw hA [0, 1, 2, 3, 4, 5, 6, 7, 8, 9, 10, 11, 12] [13, 14, 15, 16] [0, 1, 2, 3] rfl rfl (k0 := 17) rfl (by decide) rfl rfl hl.1 (Nat.le_of_ble_eq_true rfl) ⟨(show cells + 0 ≤ room_1.cells by omega), (show slots + 0 ≤ room_1.slots by omega)⟩ rfl dL_law_1438 (fun r_1438 u_1438 H locs e_1438 hw => ?_)
  have hw : Wd D A [(cI, .int), (cR, .object RX1), (cC, .char), (cJ, .long), (cD, .double)] (([(x9, .inr (3, [.ref (q 0), .ref (h9 0), .ref (t9 0)]))] : va_W) ++ wS cI q st ++ wR cR h9 (fr7 ad n8) ol n7 ++ wT cC t9 tx ln po ki rp tg nu ++ ([(o9, .inl (cJ, 1, .inr (.inl (vp_updL fo 0 ((st.2.2.2.1 (a1 * 4 + b1))).toInt64))))] : va_W) ++ ([(p9, .inl (cD, 1, .inr (.inr (.inr (.inl fd)))))] : va_W) ++ wM cI m9 sa tx th n7 ln po2 lt fi sc nu2 ad2 rv ++ wP cI ad sv n8) s s.heap H locs := hw
  have e_1438 : r_1438 = nI 0 := e_1438
  subst e_1438
  refine lv_istore (lv' := [(6, .int (nI 0)), (0, .ref b), (1, .ref x9), (2, .ref (m9 0)), (3, .ref o9), (4, .ref p9), (5, .int (nI (5 * k)))]) hx hb dL_law_1441 hl (by decide) rfl (fun ls hl => ?_)
  refine lv_aload_n hx hb dL_law_1443 rfl (lv_at hl 3 rfl) ?_
  refine lv_aload_n hx hb dL_law_1444 rfl (lv_at hl 1 rfl) ?_
  refine lv_iload hx hb dL_law_1445 (lv_at hl 6 rfl) ?_
  refine lv_iconst (v := nI 1) hx hb dL_law_1447 kc_iconst_1 ?_
  refine r_addN hx hb dL_law_1448 ?_
  refine r_sld hx hb hX hbl hbA hL hw (i := (5 * k) + 1) (by omega) (v := nI a1) h1 dL_law_1449 ?_
  refine lv_aload_n hx hb dL_law_1450 rfl (lv_at hl 1 rfl) ?_
  refine lv_iload hx hb dL_law_1451 (lv_at hl 6 rfl) ?_
  refine lv_iconst (v := nI 2) hx hb dL_law_1453 kc_iconst_2 ?_
  refine r_addN hx hb dL_law_1454 ?_
  refine r_sld hx hb hX hbl hbA hL hw (i := (5 * k) + 2) (by omega) (v := nI b1) h2 dL_law_1455 ?_
  refine cp_Vi (As := [.int (nI a1), .int (nI b1)]) (rest := []) (wc := wM cI m9 sa tx th n7 ln po2 lt fi sc nu2 ad2 rv) (wr := ([(x9, .inr (3, [.ref (q 0), .ref (h9 0), .ref (t9 0)]))] : va_W) ++ wS cI q st ++ wR cR h9 (fr7 ad n8) ol n7 ++ wT cC t9 tx ln po ki rp tg nu ++ ([(o9, .inl (cJ, 1, .inr (.inl (vp_updL fo 0 ((st.2.2.2.1 (a1 * 4 + b1))).toInt64))))] : va_W) ++ ([(p9, .inl (cD, 1, .inr (.inr (.inr (.inl fd)))))] : va_W)) S (c_X4_seen_v l D (sz := H.size) (cI := cI) (m9 := m9) (sa := sa) (tx := tx) (th := th) (sv := n7) (ln := ln) (po := po2) (lt := lt) (fi := fi) (sc := sc) (nu := nu2) (ad := ad2) (rv := rv) (a9 := a1) (b9 := b1) (ha9 := by omega) (hb9 := by omega)) (cwV 2 hts gL_law_X4_seen rfl rfl rfl (by decide +kernel) ⟨Nat.le_of_ble_eq_true rfl, Nat.le_of_ble_eq_true rfl⟩) hw hA [14, 15, 16] [0, 1, 2, 3, 4, 5, 6, 7, 8, 9, 10, 11, 12, 13] [0] rfl rfl (k0 := 17) rfl (by decide) rfl 0 rfl rfl rfl hl.1 (Nat.le_of_ble_eq_true rfl) ⟨(show cells + 0 ≤ room_1.cells by omega), (show slots + 0 ≤ room_1.slots by omega)⟩ rfl dL_law_1456 (fun r_1456 u_1456 H locs e_1456 hw => ?_)
  have hw : Wd D A [(cI, .int), (cR, .object RX1), (cC, .char), (cJ, .long), (cD, .double)] (wM cI m9 sa tx (nI 0) n7 ln po2 lt fi sc nu2 ad2 rv ++ ([(x9, .inr (3, [.ref (q 0), .ref (h9 0), .ref (t9 0)]))] : va_W) ++ wS cI q st ++ wR cR h9 (fr7 ad n8) ol n7 ++ wT cC t9 tx ln po ki rp tg nu ++ ([(o9, .inl (cJ, 1, .inr (.inl (vp_updL fo 0 ((st.2.2.2.1 (a1 * 4 + b1))).toInt64))))] : va_W) ++ ([(p9, .inl (cD, 1, .inr (.inr (.inr (.inl fd)))))] : va_W) ++ wP cI ad sv n8) s s.heap H locs := hw
  have e_1456 : r_1456 = sa (0 + 4 * a1 + b1) := e_1456
  subst e_1456
  refine lv_istore (lv' := [(7, .int (sa (0 + 4 * a1 + b1))), (6, .int (nI 0)), (0, .ref b), (1, .ref x9), (2, .ref (m9 0)), (3, .ref o9), (4, .ref p9), (5, .int (nI (5 * k)))]) hx hb dL_law_1459 hl (by decide) rfl (fun ls hl => ?_)
  refine lv_aload_n hx hb dL_law_1461 rfl (lv_at hl 4 rfl) ?_
  refine cq_V (As := []) (rest := []) S (c_X4_thrown l D (cI := cI) (m9 := m9) (sa := sa) (tx := tx) (th := nI 0) (sv := n7) (ln := ln) (po := po2) (lt := lt) (fi := fi) (sc := sc) (nu := nu2) (ad := ad2) (rv := rv)) (cwV 0 hts gL_law_X4_thrown rfl rfl rfl (by decide +kernel) ⟨Nat.le_of_ble_eq_true rfl, Nat.le_of_ble_eq_true rfl⟩) (hw.q.sub [0, 1, 2] [0] rfl rfl) 0 rfl rfl rfl hl.1 (Nat.le_of_ble_eq_true rfl) ⟨(show cells ≤ room_1.cells by omega), (show slots ≤ room_1.slots by omega)⟩ rfl dL_law_1462 (fun r_1462 e_1462 => ?_)
  have e_1462 : r_1462 = (nI 0) := e_1462
  subst e_1462
  refine lv_iload hx hb dL_law_1465 (lv_at hl 1 rfl) ?_
  refine r_icmp_eqN (tgt := 1472) hx hb (by decide) (by decide) dL_law_1467 (by decide) (fun _ => ?_) (fun h => absurd h (by decide))
  refine lv_iload hx hb dL_law_1472 (lv_at hl 1 rfl) ?_
  refine lv_if_ne (tgt := 1489) hx hb dL_law_1474 (by decide) (fun h => absurd h (by decide)) (fun _ => ?_)
  refine lv_aload_n hx hb dL_law_1477 rfl (lv_at hl 5 rfl) ?_
  refine lv_iconst (v := nI 0) hx hb dL_law_1478 kc_iconst_0 ?_
  refine r_out hx hb hw 15 3 rfl rfl dL_law_1479 ?_
  refine lv_iload hx hb dL_law_1480 (lv_at hl 0 rfl) ?_
  refine lv_i2l hx hb dL_law_1482 rfl ?_
  refine r_lcmpE hx hb (show ((st.2.2.2.1 (a1 * 4 + b1))).toInt64 = (sa (0 + 4 * a1 + b1)).toInt64 from congrArg Int32.toInt64 (by rw [(hRl.1.1 (a1 * 4 + b1) (by omega)).1, show a1 * 4 + b1 = 0 + 4 * a1 + b1 by omega])) dL_law_1483 ?_
  refine lv_if_eq (tgt := 1489) hx hb dL_law_1484 (by decide) (fun _ => ?_) (fun h => absurd h (by decide))
  refine lv_goto (tgt := 1875) hx hb dL_law_1489 (by decide) ?_
  have hw : Wd D A [(cI, .int), (cR, .object RX1), (cC, .char), (cJ, .long), (cD, .double)] (([(x9, .inr (3, [.ref (q 0), .ref (h9 0), .ref (t9 0)]))] : va_W) ++ wS cI q st ++ wR cR h9 (fr7 ad n8) ol n7 ++ wT cC t9 tx ln po ki rp tg nu ++ ([(o9, .inl (cJ, 1, .inr (.inl (vp_updL fo 0 ((st.2.2.2.1 (a1 * 4 + b1))).toInt64))))] : va_W) ++ ([(p9, .inl (cD, 1, .inr (.inr (.inr (.inl fd)))))] : va_W) ++ wM cI m9 sa tx (nI 0) n7 ln po2 lt fi sc nu2 ad2 rv ++ wP cI ad sv n8) s s.heap H locs := hw.ord [3, 4, 5, 6, 7, 8, 9, 10, 11, 12, 13, 14, 15, 16, 0, 1, 2] (k0 := 17) rfl rfl (by decide)
  have hl : lv_has ls 10 [(0, .ref b), (1, .ref x9), (2, .ref (m9 0)), (3, .ref o9), (4, .ref p9), (5, .int (nI (5 * k)))] := lv_sub hl [2, 3, 4, 5, 6, 7] rfl
  refine W.widen (k := cells + 7) (n := slots + 5790) (by omega) (by omega) ?_
  exact kk H locs ls ⟨st, ad, sv, ol, n7, n8, tx, ln, po, ki, rp, tg, nu, vp_updL fo 0 ((st.2.2.2.1 (a1 * 4 + b1))).toInt64, fd, sa, nI 0, po2, lt, fi, sc, nu2, ad2, rv, hw, LV_m hLV (by omega)⟩ hl
set_option maxHeartbeats 4000000 in
set_option maxRecDepth 100000 in
theorem law_clock_v {p : Program} {l : Launch} {e : Env} {s : State} {m : MethodId} {args : Array Value} {below : List Frame} {meth : Method} {c : Code} {Q : State → Prop} {D : va_G} {A : Nat → Prop} {b L : Nat} {xs : Nat → Int32} {cells slots : Nat} {cI cR cC cJ cD : ClassId} {x9 : Nat} {q h9 t9 : Nat → Nat} {o9 p9 : Nat} {m9 : Nat → Nat} {B k : Nat} (F : LF p l s m c args A b L xs) (hk5 : 5 * k + 5 ≤ L) (hB : B + 100 < 2 ^ 31) (hR : cells + 7 ≤ room_1.cells ∧ slots + 5790 ≤ room_1.slots) {st : St} {ad : Nat → Nat → Nat} {sv : Nat → St} {ol n7 n8 : Nat} {tx : Nat → Nat} {ln po : Nat} {ki rp tg nu : Int32} {fo : Nat → Int64} {fd : Nat → UInt64} {sa : Nat → Int32} {th : Int32} {po2 : Nat} {lt fi sc nu2 : Int32} {ad2 rv : Nat} {H : Heap} {locs : List Loc} (hw : Wd D A [(cI, .int), (cR, .object RX1), (cC, .char), (cJ, .long), (cD, .double)] ([(x9, .inr (3, [.ref (q 0), .ref (h9 0), .ref (t9 0)]))] ++ wS cI q st ++ wR cR h9 (fr7 ad n8) ol n7 ++ wT cC t9 tx ln po ki rp tg nu ++ [(o9, .inl (cJ, 1, .inr (.inl fo)))] ++ [(p9, .inl (cD, 1, .inr (.inr (.inr (.inl fd)))))] ++ wM cI m9 sa tx th n7 ln po2 lt fi sc nu2 ad2 rv ++ wP cI ad sv n8) s s.heap H locs) (hLV : LV st sv ol n7 n8 tx ln po sa po2 B) {ls : Array Slot} (hl : lv_has ls 10 [(0, .ref b), (1, .ref x9), (2, .ref (m9 0)), (3, .ref o9), (4, .ref p9), (5, .int (nI (5 * k)))]) {r : Nat} (hr : r < 4) (h1 : xs (5 * k + 1) = nI r) (kk : ∀ (H : Heap) (locs : List Loc) (ls : Array Slot), LW D A s cI cR cC cJ cD x9 q h9 t9 o9 p9 m9 (B + 41) H locs → lv_has ls 10 [(0, .ref b), (1, .ref x9), (2, .ref (m9 0)), (3, .ref o9), (4, .ref p9), (5, .int (nI (5 * k)))] → W p l e room_1 s m args below meth c H locs (cells + 7) (slots + 5790) Q (F0 m 1875 ls [])) : W p l e room_1 s m args below meth c H locs cells slots Q (F0 m 1492 ls []) := by
  obtain ⟨S, hz, hxe, hzq, hl9, hA, hX, hbl, hbA, hL⟩ := id F
  obtain ⟨hh, hRl, hHs, htx, hln, hpo, hpo2⟩ := id hLV
  have h6 : n7 ≤ 6 := Nat.le_trans hh.2.1 hh.2.2.1
  obtain ⟨hx, hb, hml, hown, hts⟩ := id S
  refine lv_aload_n hx hb dL_law_1492 rfl (lv_at hl 1 rfl) ?_
  refine lv_aload_n hx hb dL_law_1493 rfl (lv_at hl 0 rfl) ?_
  refine lv_iload hx hb dL_law_1494 (lv_at hl 5 rfl) ?_
  refine lv_iconst (v := nI 1) hx hb dL_law_1496 kc_iconst_1 ?_
  refine r_addN hx hb dL_law_1497 ?_
  refine r_sld hx hb hX hbl hbA hL hw (i := (5 * k) + 1) (by omega) (v := nI r) h1 dL_law_1498 ?_
  refine lv_aload_n hx hb dL_law_1499 rfl (lv_at hl 3 rfl) ?_
  refine cpz_S (w1 := fun (u9 : Unit) => ([(x9, .inr (3, [.ref (q 0), .ref (h9 0), .ref (t9 0)]))] : va_W) ++ wS cI q st ++ wR cR h9 (fr7 ad n8) ol n7 ++ wT cC t9 tx ln po ki rp tg nu ++ ([(o9, .inl (cJ, 1, .inr (.inl (vp_updL fo 0 ((st.2.2.2.2.1 r)).toInt64))))] : va_W)) (pl := fun (u9 : Unit) => wP cI ad sv n8) (As := [.ref x9, .int (nI r), .ref o9]) (rest := []) (wc := ([(x9, .inr (3, [.ref (q 0), .ref (h9 0), .ref (t9 0)]))] : va_W) ++ wS cI q st ++ wR cR h9 (fr7 ad n8) ol n7 ++ wT cC t9 tx ln po ki rp tg nu ++ ([(o9, .inl (cJ, 1, .inr (.inl fo)))] : va_W)) (wr := ([(p9, .inl (cD, 1, .inr (.inr (.inr (.inl fd)))))] : va_W) ++ wM cI m9 sa tx th n7 ln po2 lt fi sc nu2 ad2 rv) S hz hxe hzq (c_L_clock_v l D (hl9 := hl9) (sz := H.size) (cI := cI) (cR := cR) (cC := cC) (x9 := x9) (q := q) (st := st) (h9 := h9) (ad := ad) (sv := sv) (ol := ol) (n7 := n7) (n8 := n8) (t9 := t9) (tx := tx) (ln := ln) (po := po) (ki := ki) (rp := rp) (tg := tg) (nu := nu) (cJ := cJ) (o9 := o9) (fo := fo) (r := r) (hh := hh) (hr := by omega)) (vx_cwSW 3 hts gL_law_L_clock rfl rfl rfl (by decide +kernel) ⟨Nat.le_of_ble_eq_true rfl, Nat.le_of_ble_eq_true rfl⟩) hw hA [0, 1, 2, 3, 4, 5, 6, 7, 8, 9, 10, 11, 12] [13, 14, 15, 16] [0, 1, 2, 3] rfl rfl (k0 := 17) rfl (by decide) rfl rfl hl.1 (Nat.le_of_ble_eq_true rfl) ⟨(show cells + 0 ≤ room_1.cells by omega), (show slots + 0 ≤ room_1.slots by omega)⟩ rfl dL_law_1500 (fun r_1500 u_1500 H locs e_1500 hw => ?_)
  have hw : Wd D A [(cI, .int), (cR, .object RX1), (cC, .char), (cJ, .long), (cD, .double)] (([(x9, .inr (3, [.ref (q 0), .ref (h9 0), .ref (t9 0)]))] : va_W) ++ wS cI q st ++ wR cR h9 (fr7 ad n8) ol n7 ++ wT cC t9 tx ln po ki rp tg nu ++ ([(o9, .inl (cJ, 1, .inr (.inl (vp_updL fo 0 ((st.2.2.2.2.1 r)).toInt64))))] : va_W) ++ ([(p9, .inl (cD, 1, .inr (.inr (.inr (.inl fd)))))] : va_W) ++ wM cI m9 sa tx th n7 ln po2 lt fi sc nu2 ad2 rv ++ wP cI ad sv n8) s s.heap H locs := hw
  have e_1500 : r_1500 = nI 0 := e_1500
  subst e_1500
  refine lv_istore (lv' := [(6, .int (nI 0)), (0, .ref b), (1, .ref x9), (2, .ref (m9 0)), (3, .ref o9), (4, .ref p9), (5, .int (nI (5 * k)))]) hx hb dL_law_1503 hl (by decide) rfl (fun ls hl => ?_)
  refine lv_aload_n hx hb dL_law_1505 rfl (lv_at hl 3 rfl) ?_
  refine lv_aload_n hx hb dL_law_1506 rfl (lv_at hl 1 rfl) ?_
  refine lv_iload hx hb dL_law_1507 (lv_at hl 6 rfl) ?_
  refine lv_iconst (v := nI 1) hx hb dL_law_1509 kc_iconst_1 ?_
  refine r_addN hx hb dL_law_1510 ?_
  refine r_sld hx hb hX hbl hbA hL hw (i := (5 * k) + 1) (by omega) (v := nI r) h1 dL_law_1511 ?_
  refine cp_Vi (As := [.int (nI r)]) (rest := []) (wc := wM cI m9 sa tx th n7 ln po2 lt fi sc nu2 ad2 rv) (wr := ([(x9, .inr (3, [.ref (q 0), .ref (h9 0), .ref (t9 0)]))] : va_W) ++ wS cI q st ++ wR cR h9 (fr7 ad n8) ol n7 ++ wT cC t9 tx ln po ki rp tg nu ++ ([(o9, .inl (cJ, 1, .inr (.inl (vp_updL fo 0 ((st.2.2.2.2.1 r)).toInt64))))] : va_W) ++ ([(p9, .inl (cD, 1, .inr (.inr (.inr (.inl fd)))))] : va_W)) S (c_X4_clock_v l D (sz := H.size) (cI := cI) (m9 := m9) (sa := sa) (tx := tx) (th := th) (sv := n7) (ln := ln) (po := po2) (lt := lt) (fi := fi) (sc := sc) (nu := nu2) (ad := ad2) (rv := rv) (r := r) (hr := by omega)) (cwV 1 hts gL_law_X4_clock rfl rfl rfl (by decide +kernel) ⟨Nat.le_of_ble_eq_true rfl, Nat.le_of_ble_eq_true rfl⟩) hw hA [14, 15, 16] [0, 1, 2, 3, 4, 5, 6, 7, 8, 9, 10, 11, 12, 13] [0] rfl rfl (k0 := 17) rfl (by decide) rfl 0 rfl rfl rfl hl.1 (Nat.le_of_ble_eq_true rfl) ⟨(show cells + 0 ≤ room_1.cells by omega), (show slots + 0 ≤ room_1.slots by omega)⟩ rfl dL_law_1512 (fun r_1512 u_1512 H locs e_1512 hw => ?_)
  have hw : Wd D A [(cI, .int), (cR, .object RX1), (cC, .char), (cJ, .long), (cD, .double)] (wM cI m9 sa tx (nI 0) n7 ln po2 lt fi sc nu2 ad2 rv ++ ([(x9, .inr (3, [.ref (q 0), .ref (h9 0), .ref (t9 0)]))] : va_W) ++ wS cI q st ++ wR cR h9 (fr7 ad n8) ol n7 ++ wT cC t9 tx ln po ki rp tg nu ++ ([(o9, .inl (cJ, 1, .inr (.inl (vp_updL fo 0 ((st.2.2.2.2.1 r)).toInt64))))] : va_W) ++ ([(p9, .inl (cD, 1, .inr (.inr (.inr (.inl fd)))))] : va_W) ++ wP cI ad sv n8) s s.heap H locs := hw
  have e_1512 : r_1512 = sa (16 + r) := e_1512
  subst e_1512
  refine lv_istore (lv' := [(7, .int (sa (16 + r))), (6, .int (nI 0)), (0, .ref b), (1, .ref x9), (2, .ref (m9 0)), (3, .ref o9), (4, .ref p9), (5, .int (nI (5 * k)))]) hx hb dL_law_1515 hl (by decide) rfl (fun ls hl => ?_)
  refine lv_aload_n hx hb dL_law_1517 rfl (lv_at hl 4 rfl) ?_
  refine cq_V (As := []) (rest := []) S (c_X4_thrown l D (cI := cI) (m9 := m9) (sa := sa) (tx := tx) (th := nI 0) (sv := n7) (ln := ln) (po := po2) (lt := lt) (fi := fi) (sc := sc) (nu := nu2) (ad := ad2) (rv := rv)) (cwV 0 hts gL_law_X4_thrown rfl rfl rfl (by decide +kernel) ⟨Nat.le_of_ble_eq_true rfl, Nat.le_of_ble_eq_true rfl⟩) (hw.q.sub [0, 1, 2] [0] rfl rfl) 0 rfl rfl rfl hl.1 (Nat.le_of_ble_eq_true rfl) ⟨(show cells ≤ room_1.cells by omega), (show slots ≤ room_1.slots by omega)⟩ rfl dL_law_1518 (fun r_1518 e_1518 => ?_)
  have e_1518 : r_1518 = (nI 0) := e_1518
  subst e_1518
  refine lv_iload hx hb dL_law_1521 (lv_at hl 1 rfl) ?_
  refine r_icmp_eqN (tgt := 1528) hx hb (by decide) (by decide) dL_law_1523 (by decide) (fun _ => ?_) (fun h => absurd h (by decide))
  refine lv_iload hx hb dL_law_1528 (lv_at hl 1 rfl) ?_
  refine lv_if_ne (tgt := 1545) hx hb dL_law_1530 (by decide) (fun h => absurd h (by decide)) (fun _ => ?_)
  refine lv_aload_n hx hb dL_law_1533 rfl (lv_at hl 5 rfl) ?_
  refine lv_iconst (v := nI 0) hx hb dL_law_1534 kc_iconst_0 ?_
  refine r_out hx hb hw 15 3 rfl rfl dL_law_1535 ?_
  refine lv_iload hx hb dL_law_1536 (lv_at hl 0 rfl) ?_
  refine lv_i2l hx hb dL_law_1538 rfl ?_
  refine r_lcmpE hx hb (show ((st.2.2.2.2.1 r)).toInt64 = (sa (16 + r)).toInt64 from congrArg Int32.toInt64 ((hRl.1.2.1 r hr).1)) dL_law_1539 ?_
  refine lv_if_eq (tgt := 1545) hx hb dL_law_1540 (by decide) (fun _ => ?_) (fun h => absurd h (by decide))
  refine lv_goto (tgt := 1875) hx hb dL_law_1545 (by decide) ?_
  have hw : Wd D A [(cI, .int), (cR, .object RX1), (cC, .char), (cJ, .long), (cD, .double)] (([(x9, .inr (3, [.ref (q 0), .ref (h9 0), .ref (t9 0)]))] : va_W) ++ wS cI q st ++ wR cR h9 (fr7 ad n8) ol n7 ++ wT cC t9 tx ln po ki rp tg nu ++ ([(o9, .inl (cJ, 1, .inr (.inl (vp_updL fo 0 ((st.2.2.2.2.1 r)).toInt64))))] : va_W) ++ ([(p9, .inl (cD, 1, .inr (.inr (.inr (.inl fd)))))] : va_W) ++ wM cI m9 sa tx (nI 0) n7 ln po2 lt fi sc nu2 ad2 rv ++ wP cI ad sv n8) s s.heap H locs := hw.ord [3, 4, 5, 6, 7, 8, 9, 10, 11, 12, 13, 14, 15, 16, 0, 1, 2] (k0 := 17) rfl rfl (by decide)
  have hl : lv_has ls 10 [(0, .ref b), (1, .ref x9), (2, .ref (m9 0)), (3, .ref o9), (4, .ref p9), (5, .int (nI (5 * k)))] := lv_sub hl [2, 3, 4, 5, 6, 7] rfl
  refine W.widen (k := cells + 7) (n := slots + 5790) (by omega) (by omega) ?_
  exact kk H locs ls ⟨st, ad, sv, ol, n7, n8, tx, ln, po, ki, rp, tg, nu, vp_updL fo 0 ((st.2.2.2.2.1 r)).toInt64, fd, sa, nI 0, po2, lt, fi, sc, nu2, ad2, rv, hw, LV_m hLV (by omega)⟩ hl
set_option maxHeartbeats 4000000 in
set_option maxRecDepth 100000 in
theorem law_relation_v {p : Program} {l : Launch} {e : Env} {s : State} {m : MethodId} {args : Array Value} {below : List Frame} {meth : Method} {c : Code} {Q : State → Prop} {D : va_G} {A : Nat → Prop} {b L : Nat} {xs : Nat → Int32} {cells slots : Nat} {cI cR cC cJ cD : ClassId} {x9 : Nat} {q h9 t9 : Nat → Nat} {o9 p9 : Nat} {m9 : Nat → Nat} {B k : Nat} (F : LF p l s m c args A b L xs) (hk5 : 5 * k + 5 ≤ L) (hB : B + 100 < 2 ^ 31) (hR : cells + 7 ≤ room_1.cells ∧ slots + 5790 ≤ room_1.slots) {st : St} {ad : Nat → Nat → Nat} {sv : Nat → St} {ol n7 n8 : Nat} {tx : Nat → Nat} {ln po : Nat} {ki rp tg nu : Int32} {fo : Nat → Int64} {fd : Nat → UInt64} {sa : Nat → Int32} {th : Int32} {po2 : Nat} {lt fi sc nu2 : Int32} {ad2 rv : Nat} {H : Heap} {locs : List Loc} (hw : Wd D A [(cI, .int), (cR, .object RX1), (cC, .char), (cJ, .long), (cD, .double)] ([(x9, .inr (3, [.ref (q 0), .ref (h9 0), .ref (t9 0)]))] ++ wS cI q st ++ wR cR h9 (fr7 ad n8) ol n7 ++ wT cC t9 tx ln po ki rp tg nu ++ [(o9, .inl (cJ, 1, .inr (.inl fo)))] ++ [(p9, .inl (cD, 1, .inr (.inr (.inr (.inl fd)))))] ++ wM cI m9 sa tx th n7 ln po2 lt fi sc nu2 ad2 rv ++ wP cI ad sv n8) s s.heap H locs) (hLV : LV st sv ol n7 n8 tx ln po sa po2 B) {ls : Array Slot} (hl : lv_has ls 10 [(0, .ref b), (1, .ref x9), (2, .ref (m9 0)), (3, .ref o9), (4, .ref p9), (5, .int (nI (5 * k)))]) {a1 b1 : Nat} (ha : a1 < 4) (hb4 : b1 < 4) (h1 : xs (5 * k + 1) = nI a1) (h2 : xs (5 * k + 2) = nI b1) (kk : ∀ (H : Heap) (locs : List Loc) (ls : Array Slot), LW D A s cI cR cC cJ cD x9 q h9 t9 o9 p9 m9 (B + 41) H locs → lv_has ls 10 [(0, .ref b), (1, .ref x9), (2, .ref (m9 0)), (3, .ref o9), (4, .ref p9), (5, .int (nI (5 * k)))] → W p l e room_1 s m args below meth c H locs (cells + 7) (slots + 5790) Q (F0 m 1875 ls [])) : W p l e room_1 s m args below meth c H locs cells slots Q (F0 m 1548 ls []) := by
  obtain ⟨S, hz, hxe, hzq, hl9, hA, hX, hbl, hbA, hL⟩ := id F
  obtain ⟨hh, hRl, hHs, htx, hln, hpo, hpo2⟩ := id hLV
  have h6 : n7 ≤ 6 := Nat.le_trans hh.2.1 hh.2.2.1
  obtain ⟨hx, hb, hml, hown, hts⟩ := id S
  refine lv_aload_n hx hb dL_law_1548 rfl (lv_at hl 1 rfl) ?_
  refine lv_aload_n hx hb dL_law_1549 rfl (lv_at hl 0 rfl) ?_
  refine lv_iload hx hb dL_law_1550 (lv_at hl 5 rfl) ?_
  refine lv_iconst (v := nI 1) hx hb dL_law_1552 kc_iconst_1 ?_
  refine r_addN hx hb dL_law_1553 ?_
  refine r_sld hx hb hX hbl hbA hL hw (i := (5 * k) + 1) (by omega) (v := nI a1) h1 dL_law_1554 ?_
  refine lv_aload_n hx hb dL_law_1555 rfl (lv_at hl 0 rfl) ?_
  refine lv_iload hx hb dL_law_1556 (lv_at hl 5 rfl) ?_
  refine lv_iconst (v := nI 2) hx hb dL_law_1558 kc_iconst_2 ?_
  refine r_addN hx hb dL_law_1559 ?_
  refine r_sld hx hb hX hbl hbA hL hw (i := (5 * k) + 2) (by omega) (v := nI b1) h2 dL_law_1560 ?_
  refine lv_aload_n hx hb dL_law_1561 rfl (lv_at hl 3 rfl) ?_
  refine cpz_S (w1 := fun (u9 : Unit) => ([(x9, .inr (3, [.ref (q 0), .ref (h9 0), .ref (t9 0)]))] : va_W) ++ wS cI q st ++ wR cR h9 (fr7 ad n8) ol n7 ++ wT cC t9 tx ln po ki rp tg nu ++ ([(o9, .inl (cJ, 1, .inr (.inl (vp_updL fo 0 ((reS st a1 b1)).toInt64))))] : va_W)) (pl := fun (u9 : Unit) => wP cI ad sv n8) (As := [.ref x9, .int (nI a1), .int (nI b1), .ref o9]) (rest := []) (wc := ([(x9, .inr (3, [.ref (q 0), .ref (h9 0), .ref (t9 0)]))] : va_W) ++ wS cI q st ++ wR cR h9 (fr7 ad n8) ol n7 ++ wT cC t9 tx ln po ki rp tg nu ++ ([(o9, .inl (cJ, 1, .inr (.inl fo)))] : va_W)) (wr := ([(p9, .inl (cD, 1, .inr (.inr (.inr (.inl fd)))))] : va_W) ++ wM cI m9 sa tx th n7 ln po2 lt fi sc nu2 ad2 rv) S hz hxe hzq (c_L_relation_v l D (hl9 := hl9) (sz := H.size) (cI := cI) (cR := cR) (cC := cC) (x9 := x9) (q := q) (st := st) (h9 := h9) (ad := ad) (sv := sv) (ol := ol) (n7 := n7) (n8 := n8) (t9 := t9) (tx := tx) (ln := ln) (po := po) (ki := ki) (rp := rp) (tg := tg) (nu := nu) (cJ := cJ) (o9 := o9) (fo := fo) (a := a1) (b := b1) (hh := hh) (ha := by omega) (hb4 := by omega)) (vx_cwSW 4 hts gL_law_L_relation rfl rfl rfl (by decide +kernel) ⟨Nat.le_of_ble_eq_true rfl, Nat.le_of_ble_eq_true rfl⟩) hw hA [0, 1, 2, 3, 4, 5, 6, 7, 8, 9, 10, 11, 12] [13, 14, 15, 16] [0, 1, 2, 3] rfl rfl (k0 := 17) rfl (by decide) rfl rfl hl.1 (Nat.le_of_ble_eq_true rfl) ⟨(show cells + 0 ≤ room_1.cells by omega), (show slots + 0 ≤ room_1.slots by omega)⟩ rfl dL_law_1562 (fun r_1562 u_1562 H locs e_1562 hw => ?_)
  have hw : Wd D A [(cI, .int), (cR, .object RX1), (cC, .char), (cJ, .long), (cD, .double)] (([(x9, .inr (3, [.ref (q 0), .ref (h9 0), .ref (t9 0)]))] : va_W) ++ wS cI q st ++ wR cR h9 (fr7 ad n8) ol n7 ++ wT cC t9 tx ln po ki rp tg nu ++ ([(o9, .inl (cJ, 1, .inr (.inl (vp_updL fo 0 ((reS st a1 b1)).toInt64))))] : va_W) ++ ([(p9, .inl (cD, 1, .inr (.inr (.inr (.inl fd)))))] : va_W) ++ wM cI m9 sa tx th n7 ln po2 lt fi sc nu2 ad2 rv ++ wP cI ad sv n8) s s.heap H locs := hw
  have e_1562 : r_1562 = nI 0 := e_1562
  subst e_1562
  refine lv_istore (lv' := [(6, .int (nI 0)), (0, .ref b), (1, .ref x9), (2, .ref (m9 0)), (3, .ref o9), (4, .ref p9), (5, .int (nI (5 * k)))]) hx hb dL_law_1565 hl (by decide) rfl (fun ls hl => ?_)
  refine lv_aload_n hx hb dL_law_1567 rfl (lv_at hl 3 rfl) ?_
  refine lv_aload_n hx hb dL_law_1568 rfl (lv_at hl 1 rfl) ?_
  refine lv_iload hx hb dL_law_1569 (lv_at hl 6 rfl) ?_
  refine lv_iconst (v := nI 1) hx hb dL_law_1571 kc_iconst_1 ?_
  refine r_addN hx hb dL_law_1572 ?_
  refine r_sld hx hb hX hbl hbA hL hw (i := (5 * k) + 1) (by omega) (v := nI a1) h1 dL_law_1573 ?_
  refine lv_aload_n hx hb dL_law_1574 rfl (lv_at hl 1 rfl) ?_
  refine lv_iload hx hb dL_law_1575 (lv_at hl 6 rfl) ?_
  refine lv_iconst (v := nI 2) hx hb dL_law_1577 kc_iconst_2 ?_
  refine r_addN hx hb dL_law_1578 ?_
  refine r_sld hx hb hX hbl hbA hL hw (i := (5 * k) + 2) (by omega) (v := nI b1) h2 dL_law_1579 ?_
  refine cp_Vi (As := [.int (nI a1), .int (nI b1)]) (rest := []) (wc := wM cI m9 sa tx th n7 ln po2 lt fi sc nu2 ad2 rv) (wr := ([(x9, .inr (3, [.ref (q 0), .ref (h9 0), .ref (t9 0)]))] : va_W) ++ wS cI q st ++ wR cR h9 (fr7 ad n8) ol n7 ++ wT cC t9 tx ln po ki rp tg nu ++ ([(o9, .inl (cJ, 1, .inr (.inl (vp_updL fo 0 ((reS st a1 b1)).toInt64))))] : va_W) ++ ([(p9, .inl (cD, 1, .inr (.inr (.inr (.inl fd)))))] : va_W)) S (c_X4_relation_v l D (sz := H.size) (cI := cI) (m9 := m9) (sa := sa) (tx := tx) (th := th) (sv := n7) (ln := ln) (po := po2) (lt := lt) (fi := fi) (sc := sc) (nu := nu2) (ad := ad2) (rv := rv) (a9 := a1) (b9 := b1) (ha9 := by omega) (hb9 := by omega)) (cwV 2 hts gL_law_X4_relation rfl rfl rfl (by decide +kernel) ⟨Nat.le_of_ble_eq_true rfl, Nat.le_of_ble_eq_true rfl⟩) hw hA [14, 15, 16] [0, 1, 2, 3, 4, 5, 6, 7, 8, 9, 10, 11, 12, 13] [0] rfl rfl (k0 := 17) rfl (by decide) rfl 0 rfl rfl rfl hl.1 (Nat.le_of_ble_eq_true rfl) ⟨(show cells + 0 ≤ room_1.cells by omega), (show slots + 0 ≤ room_1.slots by omega)⟩ rfl dL_law_1580 (fun r_1580 u_1580 H locs e_1580 hw => ?_)
  have hw : Wd D A [(cI, .int), (cR, .object RX1), (cC, .char), (cJ, .long), (cD, .double)] (wM cI m9 sa tx (nI 0) n7 ln po2 lt fi sc nu2 ad2 rv ++ ([(x9, .inr (3, [.ref (q 0), .ref (h9 0), .ref (t9 0)]))] : va_W) ++ wS cI q st ++ wR cR h9 (fr7 ad n8) ol n7 ++ wT cC t9 tx ln po ki rp tg nu ++ ([(o9, .inl (cJ, 1, .inr (.inl (vp_updL fo 0 ((reS st a1 b1)).toInt64))))] : va_W) ++ ([(p9, .inl (cD, 1, .inr (.inr (.inr (.inl fd)))))] : va_W) ++ wP cI ad sv n8) s s.heap H locs := hw
  have e_1580 : r_1580 = reM sa a1 b1 := e_1580
  subst e_1580
  refine lv_istore (lv' := [(7, .int (reM sa a1 b1)), (6, .int (nI 0)), (0, .ref b), (1, .ref x9), (2, .ref (m9 0)), (3, .ref o9), (4, .ref p9), (5, .int (nI (5 * k)))]) hx hb dL_law_1583 hl (by decide) rfl (fun ls hl => ?_)
  refine lv_aload_n hx hb dL_law_1585 rfl (lv_at hl 4 rfl) ?_
  refine cq_V (As := []) (rest := []) S (c_X4_thrown l D (cI := cI) (m9 := m9) (sa := sa) (tx := tx) (th := nI 0) (sv := n7) (ln := ln) (po := po2) (lt := lt) (fi := fi) (sc := sc) (nu := nu2) (ad := ad2) (rv := rv)) (cwV 0 hts gL_law_X4_thrown rfl rfl rfl (by decide +kernel) ⟨Nat.le_of_ble_eq_true rfl, Nat.le_of_ble_eq_true rfl⟩) (hw.q.sub [0, 1, 2] [0] rfl rfl) 0 rfl rfl rfl hl.1 (Nat.le_of_ble_eq_true rfl) ⟨(show cells ≤ room_1.cells by omega), (show slots ≤ room_1.slots by omega)⟩ rfl dL_law_1586 (fun r_1586 e_1586 => ?_)
  have e_1586 : r_1586 = (nI 0) := e_1586
  subst e_1586
  refine lv_iload hx hb dL_law_1589 (lv_at hl 1 rfl) ?_
  refine r_icmp_eqN (tgt := 1596) hx hb (by decide) (by decide) dL_law_1591 (by decide) (fun _ => ?_) (fun h => absurd h (by decide))
  refine lv_iload hx hb dL_law_1596 (lv_at hl 1 rfl) ?_
  refine lv_if_ne (tgt := 1613) hx hb dL_law_1598 (by decide) (fun h => absurd h (by decide)) (fun _ => ?_)
  refine lv_aload_n hx hb dL_law_1601 rfl (lv_at hl 5 rfl) ?_
  refine lv_iconst (v := nI 0) hx hb dL_law_1602 kc_iconst_0 ?_
  refine r_out hx hb hw 15 3 rfl rfl dL_law_1603 ?_
  refine lv_iload hx hb dL_law_1604 (lv_at hl 0 rfl) ?_
  refine lv_i2l hx hb dL_law_1606 rfl ?_
  refine r_lcmpE hx hb (show ((reS st a1 b1)).toInt64 = (reM sa a1 b1).toInt64 from congrArg Int32.toInt64 (re_eq hRl ha hb4)) dL_law_1607 ?_
  refine lv_if_eq (tgt := 1613) hx hb dL_law_1608 (by decide) (fun _ => ?_) (fun h => absurd h (by decide))
  refine lv_goto (tgt := 1875) hx hb dL_law_1613 (by decide) ?_
  have hw : Wd D A [(cI, .int), (cR, .object RX1), (cC, .char), (cJ, .long), (cD, .double)] (([(x9, .inr (3, [.ref (q 0), .ref (h9 0), .ref (t9 0)]))] : va_W) ++ wS cI q st ++ wR cR h9 (fr7 ad n8) ol n7 ++ wT cC t9 tx ln po ki rp tg nu ++ ([(o9, .inl (cJ, 1, .inr (.inl (vp_updL fo 0 ((reS st a1 b1)).toInt64))))] : va_W) ++ ([(p9, .inl (cD, 1, .inr (.inr (.inr (.inl fd)))))] : va_W) ++ wM cI m9 sa tx (nI 0) n7 ln po2 lt fi sc nu2 ad2 rv ++ wP cI ad sv n8) s s.heap H locs := hw.ord [3, 4, 5, 6, 7, 8, 9, 10, 11, 12, 13, 14, 15, 16, 0, 1, 2] (k0 := 17) rfl rfl (by decide)
  have hl : lv_has ls 10 [(0, .ref b), (1, .ref x9), (2, .ref (m9 0)), (3, .ref o9), (4, .ref p9), (5, .int (nI (5 * k)))] := lv_sub hl [2, 3, 4, 5, 6, 7] rfl
  refine W.widen (k := cells + 7) (n := slots + 5790) (by omega) (by omega) ?_
  exact kk H locs ls ⟨st, ad, sv, ol, n7, n8, tx, ln, po, ki, rp, tg, nu, vp_updL fo 0 ((reS st a1 b1)).toInt64, fd, sa, nI 0, po2, lt, fi, sc, nu2, ad2, rv, hw, LV_m hLV (by omega)⟩ hl
set_option maxHeartbeats 4000000 in
set_option maxRecDepth 100000 in
theorem law_conflicts_v {p : Program} {l : Launch} {e : Env} {s : State} {m : MethodId} {args : Array Value} {below : List Frame} {meth : Method} {c : Code} {Q : State → Prop} {D : va_G} {A : Nat → Prop} {b L : Nat} {xs : Nat → Int32} {cells slots : Nat} {cI cR cC cJ cD : ClassId} {x9 : Nat} {q h9 t9 : Nat → Nat} {o9 p9 : Nat} {m9 : Nat → Nat} {B k : Nat} (F : LF p l s m c args A b L xs) (hk5 : 5 * k + 5 ≤ L) (hB : B + 100 < 2 ^ 31) (hR : cells + 7 ≤ room_1.cells ∧ slots + 5790 ≤ room_1.slots) {st : St} {ad : Nat → Nat → Nat} {sv : Nat → St} {ol n7 n8 : Nat} {tx : Nat → Nat} {ln po : Nat} {ki rp tg nu : Int32} {fo : Nat → Int64} {fd : Nat → UInt64} {sa : Nat → Int32} {th : Int32} {po2 : Nat} {lt fi sc nu2 : Int32} {ad2 rv : Nat} {H : Heap} {locs : List Loc} (hw : Wd D A [(cI, .int), (cR, .object RX1), (cC, .char), (cJ, .long), (cD, .double)] ([(x9, .inr (3, [.ref (q 0), .ref (h9 0), .ref (t9 0)]))] ++ wS cI q st ++ wR cR h9 (fr7 ad n8) ol n7 ++ wT cC t9 tx ln po ki rp tg nu ++ [(o9, .inl (cJ, 1, .inr (.inl fo)))] ++ [(p9, .inl (cD, 1, .inr (.inr (.inr (.inl fd)))))] ++ wM cI m9 sa tx th n7 ln po2 lt fi sc nu2 ad2 rv ++ wP cI ad sv n8) s s.heap H locs) (hLV : LV st sv ol n7 n8 tx ln po sa po2 B) {ls : Array Slot} (hl : lv_has ls 10 [(0, .ref b), (1, .ref x9), (2, .ref (m9 0)), (3, .ref o9), (4, .ref p9), (5, .int (nI (5 * k)))]) {r : Nat} (hr : r < 4) (h1 : xs (5 * k + 1) = nI r) (kk : ∀ (H : Heap) (locs : List Loc) (ls : Array Slot), LW D A s cI cR cC cJ cD x9 q h9 t9 o9 p9 m9 (B + 41) H locs → lv_has ls 10 [(0, .ref b), (1, .ref x9), (2, .ref (m9 0)), (3, .ref o9), (4, .ref p9), (5, .int (nI (5 * k)))] → W p l e room_1 s m args below meth c H locs (cells + 7) (slots + 5790) Q (F0 m 1875 ls [])) : W p l e room_1 s m args below meth c H locs cells slots Q (F0 m 1616 ls []) := by
  obtain ⟨S, hz, hxe, hzq, hl9, hA, hX, hbl, hbA, hL⟩ := id F
  obtain ⟨hh, hRl, hHs, htx, hln, hpo, hpo2⟩ := id hLV
  have h6 : n7 ≤ 6 := Nat.le_trans hh.2.1 hh.2.2.1
  obtain ⟨hx, hb, hml, hown, hts⟩ := id S
  refine lv_aload_n hx hb dL_law_1616 rfl (lv_at hl 1 rfl) ?_
  refine lv_aload_n hx hb dL_law_1617 rfl (lv_at hl 0 rfl) ?_
  refine lv_iload hx hb dL_law_1618 (lv_at hl 5 rfl) ?_
  refine lv_iconst (v := nI 1) hx hb dL_law_1620 kc_iconst_1 ?_
  refine r_addN hx hb dL_law_1621 ?_
  refine r_sld hx hb hX hbl hbA hL hw (i := (5 * k) + 1) (by omega) (v := nI r) h1 dL_law_1622 ?_
  refine lv_aload_n hx hb dL_law_1623 rfl (lv_at hl 3 rfl) ?_
  refine cpz_S (w1 := fun (u9 : Unit) => ([(x9, .inr (3, [.ref (q 0), .ref (h9 0), .ref (t9 0)]))] : va_W) ++ wS cI q st ++ wR cR h9 (fr7 ad n8) ol n7 ++ wT cC t9 tx ln po ki rp tg nu ++ ([(o9, .inl (cJ, 1, .inr (.inl (vp_updL fo 0 ((nI (cfS st r 6))).toInt64))))] : va_W)) (pl := fun (u9 : Unit) => wP cI ad sv n8) (As := [.ref x9, .int (nI r), .ref o9]) (rest := []) (wc := ([(x9, .inr (3, [.ref (q 0), .ref (h9 0), .ref (t9 0)]))] : va_W) ++ wS cI q st ++ wR cR h9 (fr7 ad n8) ol n7 ++ wT cC t9 tx ln po ki rp tg nu ++ ([(o9, .inl (cJ, 1, .inr (.inl fo)))] : va_W)) (wr := ([(p9, .inl (cD, 1, .inr (.inr (.inr (.inl fd)))))] : va_W) ++ wM cI m9 sa tx th n7 ln po2 lt fi sc nu2 ad2 rv) S hz hxe hzq (c_L_conflicts_v l D (hl9 := hl9) (sz := H.size) (cI := cI) (cR := cR) (cC := cC) (x9 := x9) (q := q) (st := st) (h9 := h9) (ad := ad) (sv := sv) (ol := ol) (n7 := n7) (n8 := n8) (t9 := t9) (tx := tx) (ln := ln) (po := po) (ki := ki) (rp := rp) (tg := tg) (nu := nu) (cJ := cJ) (o9 := o9) (fo := fo) (r := r) (hh := hh) (hr := by omega)) (vx_cwSW 3 hts gL_law_L_conflicts rfl rfl rfl (by decide +kernel) ⟨Nat.le_of_ble_eq_true rfl, Nat.le_of_ble_eq_true rfl⟩) hw hA [0, 1, 2, 3, 4, 5, 6, 7, 8, 9, 10, 11, 12] [13, 14, 15, 16] [0, 1, 2, 3] rfl rfl (k0 := 17) rfl (by decide) rfl rfl hl.1 (Nat.le_of_ble_eq_true rfl) ⟨(show cells + 0 ≤ room_1.cells by omega), (show slots + 0 ≤ room_1.slots by omega)⟩ rfl dL_law_1624 (fun r_1624 u_1624 H locs e_1624 hw => ?_)
  have hw : Wd D A [(cI, .int), (cR, .object RX1), (cC, .char), (cJ, .long), (cD, .double)] (([(x9, .inr (3, [.ref (q 0), .ref (h9 0), .ref (t9 0)]))] : va_W) ++ wS cI q st ++ wR cR h9 (fr7 ad n8) ol n7 ++ wT cC t9 tx ln po ki rp tg nu ++ ([(o9, .inl (cJ, 1, .inr (.inl (vp_updL fo 0 ((nI (cfS st r 6))).toInt64))))] : va_W) ++ ([(p9, .inl (cD, 1, .inr (.inr (.inr (.inl fd)))))] : va_W) ++ wM cI m9 sa tx th n7 ln po2 lt fi sc nu2 ad2 rv ++ wP cI ad sv n8) s s.heap H locs := hw
  have e_1624 : r_1624 = nI 0 := e_1624
  subst e_1624
  refine lv_istore (lv' := [(6, .int (nI 0)), (0, .ref b), (1, .ref x9), (2, .ref (m9 0)), (3, .ref o9), (4, .ref p9), (5, .int (nI (5 * k)))]) hx hb dL_law_1627 hl (by decide) rfl (fun ls hl => ?_)
  refine lv_aload_n hx hb dL_law_1629 rfl (lv_at hl 3 rfl) ?_
  refine lv_aload_n hx hb dL_law_1630 rfl (lv_at hl 1 rfl) ?_
  refine lv_iload hx hb dL_law_1631 (lv_at hl 6 rfl) ?_
  refine lv_iconst (v := nI 1) hx hb dL_law_1633 kc_iconst_1 ?_
  refine r_addN hx hb dL_law_1634 ?_
  refine r_sld hx hb hX hbl hbA hL hw (i := (5 * k) + 1) (by omega) (v := nI r) h1 dL_law_1635 ?_
  refine cp_Vi (As := [.int (nI r)]) (rest := []) (wc := wM cI m9 sa tx th n7 ln po2 lt fi sc nu2 ad2 rv) (wr := ([(x9, .inr (3, [.ref (q 0), .ref (h9 0), .ref (t9 0)]))] : va_W) ++ wS cI q st ++ wR cR h9 (fr7 ad n8) ol n7 ++ wT cC t9 tx ln po ki rp tg nu ++ ([(o9, .inl (cJ, 1, .inr (.inl (vp_updL fo 0 ((nI (cfS st r 6))).toInt64))))] : va_W) ++ ([(p9, .inl (cD, 1, .inr (.inr (.inr (.inl fd)))))] : va_W)) S (c_X4_conflicts_v l D (sz := H.size) (cI := cI) (m9 := m9) (sa := sa) (tx := tx) (th := th) (sv := n7) (ln := ln) (po := po2) (lt := lt) (fi := fi) (sc := sc) (nu := nu2) (ad := ad2) (rv := rv) (r := r) (hr := by omega)) (cwV 1 hts gL_law_X4_conflicts rfl rfl rfl (by decide +kernel) ⟨Nat.le_of_ble_eq_true rfl, Nat.le_of_ble_eq_true rfl⟩) hw hA [14, 15, 16] [0, 1, 2, 3, 4, 5, 6, 7, 8, 9, 10, 11, 12, 13] [0] rfl rfl (k0 := 17) rfl (by decide) rfl 0 rfl rfl rfl hl.1 (Nat.le_of_ble_eq_true rfl) ⟨(show cells + 0 ≤ room_1.cells by omega), (show slots + 0 ≤ room_1.slots by omega)⟩ rfl dL_law_1636 (fun r_1636 u_1636 H locs e_1636 hw => ?_)
  have hw : Wd D A [(cI, .int), (cR, .object RX1), (cC, .char), (cJ, .long), (cD, .double)] (wM cI m9 sa tx (nI 0) n7 ln po2 lt fi sc nu2 ad2 rv ++ ([(x9, .inr (3, [.ref (q 0), .ref (h9 0), .ref (t9 0)]))] : va_W) ++ wS cI q st ++ wR cR h9 (fr7 ad n8) ol n7 ++ wT cC t9 tx ln po ki rp tg nu ++ ([(o9, .inl (cJ, 1, .inr (.inl (vp_updL fo 0 ((nI (cfS st r 6))).toInt64))))] : va_W) ++ ([(p9, .inl (cD, 1, .inr (.inr (.inr (.inl fd)))))] : va_W) ++ wP cI ad sv n8) s s.heap H locs := hw
  have e_1636 : r_1636 = nI (cfM sa r 6) := e_1636
  subst e_1636
  refine lv_istore (lv' := [(7, .int (nI (cfM sa r 6))), (6, .int (nI 0)), (0, .ref b), (1, .ref x9), (2, .ref (m9 0)), (3, .ref o9), (4, .ref p9), (5, .int (nI (5 * k)))]) hx hb dL_law_1639 hl (by decide) rfl (fun ls hl => ?_)
  refine lv_aload_n hx hb dL_law_1641 rfl (lv_at hl 4 rfl) ?_
  refine cq_V (As := []) (rest := []) S (c_X4_thrown l D (cI := cI) (m9 := m9) (sa := sa) (tx := tx) (th := nI 0) (sv := n7) (ln := ln) (po := po2) (lt := lt) (fi := fi) (sc := sc) (nu := nu2) (ad := ad2) (rv := rv)) (cwV 0 hts gL_law_X4_thrown rfl rfl rfl (by decide +kernel) ⟨Nat.le_of_ble_eq_true rfl, Nat.le_of_ble_eq_true rfl⟩) (hw.q.sub [0, 1, 2] [0] rfl rfl) 0 rfl rfl rfl hl.1 (Nat.le_of_ble_eq_true rfl) ⟨(show cells ≤ room_1.cells by omega), (show slots ≤ room_1.slots by omega)⟩ rfl dL_law_1642 (fun r_1642 e_1642 => ?_)
  have e_1642 : r_1642 = (nI 0) := e_1642
  subst e_1642
  refine lv_iload hx hb dL_law_1645 (lv_at hl 1 rfl) ?_
  refine r_icmp_eqN (tgt := 1652) hx hb (by decide) (by decide) dL_law_1647 (by decide) (fun _ => ?_) (fun h => absurd h (by decide))
  refine lv_iload hx hb dL_law_1652 (lv_at hl 1 rfl) ?_
  refine lv_if_ne (tgt := 1669) hx hb dL_law_1654 (by decide) (fun h => absurd h (by decide)) (fun _ => ?_)
  refine lv_aload_n hx hb dL_law_1657 rfl (lv_at hl 5 rfl) ?_
  refine lv_iconst (v := nI 0) hx hb dL_law_1658 kc_iconst_0 ?_
  refine r_out hx hb hw 15 3 rfl rfl dL_law_1659 ?_
  refine lv_iload hx hb dL_law_1660 (lv_at hl 0 rfl) ?_
  refine lv_i2l hx hb dL_law_1662 rfl ?_
  refine r_lcmpE hx hb (show ((nI (cfS st r 6))).toInt64 = (nI (cfM sa r 6)).toInt64 from congrArg Int32.toInt64 (congrArg nI (cf_eq (by omega) hRl hr 6 (Nat.le_refl _)))) dL_law_1663 ?_
  refine lv_if_eq (tgt := 1669) hx hb dL_law_1664 (by decide) (fun _ => ?_) (fun h => absurd h (by decide))
  refine lv_goto (tgt := 1875) hx hb dL_law_1669 (by decide) ?_
  have hw : Wd D A [(cI, .int), (cR, .object RX1), (cC, .char), (cJ, .long), (cD, .double)] (([(x9, .inr (3, [.ref (q 0), .ref (h9 0), .ref (t9 0)]))] : va_W) ++ wS cI q st ++ wR cR h9 (fr7 ad n8) ol n7 ++ wT cC t9 tx ln po ki rp tg nu ++ ([(o9, .inl (cJ, 1, .inr (.inl (vp_updL fo 0 ((nI (cfS st r 6))).toInt64))))] : va_W) ++ ([(p9, .inl (cD, 1, .inr (.inr (.inr (.inl fd)))))] : va_W) ++ wM cI m9 sa tx (nI 0) n7 ln po2 lt fi sc nu2 ad2 rv ++ wP cI ad sv n8) s s.heap H locs := hw.ord [3, 4, 5, 6, 7, 8, 9, 10, 11, 12, 13, 14, 15, 16, 0, 1, 2] (k0 := 17) rfl rfl (by decide)
  have hl : lv_has ls 10 [(0, .ref b), (1, .ref x9), (2, .ref (m9 0)), (3, .ref o9), (4, .ref p9), (5, .int (nI (5 * k)))] := lv_sub hl [2, 3, 4, 5, 6, 7] rfl
  refine W.widen (k := cells + 7) (n := slots + 5790) (by omega) (by omega) ?_
  exact kk H locs ls ⟨st, ad, sv, ol, n7, n8, tx, ln, po, ki, rp, tg, nu, vp_updL fo 0 ((nI (cfS st r 6))).toInt64, fd, sa, nI 0, po2, lt, fi, sc, nu2, ad2, rv, hw, LV_m hLV (by omega)⟩ hl
set_option maxHeartbeats 4000000 in
set_option maxRecDepth 100000 in
theorem law_agreement {p : Program} {l : Launch} {e : Env} {s : State} {m : MethodId} {args : Array Value} {below : List Frame} {meth : Method} {c : Code} {Q : State → Prop} {D : va_G} {A : Nat → Prop} {b L : Nat} {xs : Nat → Int32} {cells slots : Nat} {cI cR cC cJ cD : ClassId} {x9 : Nat} {q h9 t9 : Nat → Nat} {o9 p9 : Nat} {m9 : Nat → Nat} {B k : Nat} (F : LF p l s m c args A b L xs) (hk5 : 5 * k + 5 ≤ L) (hB : B + 100 < 2 ^ 31) (hR : cells + 7 ≤ room_1.cells ∧ slots + 5790 ≤ room_1.slots) {st : St} {ad : Nat → Nat → Nat} {sv : Nat → St} {ol n7 n8 : Nat} {tx : Nat → Nat} {ln po : Nat} {ki rp tg nu : Int32} {fo : Nat → Int64} {fd : Nat → UInt64} {sa : Nat → Int32} {th : Int32} {po2 : Nat} {lt fi sc nu2 : Int32} {ad2 rv : Nat} {H : Heap} {locs : List Loc} (hw : Wd D A [(cI, .int), (cR, .object RX1), (cC, .char), (cJ, .long), (cD, .double)] ([(x9, .inr (3, [.ref (q 0), .ref (h9 0), .ref (t9 0)]))] ++ wS cI q st ++ wR cR h9 (fr7 ad n8) ol n7 ++ wT cC t9 tx ln po ki rp tg nu ++ [(o9, .inl (cJ, 1, .inr (.inl fo)))] ++ [(p9, .inl (cD, 1, .inr (.inr (.inr (.inl fd)))))] ++ wM cI m9 sa tx th n7 ln po2 lt fi sc nu2 ad2 rv ++ wP cI ad sv n8) s s.heap H locs) (hLV : LV st sv ol n7 n8 tx ln po sa po2 B) {ls : Array Slot} (hl : lv_has ls 10 [(0, .ref b), (1, .ref x9), (2, .ref (m9 0)), (3, .ref o9), (4, .ref p9), (5, .int (nI (5 * k)))])    (kk : ∀ (H : Heap) (locs : List Loc) (ls : Array Slot), LW D A s cI cR cC cJ cD x9 q h9 t9 o9 p9 m9 (B + 41) H locs → lv_has ls 10 [(0, .ref b), (1, .ref x9), (2, .ref (m9 0)), (3, .ref o9), (4, .ref p9), (5, .int (nI (5 * k)))] → W p l e room_1 s m args below meth c H locs (cells + 7) (slots + 5790) Q (F0 m 1875 ls [])) : W p l e room_1 s m args below meth c H locs cells slots Q (F0 m 1672 ls []) := by
  obtain ⟨S, hz, hxe, hzq, hl9, hA, hX, hbl, hbA, hL⟩ := id F
  obtain ⟨hh, hRl, hHs, htx, hln, hpo, hpo2⟩ := id hLV
  have h6 : n7 ≤ 6 := Nat.le_trans hh.2.1 hh.2.2.1
  obtain ⟨hx, hb, hml, hown, hts⟩ := id S
  refine lv_aload_n hx hb dL_law_1672 rfl (lv_at hl 1 rfl) ?_
  refine cpx_d (w1 := fun (u9 : Unit) => ([(x9, .inr (3, [.ref (q 0), .ref (h9 0), .ref (t9 0)]))] : va_W) ++ wS cI q st ++ wR cR h9 (fr7 ad n8) ol n7 ++ wT cC t9 tx ln po ki rp tg nu) (pl := fun (u9 : Unit) => wP cI ad sv n8) (As := []) (rest := []) (wc := ([(x9, .inr (3, [.ref (q 0), .ref (h9 0), .ref (t9 0)]))] : va_W) ++ wS cI q st ++ wR cR h9 (fr7 ad n8) ol n7 ++ wT cC t9 tx ln po ki rp tg nu) (wr := ([(o9, .inl (cJ, 1, .inr (.inl fo)))] : va_W) ++ ([(p9, .inl (cD, 1, .inr (.inr (.inr (.inl fd)))))] : va_W) ++ wM cI m9 sa tx th n7 ln po2 lt fi sc nu2 ad2 rv) S hz (c_X3_agreement l D (sz := H.size) (cI := cI) (cR := cR) (cC := cC) (x9 := x9) (q := q) (st := st) (h9 := h9) (ad := ad) (sv := sv) (ol := ol) (n7 := n7) (n8 := n8) (t9 := t9) (tx := tx) (ln := ln) (po := po) (ki := ki) (rp := rp) (tg := tg) (nu := nu) (hh := hh)) (cwV 0 hts gL_law_X3_agreement rfl rfl rfl (by decide +kernel) ⟨Nat.le_of_ble_eq_true rfl, Nat.le_of_ble_eq_true rfl⟩) hw hA [0, 1, 2, 3, 4, 5, 6, 7, 8, 9, 10, 11] [12, 13, 14, 15, 16] [0, 1, 2] rfl rfl (k0 := 17) rfl (by decide) rfl 0 rfl rfl rfl hl.1 (Nat.le_of_ble_eq_true rfl) ⟨(show cells + 0 ≤ room_1.cells by omega), (show slots + 0 ≤ room_1.slots by omega)⟩ rfl dL_law_1673 (fun r_1673 u_1673 H locs e_1673 hw => ?_)
  obtain ⟨⟩ := u_1673
  have hw : Wd D A [(cI, .int), (cR, .object RX1), (cC, .char), (cJ, .long), (cD, .double)] (([(x9, .inr (3, [.ref (q 0), .ref (h9 0), .ref (t9 0)]))] : va_W) ++ wS cI q st ++ wR cR h9 (fr7 ad n8) ol n7 ++ wT cC t9 tx ln po ki rp tg nu ++ ([(o9, .inl (cJ, 1, .inr (.inl fo)))] : va_W) ++ ([(p9, .inl (cD, 1, .inr (.inr (.inr (.inl fd)))))] : va_W) ++ wM cI m9 sa tx th n7 ln po2 lt fi sc nu2 ad2 rv ++ wP cI ad sv n8) s s.heap H locs := hw
  have e_1673 : r_1673 = agF (agW st 6) := e_1673
  subst e_1673
  refine lv_dstore (lv' := [(6, .double (agF (agW st 6))), (0, .ref b), (1, .ref x9), (2, .ref (m9 0)), (3, .ref o9), (4, .ref p9), (5, .int (nI (5 * k)))]) hx hb dL_law_1676 hl (by decide) rfl (fun ls hl => ?_)
  refine lv_aload_n hx hb dL_law_1678 rfl (lv_at hl 3 rfl) ?_
  refine cp_Vd (As := []) (rest := []) (wc := wM cI m9 sa tx th n7 ln po2 lt fi sc nu2 ad2 rv) (wr := ([(x9, .inr (3, [.ref (q 0), .ref (h9 0), .ref (t9 0)]))] : va_W) ++ wS cI q st ++ wR cR h9 (fr7 ad n8) ol n7 ++ wT cC t9 tx ln po ki rp tg nu ++ ([(o9, .inl (cJ, 1, .inr (.inl fo)))] : va_W) ++ ([(p9, .inl (cD, 1, .inr (.inr (.inr (.inl fd)))))] : va_W)) S (c_X4_agreement l D (sz := H.size) (cI := cI) (m9 := m9) (sa := sa) (tx := tx) (th := th) (sv := n7) (ln := ln) (po := po2) (lt := lt) (fi := fi) (sc := sc) (nu := nu2) (ad := ad2) (rv := rv)) (cwV 0 hts gL_law_X4_agreement rfl rfl rfl (by decide +kernel) ⟨Nat.le_of_ble_eq_true rfl, Nat.le_of_ble_eq_true rfl⟩) hw hA [14, 15, 16] [0, 1, 2, 3, 4, 5, 6, 7, 8, 9, 10, 11, 12, 13] [0] rfl rfl (k0 := 17) rfl (by decide) rfl 0 rfl rfl rfl hl.1 (Nat.le_of_ble_eq_true rfl) ⟨(show cells + 0 ≤ room_1.cells by omega), (show slots + 0 ≤ room_1.slots by omega)⟩ rfl dL_law_1679 (fun r_1679 u_1679 H locs e_1679 hw => ?_)
  obtain ⟨⟩ := u_1679
  have hw : Wd D A [(cI, .int), (cR, .object RX1), (cC, .char), (cJ, .long), (cD, .double)] (wM cI m9 sa tx (nI 0) n7 ln po2 lt fi sc nu2 ad2 rv ++ ([(x9, .inr (3, [.ref (q 0), .ref (h9 0), .ref (t9 0)]))] : va_W) ++ wS cI q st ++ wR cR h9 (fr7 ad n8) ol n7 ++ wT cC t9 tx ln po ki rp tg nu ++ ([(o9, .inl (cJ, 1, .inr (.inl fo)))] : va_W) ++ ([(p9, .inl (cD, 1, .inr (.inr (.inr (.inl fd)))))] : va_W) ++ wP cI ad sv n8) s s.heap H locs := hw
  have e_1679 : r_1679 = agF (agM sa 30) := e_1679
  subst e_1679
  refine lv_dstore (lv' := [(8, .double (agF (agM sa 30))), (6, .double (agF (agW st 6))), (0, .ref b), (1, .ref x9), (2, .ref (m9 0)), (3, .ref o9), (4, .ref p9), (5, .int (nI (5 * k)))]) hx hb dL_law_1682 hl (by decide) rfl (fun ls hl => ?_)
  refine lv_dload hx hb dL_law_1684 (lv_at hl 1 rfl) ?_
  refine lv_dload hx hb dL_law_1686 (lv_at hl 0 rfl) ?_
  refine r_dcmpE hx hb (show agF (agW st 6) = agF (agM sa 30) from congrArg agF (agW_eq hRl 6 (Nat.le_refl _))) (fl_agr _) dL_law_1688 ?_
  refine lv_if_eq (tgt := 1710) hx hb dL_law_1689 (by decide) (fun _ => ?_) (fun h => absurd h (by decide))
  refine lv_goto (tgt := 1875) hx hb dL_law_1710 (by decide) ?_
  have hw : Wd D A [(cI, .int), (cR, .object RX1), (cC, .char), (cJ, .long), (cD, .double)] (([(x9, .inr (3, [.ref (q 0), .ref (h9 0), .ref (t9 0)]))] : va_W) ++ wS cI q st ++ wR cR h9 (fr7 ad n8) ol n7 ++ wT cC t9 tx ln po ki rp tg nu ++ ([(o9, .inl (cJ, 1, .inr (.inl fo)))] : va_W) ++ ([(p9, .inl (cD, 1, .inr (.inr (.inr (.inl fd)))))] : va_W) ++ wM cI m9 sa tx (nI 0) n7 ln po2 lt fi sc nu2 ad2 rv ++ wP cI ad sv n8) s s.heap H locs := hw.ord [3, 4, 5, 6, 7, 8, 9, 10, 11, 12, 13, 14, 15, 16, 0, 1, 2] (k0 := 17) rfl rfl (by decide)
  have hl : lv_has ls 10 [(0, .ref b), (1, .ref x9), (2, .ref (m9 0)), (3, .ref o9), (4, .ref p9), (5, .int (nI (5 * k)))] := lv_sub hl [2, 3, 4, 5, 6, 7] rfl
  refine W.widen (k := cells + 7) (n := slots + 5790) (by omega) (by omega) ?_
  exact kk H locs ls ⟨st, ad, sv, ol, n7, n8, tx, ln, po, ki, rp, tg, nu, fo, fd, sa, nI 0, po2, lt, fi, sc, nu2, ad2, rv, hw, LV_m hLV (by omega)⟩ hl
set_option maxHeartbeats 4000000 in
set_option maxRecDepth 100000 in
theorem law_latestMerge_v {p : Program} {l : Launch} {e : Env} {s : State} {m : MethodId} {args : Array Value} {below : List Frame} {meth : Method} {c : Code} {Q : State → Prop} {D : va_G} {A : Nat → Prop} {b L : Nat} {xs : Nat → Int32} {cells slots : Nat} {cI cR cC cJ cD : ClassId} {x9 : Nat} {q h9 t9 : Nat → Nat} {o9 p9 : Nat} {m9 : Nat → Nat} {B k : Nat} (F : LF p l s m c args A b L xs) (hk5 : 5 * k + 5 ≤ L) (hB : B + 100 < 2 ^ 31) (hR : cells + 7 ≤ room_1.cells ∧ slots + 5790 ≤ room_1.slots) {st : St} {ad : Nat → Nat → Nat} {sv : Nat → St} {ol n7 n8 : Nat} {tx : Nat → Nat} {ln po : Nat} {ki rp tg nu : Int32} {fo : Nat → Int64} {fd : Nat → UInt64} {sa : Nat → Int32} {th : Int32} {po2 : Nat} {lt fi sc nu2 : Int32} {ad2 rv : Nat} {H : Heap} {locs : List Loc} (hw : Wd D A [(cI, .int), (cR, .object RX1), (cC, .char), (cJ, .long), (cD, .double)] ([(x9, .inr (3, [.ref (q 0), .ref (h9 0), .ref (t9 0)]))] ++ wS cI q st ++ wR cR h9 (fr7 ad n8) ol n7 ++ wT cC t9 tx ln po ki rp tg nu ++ [(o9, .inl (cJ, 1, .inr (.inl fo)))] ++ [(p9, .inl (cD, 1, .inr (.inr (.inr (.inl fd)))))] ++ wM cI m9 sa tx th n7 ln po2 lt fi sc nu2 ad2 rv ++ wP cI ad sv n8) s s.heap H locs) (hLV : LV st sv ol n7 n8 tx ln po sa po2 B) {ls : Array Slot} (hl : lv_has ls 10 [(0, .ref b), (1, .ref x9), (2, .ref (m9 0)), (3, .ref o9), (4, .ref p9), (5, .int (nI (5 * k)))]) {c9 : Nat} (hc : c9 < 4) (h1 : xs (5 * k + 1) = nI c9) (kk : ∀ (H : Heap) (locs : List Loc) (ls : Array Slot), LW D A s cI cR cC cJ cD x9 q h9 t9 o9 p9 m9 (B + 41) H locs → lv_has ls 10 [(0, .ref b), (1, .ref x9), (2, .ref (m9 0)), (3, .ref o9), (4, .ref p9), (5, .int (nI (5 * k)))] → W p l e room_1 s m args below meth c H locs (cells + 7) (slots + 5790) Q (F0 m 1875 ls [])) : W p l e room_1 s m args below meth c H locs cells slots Q (F0 m 1713 ls []) := by
  obtain ⟨S, hz, hxe, hzq, hl9, hA, hX, hbl, hbA, hL⟩ := id F
  obtain ⟨hh, hRl, hHs, htx, hln, hpo, hpo2⟩ := id hLV
  have h6 : n7 ≤ 6 := Nat.le_trans hh.2.1 hh.2.2.1
  obtain ⟨hx, hb, hml, hown, hts⟩ := id S
  refine lv_aload_n hx hb dL_law_1713 rfl (lv_at hl 1 rfl) ?_
  refine lv_aload_n hx hb dL_law_1714 rfl (lv_at hl 0 rfl) ?_
  refine lv_iload hx hb dL_law_1715 (lv_at hl 5 rfl) ?_
  refine lv_iconst (v := nI 1) hx hb dL_law_1717 kc_iconst_1 ?_
  refine r_addN hx hb dL_law_1718 ?_
  refine r_sld hx hb hX hbl hbA hL hw (i := (5 * k) + 1) (by omega) (v := nI c9) h1 dL_law_1719 ?_
  refine lv_aload_n hx hb dL_law_1720 rfl (lv_at hl 3 rfl) ?_
  refine cpz_S (w1 := fun (u9 : Unit) => ([(x9, .inr (3, [.ref (q 0), .ref (h9 0), .ref (t9 0)]))] : va_W) ++ wS cI q st ++ wR cR h9 (fr7 ad n8) ol n7 ++ wT cC t9 tx ln po ki rp tg nu ++ ([(o9, .inl (cJ, 1, .inr (.inl (vp_updL fo 0 ((st.2.2.2.2.2 c9)).toInt64))))] : va_W)) (pl := fun (u9 : Unit) => wP cI ad sv n8) (As := [.ref x9, .int (nI c9), .ref o9]) (rest := []) (wc := ([(x9, .inr (3, [.ref (q 0), .ref (h9 0), .ref (t9 0)]))] : va_W) ++ wS cI q st ++ wR cR h9 (fr7 ad n8) ol n7 ++ wT cC t9 tx ln po ki rp tg nu ++ ([(o9, .inl (cJ, 1, .inr (.inl fo)))] : va_W)) (wr := ([(p9, .inl (cD, 1, .inr (.inr (.inr (.inl fd)))))] : va_W) ++ wM cI m9 sa tx th n7 ln po2 lt fi sc nu2 ad2 rv) S hz hxe hzq (c_L_latestMerge_v l D (hl9 := hl9) (sz := H.size) (cI := cI) (cR := cR) (cC := cC) (x9 := x9) (q := q) (st := st) (h9 := h9) (ad := ad) (sv := sv) (ol := ol) (n7 := n7) (n8 := n8) (t9 := t9) (tx := tx) (ln := ln) (po := po) (ki := ki) (rp := rp) (tg := tg) (nu := nu) (cJ := cJ) (o9 := o9) (fo := fo) (c9 := c9) (hh := hh) (hc := by omega)) (vx_cwSW 3 hts gL_law_L_latestMerge rfl rfl rfl (by decide +kernel) ⟨Nat.le_of_ble_eq_true rfl, Nat.le_of_ble_eq_true rfl⟩) hw hA [0, 1, 2, 3, 4, 5, 6, 7, 8, 9, 10, 11, 12] [13, 14, 15, 16] [0, 1, 2, 3] rfl rfl (k0 := 17) rfl (by decide) rfl rfl hl.1 (Nat.le_of_ble_eq_true rfl) ⟨(show cells + 0 ≤ room_1.cells by omega), (show slots + 0 ≤ room_1.slots by omega)⟩ rfl dL_law_1721 (fun r_1721 u_1721 H locs e_1721 hw => ?_)
  have hw : Wd D A [(cI, .int), (cR, .object RX1), (cC, .char), (cJ, .long), (cD, .double)] (([(x9, .inr (3, [.ref (q 0), .ref (h9 0), .ref (t9 0)]))] : va_W) ++ wS cI q st ++ wR cR h9 (fr7 ad n8) ol n7 ++ wT cC t9 tx ln po ki rp tg nu ++ ([(o9, .inl (cJ, 1, .inr (.inl (vp_updL fo 0 ((st.2.2.2.2.2 c9)).toInt64))))] : va_W) ++ ([(p9, .inl (cD, 1, .inr (.inr (.inr (.inl fd)))))] : va_W) ++ wM cI m9 sa tx th n7 ln po2 lt fi sc nu2 ad2 rv ++ wP cI ad sv n8) s s.heap H locs := hw
  have e_1721 : r_1721 = nI 0 := e_1721
  subst e_1721
  refine lv_istore (lv' := [(6, .int (nI 0)), (0, .ref b), (1, .ref x9), (2, .ref (m9 0)), (3, .ref o9), (4, .ref p9), (5, .int (nI (5 * k)))]) hx hb dL_law_1724 hl (by decide) rfl (fun ls hl => ?_)
  refine lv_aload_n hx hb dL_law_1726 rfl (lv_at hl 3 rfl) ?_
  refine lv_aload_n hx hb dL_law_1727 rfl (lv_at hl 1 rfl) ?_
  refine lv_iload hx hb dL_law_1728 (lv_at hl 6 rfl) ?_
  refine lv_iconst (v := nI 1) hx hb dL_law_1730 kc_iconst_1 ?_
  refine r_addN hx hb dL_law_1731 ?_
  refine r_sld hx hb hX hbl hbA hL hw (i := (5 * k) + 1) (by omega) (v := nI c9) h1 dL_law_1732 ?_
  refine cp_Vi (As := [.int (nI c9)]) (rest := []) (wc := wM cI m9 sa tx th n7 ln po2 lt fi sc nu2 ad2 rv) (wr := ([(x9, .inr (3, [.ref (q 0), .ref (h9 0), .ref (t9 0)]))] : va_W) ++ wS cI q st ++ wR cR h9 (fr7 ad n8) ol n7 ++ wT cC t9 tx ln po ki rp tg nu ++ ([(o9, .inl (cJ, 1, .inr (.inl (vp_updL fo 0 ((st.2.2.2.2.2 c9)).toInt64))))] : va_W) ++ ([(p9, .inl (cD, 1, .inr (.inr (.inr (.inl fd)))))] : va_W)) S (c_X4_latestMerge_v l D (sz := H.size) (cI := cI) (m9 := m9) (sa := sa) (tx := tx) (th := th) (sv := n7) (ln := ln) (po := po2) (lt := lt) (fi := fi) (sc := sc) (nu := nu2) (ad := ad2) (rv := rv) (c9 := c9) (hc := by omega)) (cwV 1 hts gL_law_X4_latestMerge rfl rfl rfl (by decide +kernel) ⟨Nat.le_of_ble_eq_true rfl, Nat.le_of_ble_eq_true rfl⟩) hw hA [14, 15, 16] [0, 1, 2, 3, 4, 5, 6, 7, 8, 9, 10, 11, 12, 13] [0] rfl rfl (k0 := 17) rfl (by decide) rfl 0 rfl rfl rfl hl.1 (Nat.le_of_ble_eq_true rfl) ⟨(show cells + 0 ≤ room_1.cells by omega), (show slots + 0 ≤ room_1.slots by omega)⟩ rfl dL_law_1733 (fun r_1733 u_1733 H locs e_1733 hw => ?_)
  have hw : Wd D A [(cI, .int), (cR, .object RX1), (cC, .char), (cJ, .long), (cD, .double)] (wM cI m9 sa tx (nI 0) n7 ln po2 lt fi sc nu2 ad2 rv ++ ([(x9, .inr (3, [.ref (q 0), .ref (h9 0), .ref (t9 0)]))] : va_W) ++ wS cI q st ++ wR cR h9 (fr7 ad n8) ol n7 ++ wT cC t9 tx ln po ki rp tg nu ++ ([(o9, .inl (cJ, 1, .inr (.inl (vp_updL fo 0 ((st.2.2.2.2.2 c9)).toInt64))))] : va_W) ++ ([(p9, .inl (cD, 1, .inr (.inr (.inr (.inl fd)))))] : va_W) ++ wP cI ad sv n8) s s.heap H locs := hw
  have e_1733 : r_1733 = sa (20 + c9) := e_1733
  subst e_1733
  refine lv_istore (lv' := [(7, .int (sa (20 + c9))), (6, .int (nI 0)), (0, .ref b), (1, .ref x9), (2, .ref (m9 0)), (3, .ref o9), (4, .ref p9), (5, .int (nI (5 * k)))]) hx hb dL_law_1736 hl (by decide) rfl (fun ls hl => ?_)
  refine lv_aload_n hx hb dL_law_1738 rfl (lv_at hl 4 rfl) ?_
  refine cq_V (As := []) (rest := []) S (c_X4_thrown l D (cI := cI) (m9 := m9) (sa := sa) (tx := tx) (th := nI 0) (sv := n7) (ln := ln) (po := po2) (lt := lt) (fi := fi) (sc := sc) (nu := nu2) (ad := ad2) (rv := rv)) (cwV 0 hts gL_law_X4_thrown rfl rfl rfl (by decide +kernel) ⟨Nat.le_of_ble_eq_true rfl, Nat.le_of_ble_eq_true rfl⟩) (hw.q.sub [0, 1, 2] [0] rfl rfl) 0 rfl rfl rfl hl.1 (Nat.le_of_ble_eq_true rfl) ⟨(show cells ≤ room_1.cells by omega), (show slots ≤ room_1.slots by omega)⟩ rfl dL_law_1739 (fun r_1739 e_1739 => ?_)
  have e_1739 : r_1739 = (nI 0) := e_1739
  subst e_1739
  refine lv_iload hx hb dL_law_1742 (lv_at hl 1 rfl) ?_
  refine r_icmp_eqN (tgt := 1749) hx hb (by decide) (by decide) dL_law_1744 (by decide) (fun _ => ?_) (fun h => absurd h (by decide))
  refine lv_iload hx hb dL_law_1749 (lv_at hl 1 rfl) ?_
  refine lv_if_ne (tgt := 1766) hx hb dL_law_1751 (by decide) (fun h => absurd h (by decide)) (fun _ => ?_)
  refine lv_aload_n hx hb dL_law_1754 rfl (lv_at hl 5 rfl) ?_
  refine lv_iconst (v := nI 0) hx hb dL_law_1755 kc_iconst_0 ?_
  refine r_out hx hb hw 15 3 rfl rfl dL_law_1756 ?_
  refine lv_iload hx hb dL_law_1757 (lv_at hl 0 rfl) ?_
  refine lv_i2l hx hb dL_law_1759 rfl ?_
  refine r_lcmpE hx hb (show ((st.2.2.2.2.2 c9)).toInt64 = (sa (20 + c9)).toInt64 from congrArg Int32.toInt64 (hRl.1.2.2 c9 hc)) dL_law_1760 ?_
  refine lv_if_eq (tgt := 1766) hx hb dL_law_1761 (by decide) (fun _ => ?_) (fun h => absurd h (by decide))
  refine lv_goto (tgt := 1875) hx hb dL_law_1766 (by decide) ?_
  have hw : Wd D A [(cI, .int), (cR, .object RX1), (cC, .char), (cJ, .long), (cD, .double)] (([(x9, .inr (3, [.ref (q 0), .ref (h9 0), .ref (t9 0)]))] : va_W) ++ wS cI q st ++ wR cR h9 (fr7 ad n8) ol n7 ++ wT cC t9 tx ln po ki rp tg nu ++ ([(o9, .inl (cJ, 1, .inr (.inl (vp_updL fo 0 ((st.2.2.2.2.2 c9)).toInt64))))] : va_W) ++ ([(p9, .inl (cD, 1, .inr (.inr (.inr (.inl fd)))))] : va_W) ++ wM cI m9 sa tx (nI 0) n7 ln po2 lt fi sc nu2 ad2 rv ++ wP cI ad sv n8) s s.heap H locs := hw.ord [3, 4, 5, 6, 7, 8, 9, 10, 11, 12, 13, 14, 15, 16, 0, 1, 2] (k0 := 17) rfl rfl (by decide)
  have hl : lv_has ls 10 [(0, .ref b), (1, .ref x9), (2, .ref (m9 0)), (3, .ref o9), (4, .ref p9), (5, .int (nI (5 * k)))] := lv_sub hl [2, 3, 4, 5, 6, 7] rfl
  refine W.widen (k := cells + 7) (n := slots + 5790) (by omega) (by omega) ?_
  exact kk H locs ls ⟨st, ad, sv, ol, n7, n8, tx, ln, po, ki, rp, tg, nu, vp_updL fo 0 ((st.2.2.2.2.2 c9)).toInt64, fd, sa, nI 0, po2, lt, fi, sc, nu2, ad2, rv, hw, LV_m hLV (by omega)⟩ hl
set_option maxHeartbeats 4000000 in
set_option maxRecDepth 100000 in
theorem law_ifMerged_v {p : Program} {l : Launch} {e : Env} {s : State} {m : MethodId} {args : Array Value} {below : List Frame} {meth : Method} {c : Code} {Q : State → Prop} {D : va_G} {A : Nat → Prop} {b L : Nat} {xs : Nat → Int32} {cells slots : Nat} {cI cR cC cJ cD : ClassId} {x9 : Nat} {q h9 t9 : Nat → Nat} {o9 p9 : Nat} {m9 : Nat → Nat} {B k : Nat} (F : LF p l s m c args A b L xs) (hk5 : 5 * k + 5 ≤ L) (hB : B + 100 < 2 ^ 31) (hR : cells + 7 ≤ room_1.cells ∧ slots + 5790 ≤ room_1.slots) {st : St} {ad : Nat → Nat → Nat} {sv : Nat → St} {ol n7 n8 : Nat} {tx : Nat → Nat} {ln po : Nat} {ki rp tg nu : Int32} {fo : Nat → Int64} {fd : Nat → UInt64} {sa : Nat → Int32} {th : Int32} {po2 : Nat} {lt fi sc nu2 : Int32} {ad2 rv : Nat} {H : Heap} {locs : List Loc} (hw : Wd D A [(cI, .int), (cR, .object RX1), (cC, .char), (cJ, .long), (cD, .double)] ([(x9, .inr (3, [.ref (q 0), .ref (h9 0), .ref (t9 0)]))] ++ wS cI q st ++ wR cR h9 (fr7 ad n8) ol n7 ++ wT cC t9 tx ln po ki rp tg nu ++ [(o9, .inl (cJ, 1, .inr (.inl fo)))] ++ [(p9, .inl (cD, 1, .inr (.inr (.inr (.inl fd)))))] ++ wM cI m9 sa tx th n7 ln po2 lt fi sc nu2 ad2 rv ++ wP cI ad sv n8) s s.heap H locs) (hLV : LV st sv ol n7 n8 tx ln po sa po2 B) {ls : Array Slot} (hl : lv_has ls 10 [(0, .ref b), (1, .ref x9), (2, .ref (m9 0)), (3, .ref o9), (4, .ref p9), (5, .int (nI (5 * k)))]) {f t g : Nat} (hf4 : f < 4) (ht4 : t < 4) (hne : f ≠ t) (hg2 : 2 ≤ g) (hg3 : g ≤ 3) (h1 : xs (5 * k + 1) = nI f) (h2 : xs (5 * k + 2) = nI t) (h3 : xs (5 * k + 3) = nI g) (kk : ∀ (H : Heap) (locs : List Loc) (ls : Array Slot), LW D A s cI cR cC cJ cD x9 q h9 t9 o9 p9 m9 (B + 41) H locs → lv_has ls 10 [(0, .ref b), (1, .ref x9), (2, .ref (m9 0)), (3, .ref o9), (4, .ref p9), (5, .int (nI (5 * k)))] → W p l e room_1 s m args below meth c H locs (cells + 7) (slots + 5790) Q (F0 m 1875 ls [])) : W p l e room_1 s m args below meth c H locs cells slots Q (F0 m 1769 ls []) := by
  obtain ⟨S, hz, hxe, hzq, hl9, hA, hX, hbl, hbA, hL⟩ := id F
  obtain ⟨hh, hRl, hHs, htx, hln, hpo, hpo2⟩ := id hLV
  have h6 : n7 ≤ 6 := Nat.le_trans hh.2.1 hh.2.2.1
  obtain ⟨hx, hb, hml, hown, hts⟩ := id S
  have hmc := mg_cnt false (by omega) hf4 ht4 hne hRl
  refine lv_aload_n hx hb dL_law_1769 rfl (lv_at hl 1 rfl) ?_
  refine lv_aload_n hx hb dL_law_1770 rfl (lv_at hl 0 rfl) ?_
  refine lv_iload hx hb dL_law_1771 (lv_at hl 5 rfl) ?_
  refine lv_iconst (v := nI 1) hx hb dL_law_1773 kc_iconst_1 ?_
  refine r_addN hx hb dL_law_1774 ?_
  refine r_sld hx hb hX hbl hbA hL hw (i := (5 * k) + 1) (by omega) (v := nI f) h1 dL_law_1775 ?_
  refine lv_aload_n hx hb dL_law_1776 rfl (lv_at hl 0 rfl) ?_
  refine lv_iload hx hb dL_law_1777 (lv_at hl 5 rfl) ?_
  refine lv_iconst (v := nI 2) hx hb dL_law_1779 kc_iconst_2 ?_
  refine r_addN hx hb dL_law_1780 ?_
  refine r_sld hx hb hX hbl hbA hL hw (i := (5 * k) + 2) (by omega) (v := nI t) h2 dL_law_1781 ?_
  refine lv_aload_n hx hb dL_law_1782 rfl (lv_at hl 0 rfl) ?_
  refine lv_iload hx hb dL_law_1783 (lv_at hl 5 rfl) ?_
  refine lv_iconst (v := nI 3) hx hb dL_law_1785 kc_iconst_3 ?_
  refine r_addN hx hb dL_law_1786 ?_
  refine r_sld hx hb hX hbl hbA hL hw (i := (5 * k) + 3) (by omega) (v := nI g) h3 dL_law_1787 ?_
  refine lv_aload_n hx hb dL_law_1788 rfl (lv_at hl 3 rfl) ?_
  refine cpz_S (w1 := fun (u9 : Unit) => ([(x9, .inr (3, [.ref (q 0), .ref (h9 0), .ref (t9 0)]))] : va_W) ++ wS cI q st ++ wR cR h9 (fr7 ad n8) ol n7 ++ wT cC t9 tx ln po ki rp tg nu ++ ([(o9, .inl (cJ, 1, .inr (.inl (vp_updL fo 0 ((nI (if g = 2 then cntP (fun o => addP st f t o) 480 else cntP (fun o => remP st f t o) 480))).toInt64))))] : va_W)) (pl := fun (u9 : Unit) => wP cI ad sv n8) (As := [.ref x9, .int (nI f), .int (nI t), .int (nI g), .ref o9]) (rest := []) (wc := ([(x9, .inr (3, [.ref (q 0), .ref (h9 0), .ref (t9 0)]))] : va_W) ++ wS cI q st ++ wR cR h9 (fr7 ad n8) ol n7 ++ wT cC t9 tx ln po ki rp tg nu ++ ([(o9, .inl (cJ, 1, .inr (.inl fo)))] : va_W)) (wr := ([(p9, .inl (cD, 1, .inr (.inr (.inr (.inl fd)))))] : va_W) ++ wM cI m9 sa tx th n7 ln po2 lt fi sc nu2 ad2 rv) S hz hxe hzq (c_L_ifMerged_v l D (hl9 := hl9) (sz := H.size) (cI := cI) (cR := cR) (cC := cC) (x9 := x9) (q := q) (st := st) (h9 := h9) (ad := ad) (sv := sv) (ol := ol) (n7 := n7) (n8 := n8) (t9 := t9) (tx := tx) (ln := ln) (po := po) (ki := ki) (rp := rp) (tg := tg) (nu := nu) (cJ := cJ) (o9 := o9) (fo := fo) (f := f) (t := t) (g := g) (hh := hh) (hf4 := by omega) (ht4 := by omega) (hne := by omega) (hg2 := by omega) (hg3 := by omega)) (vx_cwSW 5 hts gL_law_L_ifMerged rfl rfl rfl (by decide +kernel) ⟨Nat.le_of_ble_eq_true rfl, Nat.le_of_ble_eq_true rfl⟩) hw hA [0, 1, 2, 3, 4, 5, 6, 7, 8, 9, 10, 11, 12] [13, 14, 15, 16] [0, 1, 2, 3] rfl rfl (k0 := 17) rfl (by decide) rfl rfl hl.1 (Nat.le_of_ble_eq_true rfl) ⟨(show cells + 0 ≤ room_1.cells by omega), (show slots + 0 ≤ room_1.slots by omega)⟩ rfl dL_law_1789 (fun r_1789 u_1789 H locs e_1789 hw => ?_)
  have hw : Wd D A [(cI, .int), (cR, .object RX1), (cC, .char), (cJ, .long), (cD, .double)] (([(x9, .inr (3, [.ref (q 0), .ref (h9 0), .ref (t9 0)]))] : va_W) ++ wS cI q st ++ wR cR h9 (fr7 ad n8) ol n7 ++ wT cC t9 tx ln po ki rp tg nu ++ ([(o9, .inl (cJ, 1, .inr (.inl (vp_updL fo 0 ((nI (if g = 2 then cntP (fun o => addP st f t o) 480 else cntP (fun o => remP st f t o) 480))).toInt64))))] : va_W) ++ ([(p9, .inl (cD, 1, .inr (.inr (.inr (.inl fd)))))] : va_W) ++ wM cI m9 sa tx th n7 ln po2 lt fi sc nu2 ad2 rv ++ wP cI ad sv n8) s s.heap H locs := hw
  have e_1789 : r_1789 = nI 0 := e_1789
  subst e_1789
  refine lv_istore (lv' := [(6, .int (nI 0)), (0, .ref b), (1, .ref x9), (2, .ref (m9 0)), (3, .ref o9), (4, .ref p9), (5, .int (nI (5 * k)))]) hx hb dL_law_1792 hl (by decide) rfl (fun ls hl => ?_)
  refine lv_aload_n hx hb dL_law_1794 rfl (lv_at hl 3 rfl) ?_
  refine lv_aload_n hx hb dL_law_1795 rfl (lv_at hl 1 rfl) ?_
  refine lv_iload hx hb dL_law_1796 (lv_at hl 6 rfl) ?_
  refine lv_iconst (v := nI 1) hx hb dL_law_1798 kc_iconst_1 ?_
  refine r_addN hx hb dL_law_1799 ?_
  refine r_sld hx hb hX hbl hbA hL hw (i := (5 * k) + 1) (by omega) (v := nI f) h1 dL_law_1800 ?_
  refine lv_aload_n hx hb dL_law_1801 rfl (lv_at hl 1 rfl) ?_
  refine lv_iload hx hb dL_law_1802 (lv_at hl 6 rfl) ?_
  refine lv_iconst (v := nI 2) hx hb dL_law_1804 kc_iconst_2 ?_
  refine r_addN hx hb dL_law_1805 ?_
  refine r_sld hx hb hX hbl hbA hL hw (i := (5 * k) + 2) (by omega) (v := nI t) h2 dL_law_1806 ?_
  refine lv_aload_n hx hb dL_law_1807 rfl (lv_at hl 1 rfl) ?_
  refine lv_iload hx hb dL_law_1808 (lv_at hl 6 rfl) ?_
  refine lv_iconst (v := nI 3) hx hb dL_law_1810 kc_iconst_3 ?_
  refine r_addN hx hb dL_law_1811 ?_
  refine r_sld hx hb hX hbl hbA hL hw (i := (5 * k) + 3) (by omega) (v := nI g) h3 dL_law_1812 ?_
  refine cp_Vi (As := [.int (nI f), .int (nI t), .int (nI g)]) (rest := []) (wc := wM cI m9 sa tx th n7 ln po2 lt fi sc nu2 ad2 rv) (wr := ([(x9, .inr (3, [.ref (q 0), .ref (h9 0), .ref (t9 0)]))] : va_W) ++ wS cI q st ++ wR cR h9 (fr7 ad n8) ol n7 ++ wT cC t9 tx ln po ki rp tg nu ++ ([(o9, .inl (cJ, 1, .inr (.inl (vp_updL fo 0 ((nI (if g = 2 then cntP (fun o => addP st f t o) 480 else cntP (fun o => remP st f t o) 480))).toInt64))))] : va_W) ++ ([(p9, .inl (cD, 1, .inr (.inr (.inr (.inl fd)))))] : va_W)) S (c_X4_ifMerged_v l D (sz := H.size) (cI := cI) (m9 := m9) (sa := sa) (tx := tx) (th := th) (sv := n7) (ln := ln) (po := po2) (lt := lt) (fi := fi) (sc := sc) (nu := nu2) (ad := ad2) (rv := rv) (f := f) (t := t) (c9 := g) (hf4 := by omega) (ht4 := by omega) (hne := by omega) (hc2 := by omega) (hc3 := by omega)) (cwV 3 hts gL_law_X4_ifMerged rfl rfl rfl (by decide +kernel) ⟨Nat.le_of_ble_eq_true rfl, Nat.le_of_ble_eq_true rfl⟩) hw hA [14, 15, 16] [0, 1, 2, 3, 4, 5, 6, 7, 8, 9, 10, 11, 12, 13] [0] rfl rfl (k0 := 17) rfl (by decide) rfl 0 rfl rfl rfl hl.1 (Nat.le_of_ble_eq_true rfl) ⟨(show cells + 0 ≤ room_1.cells by omega), (show slots + 0 ≤ room_1.slots by omega)⟩ rfl dL_law_1813 (fun r_1813 u_1813 H locs e_1813 hw => ?_)
  have hw : Wd D A [(cI, .int), (cR, .object RX1), (cC, .char), (cJ, .long), (cD, .double)] (wM cI m9 sa tx (nI 0) n7 ln po2 lt fi sc nu2 ((lkM false sa f t).2.1) ((lkM false sa f t).2.2) ++ ([(x9, .inr (3, [.ref (q 0), .ref (h9 0), .ref (t9 0)]))] : va_W) ++ wS cI q st ++ wR cR h9 (fr7 ad n8) ol n7 ++ wT cC t9 tx ln po ki rp tg nu ++ ([(o9, .inl (cJ, 1, .inr (.inl (vp_updL fo 0 ((nI (if g = 2 then cntP (fun o => addP st f t o) 480 else cntP (fun o => remP st f t o) 480))).toInt64))))] : va_W) ++ ([(p9, .inl (cD, 1, .inr (.inr (.inr (.inl fd)))))] : va_W) ++ wP cI ad sv n8) s s.heap H locs := hw
  have e_1813 : r_1813 = nI (if g = 2 then (lkM false sa f t).2.1 else (lkM false sa f t).2.2) := e_1813
  subst e_1813
  refine lv_istore (lv' := [(7, .int (nI (if g = 2 then (lkM false sa f t).2.1 else (lkM false sa f t).2.2))), (6, .int (nI 0)), (0, .ref b), (1, .ref x9), (2, .ref (m9 0)), (3, .ref o9), (4, .ref p9), (5, .int (nI (5 * k)))]) hx hb dL_law_1816 hl (by decide) rfl (fun ls hl => ?_)
  refine lv_aload_n hx hb dL_law_1818 rfl (lv_at hl 4 rfl) ?_
  refine cq_V (As := []) (rest := []) S (c_X4_thrown l D (cI := cI) (m9 := m9) (sa := sa) (tx := tx) (th := nI 0) (sv := n7) (ln := ln) (po := po2) (lt := lt) (fi := fi) (sc := sc) (nu := nu2) (ad := (lkM false sa f t).2.1) (rv := (lkM false sa f t).2.2)) (cwV 0 hts gL_law_X4_thrown rfl rfl rfl (by decide +kernel) ⟨Nat.le_of_ble_eq_true rfl, Nat.le_of_ble_eq_true rfl⟩) (hw.q.sub [0, 1, 2] [0] rfl rfl) 0 rfl rfl rfl hl.1 (Nat.le_of_ble_eq_true rfl) ⟨(show cells ≤ room_1.cells by omega), (show slots ≤ room_1.slots by omega)⟩ rfl dL_law_1819 (fun r_1819 e_1819 => ?_)
  have e_1819 : r_1819 = (nI 0) := e_1819
  subst e_1819
  refine lv_iload hx hb dL_law_1822 (lv_at hl 1 rfl) ?_
  refine r_icmp_eqN (tgt := 1829) hx hb (by decide) (by decide) dL_law_1824 (by decide) (fun _ => ?_) (fun h => absurd h (by decide))
  refine lv_iload hx hb dL_law_1829 (lv_at hl 1 rfl) ?_
  refine lv_if_ne (tgt := 1846) hx hb dL_law_1831 (by decide) (fun h => absurd h (by decide)) (fun _ => ?_)
  refine lv_aload_n hx hb dL_law_1834 rfl (lv_at hl 5 rfl) ?_
  refine lv_iconst (v := nI 0) hx hb dL_law_1835 kc_iconst_0 ?_
  refine r_out hx hb hw 15 3 rfl rfl dL_law_1836 ?_
  refine lv_iload hx hb dL_law_1837 (lv_at hl 0 rfl) ?_
  refine lv_i2l hx hb dL_law_1839 rfl ?_
  refine r_lcmpE hx hb (show ((nI (if g = 2 then cntP (fun o => addP st f t o) 480 else cntP (fun o => remP st f t o) 480))).toInt64 = (nI (if g = 2 then (lkM false sa f t).2.1 else (lkM false sa f t).2.2)).toInt64 from congrArg Int32.toInt64 (congrArg nI (by rw [hmc.1, hmc.2]))) dL_law_1840 ?_
  refine lv_if_eq (tgt := 1846) hx hb dL_law_1841 (by decide) (fun _ => ?_) (fun h => absurd h (by decide))
  refine lv_goto (tgt := 1875) hx hb dL_law_1846 (by decide) ?_
  have hw : Wd D A [(cI, .int), (cR, .object RX1), (cC, .char), (cJ, .long), (cD, .double)] (([(x9, .inr (3, [.ref (q 0), .ref (h9 0), .ref (t9 0)]))] : va_W) ++ wS cI q st ++ wR cR h9 (fr7 ad n8) ol n7 ++ wT cC t9 tx ln po ki rp tg nu ++ ([(o9, .inl (cJ, 1, .inr (.inl (vp_updL fo 0 ((nI (if g = 2 then cntP (fun o => addP st f t o) 480 else cntP (fun o => remP st f t o) 480))).toInt64))))] : va_W) ++ ([(p9, .inl (cD, 1, .inr (.inr (.inr (.inl fd)))))] : va_W) ++ wM cI m9 sa tx (nI 0) n7 ln po2 lt fi sc nu2 ((lkM false sa f t).2.1) ((lkM false sa f t).2.2) ++ wP cI ad sv n8) s s.heap H locs := hw.ord [3, 4, 5, 6, 7, 8, 9, 10, 11, 12, 13, 14, 15, 16, 0, 1, 2] (k0 := 17) rfl rfl (by decide)
  have hl : lv_has ls 10 [(0, .ref b), (1, .ref x9), (2, .ref (m9 0)), (3, .ref o9), (4, .ref p9), (5, .int (nI (5 * k)))] := lv_sub hl [2, 3, 4, 5, 6, 7] rfl
  refine W.widen (k := cells + 7) (n := slots + 5790) (by omega) (by omega) ?_
  exact kk H locs ls ⟨st, ad, sv, ol, n7, n8, tx, ln, po, ki, rp, tg, nu, vp_updL fo 0 ((nI (if g = 2 then cntP (fun o => addP st f t o) 480 else cntP (fun o => remP st f t o) 480))).toInt64, fd, sa, nI 0, po2, lt, fi, sc, nu2, (lkM false sa f t).2.1, (lkM false sa f t).2.2, hw, LV_m hLV (by omega)⟩ hl
