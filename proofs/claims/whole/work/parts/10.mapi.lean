abbrev rmX4_put_v : Room := { frames := 4, cells := 0, slots := 0, locals := 98 }
set_option maxHeartbeats 4000000 in
set_option maxRecDepth 100000 in
theorem c_X4_put_v (l : Launch) (D : va_G) (sz : Nat) (cI : ClassId) (m9 : Nat → Nat) (sa : Nat → Int32) (tx : Nat → Nat) (th : Int32) (sv ln po : Nat) (lt fi sc nu : Int32) (ad rv : Nat) (r w c9 : Nat) (v : Int32) (hr : r < 4) (hw5 : w < 6) (hc : c9 < 3) (hv : inP v (nI 0) (nI 999)) (hsv : sv ≤ 6) : MUi l yX4_put wsX4_put rmX4_put_v [.ref (m9 0), .int (nI r), .int (nI w), .int (nI c9), .int v] D [(cI, .int)] (wM cI m9 sa tx th sv ln po lt fi sc nu ad rv) sz (fun rz (_ : Unit) => rz = nI (cntG (fun j9 => bgM (kpM sa sv) r (24 + (4 * (4 * (6 * r + w) + c9) + j9))) 4)) (fun _ => []) (fun _ => wM cI m9 (putM (kpM sa sv) r w c9 v) tx (nI 0) (kpN sv) ln po lt fi sc nu ad rv) 0 0 := by
  refine met_u (own := RX4) (cc := cX4_put) (maxL := 6) (ty := .int) (by decide) rfl rfl (Nat.le_of_ble_eq_true rfl) ?_
  intro p e s m args below meth c Q A hsz S hw hA hE ls hl
  obtain ⟨hx, hb, hml, hown, hts⟩ := id S
  have hl : lv_has ls 6 [(0, .ref (m9 0)), (1, .int (nI r)), (2, .int (nI w)), (3, .int (nI c9)), (4, .int v)] := hl
  refine lv_iload_n hx hb dX4_put_0 rfl (lv_at hl 1 rfl) ?_
  refine lv_iload_n hx hb dX4_put_1 rfl (lv_at hl 2 rfl) ?_
  refine cq_S (As := [.int (nI r), .int (nI w)]) (rest := []) S (c_X4_isRow l D (x := nI r) (y := nI w)) (va_cwS 2 hts gX4_put_X4_isRow rfl rfl rfl (by decide +kernel) ⟨Nat.le_of_ble_eq_true rfl, Nat.le_of_ble_eq_true rfl⟩) (hw.q.sub [] [] rfl rfl) rfl hl.1 (Nat.le_of_ble_eq_true rfl) ⟨Nat.le_of_ble_eq_true rfl, Nat.le_of_ble_eq_true rfl⟩ rfl dX4_put_2 (fun r_2 e_2 => ?_)
  have e_2 : r_2 = b2 (inP (nI r) (nI 0) (nI 3) ∧ inP (nI w) (nI 0) (nI 5)) := e_2
  subst e_2
  refine r_if_eqB (tgt := 21) hx hb dX4_put_5 (by decide) (fun h => absurd (rowP_n hr hw5) h) (fun _ => ?_)
  refine lv_iload_n hx hb dX4_put_8 rfl (lv_at hl 3 rfl) ?_
  refine lv_iconst (v := nI 0) hx hb dX4_put_9 kc_iconst_0 ?_
  refine lv_iconst (v := nI 2) hx hb dX4_put_10 kc_iconst_2 ?_
  refine cq_S (As := [.int (nI c9), .int (nI 0), .int (nI 2)]) (rest := []) S (c_X4_in l D (x := nI c9) (lo := nI 0) (hi := nI 2)) (va_cwS 3 hts gX4_put_X4_in rfl rfl rfl (by decide +kernel) ⟨Nat.le_of_ble_eq_true rfl, Nat.le_of_ble_eq_true rfl⟩) (hw.q.sub [] [] rfl rfl) rfl hl.1 (Nat.le_of_ble_eq_true rfl) ⟨Nat.le_of_ble_eq_true rfl, Nat.le_of_ble_eq_true rfl⟩ rfl dX4_put_11 (fun r_11 e_11 => ?_)
  have e_11 : r_11 = b2 (inP (nI c9) (nI 0) (nI 2)) := e_11
  subst e_11
  refine r_if_eqB (tgt := 21) hx hb dX4_put_14 (by decide) (fun h => absurd (inP_n (Nat.zero_le _) (by omega) (by decide)) h) (fun _ => ?_)
  refine lv_iconst (v := nI 1) hx hb dX4_put_17 kc_iconst_1 ?_
  refine lv_goto (tgt := 22) hx hb dX4_put_18 (by decide) ?_
  refine lv_istore (lv' := [(5, .int (nI 1)), (0, .ref (m9 0)), (1, .int (nI r)), (2, .int (nI w)), (3, .int (nI c9)), (4, .int v)]) hx hb dX4_put_22 hl (by decide) rfl (fun ls hl => ?_)
  refine lv_aload_n hx hb dX4_put_24 rfl (lv_at hl 1 rfl) ?_
  refine lv_iload hx hb dX4_put_25 (lv_at hl 0 rfl) ?_
  refine lv_if_ne (tgt := 34) hx hb dX4_put_27 (by decide) (fun _ => ?_) (fun h => absurd h (by decide))
  refine lv_iload hx hb dX4_put_34 (lv_at hl 5 rfl) ?_
  refine lv_iconst (v := nI 0) hx hb dX4_put_36 kc_iconst_0 ?_
  refine lv_sipush (v := nI 999) hx hb dX4_put_37 kc_sipush_999 ?_
  refine cq_S (As := [.int v, .int (nI 0), .int (nI 999)]) (rest := [.ref (m9 0)]) S (c_X4_in l D (x := v) (lo := nI 0) (hi := nI 999)) (va_cwS 3 hts gX4_put_X4_in rfl rfl rfl (by decide +kernel) ⟨Nat.le_of_ble_eq_true rfl, Nat.le_of_ble_eq_true rfl⟩) (hw.q.sub [] [] rfl rfl) rfl hl.1 (Nat.le_of_ble_eq_true rfl) ⟨Nat.le_of_ble_eq_true rfl, Nat.le_of_ble_eq_true rfl⟩ rfl dX4_put_40 (fun r_40 e_40 => ?_)
  have e_40 : r_40 = b2 (inP v (nI 0) (nI 999)) := e_40
  subst e_40
  refine r_if_neB (tgt := 50) hx hb dX4_put_43 (by decide) (fun _ => ?_) (fun h => absurd (hv) h)
  refine lv_iconst (v := nI 0) hx hb dX4_put_50 kc_iconst_0 ?_
  refine cu_Vi (As := [.int (nI 0)]) (rest := []) (wc := wM cI m9 sa tx th sv ln po lt fi sc nu ad rv) (wr := []) S (c_X4_holds l D (sz := s.heap.size) (cI := cI) (m9 := m9) (sa := sa) (tx := tx) (th := th) (sv := sv) (ln := ln) (po := po) (lt := lt) (fi := fi) (sc := sc) (nu := nu) (ad := ad) (rv := rv) (x := nI 0)) (cwV 1 hts gX4_put_X4_holds rfl rfl rfl (by decide +kernel) ⟨Nat.le_of_ble_eq_true rfl, Nat.le_of_ble_eq_true rfl⟩) hw hA [0, 1, 2] [] [0] rfl rfl rfl (by decide) (by decide) (by decide) 0 rfl rfl rfl hl.1 (Nat.le_of_ble_eq_true rfl) ⟨Nat.le_of_ble_eq_true rfl, Nat.le_of_ble_eq_true rfl⟩ rfl dX4_put_51 (fun r_51 u_51 H locs e_51 hw => ?_)
  have hw : Wd D A [(cI, .int)] (wM cI m9 sa tx (nI 0) sv ln po lt fi sc nu ad rv) s s.heap H locs := hw
  have e_51 : r_51 = b2 ((nI 0) = 0) := e_51
  subst e_51
  refine r_if_neB (tgt := 59) hx hb dX4_put_54 (by decide) (fun _ => ?_) (fun h => absurd (rfl) h)
  refine lv_aload_n hx hb dX4_put_59 rfl (lv_at hl 1 rfl) ?_
  refine cu_Vv (As := []) (rest := []) (wc := wM cI m9 sa tx (nI 0) sv ln po lt fi sc nu ad rv) (wr := []) S (c_X4_keeps l D (sz := H.size) (cI := cI) (m9 := m9) (sa := sa) (tx := tx) (th := (nI 0)) (sv := sv) (ln := ln) (po := po) (lt := lt) (fi := fi) (sc := sc) (nu := nu) (ad := ad) (rv := rv) (hsv := by omega)) (cwV 0 hts gX4_put_X4_keeps rfl rfl rfl (by decide +kernel) ⟨Nat.le_of_ble_eq_true rfl, Nat.le_of_ble_eq_true rfl⟩) hw hA [0, 1, 2] [] [0] rfl rfl rfl (by decide) (by decide) (by decide) 0 rfl rfl rfl hl.1 (Nat.le_of_ble_eq_true rfl) ⟨Nat.le_of_ble_eq_true rfl, Nat.le_of_ble_eq_true rfl⟩ rfl dX4_put_60 (fun u_60 H locs e_60 hw => ?_)
  have hw : Wd D A [(cI, .int)] (wM cI m9 (kpM sa sv) tx (nI 0) (sv + (if sv < 6 then 1 else 0)) ln po lt fi sc nu ad rv) s s.heap H locs := hw
  refine lv_aload_n hx hb dX4_put_63 rfl (lv_at hl 1 rfl) ?_
  refine lv_iload_n hx hb dX4_put_64 rfl (lv_at hl 2 rfl) ?_
  refine lv_iload_n hx hb dX4_put_65 rfl (lv_at hl 3 rfl) ?_
  refine lv_iload_n hx hb dX4_put_66 rfl (lv_at hl 4 rfl) ?_
  refine lv_iload hx hb dX4_put_67 (lv_at hl 5 rfl) ?_
  refine cu_Vi (As := [.int (nI r), .int (nI w), .int (nI c9), .int v]) (rest := []) (wc := wM cI m9 (kpM sa sv) tx (nI 0) (sv + (if sv < 6 then 1 else 0)) ln po lt fi sc nu ad rv) (wr := []) S (c_X4_puts l D (sz := H.size) (cI := cI) (m9 := m9) (sa := kpM sa sv) (tx := tx) (th := (nI 0)) (sv := sv + (if sv < 6 then 1 else 0)) (ln := ln) (po := po) (lt := lt) (fi := fi) (sc := sc) (nu := nu) (ad := ad) (rv := rv) (r := r) (w := w) (c9 := c9) (v := v) (hr := by omega) (hw5 := by omega) (hc := by omega)) (cwV 4 hts gX4_put_X4_puts rfl rfl rfl (by decide +kernel) ⟨Nat.le_of_ble_eq_true rfl, Nat.le_of_ble_eq_true rfl⟩) hw hA [0, 1, 2] [] [0] rfl rfl rfl (by decide) (by decide) (by decide) 0 rfl rfl rfl hl.1 (Nat.le_of_ble_eq_true rfl) ⟨Nat.le_of_ble_eq_true rfl, Nat.le_of_ble_eq_true rfl⟩ rfl dX4_put_69 (fun r_69 u_69 H locs e_69 hw => ?_)
  have hw : Wd D A [(cI, .int)] (wM cI m9 (putM (kpM sa sv) r w c9 v) tx (nI 0) (sv + (if sv < 6 then 1 else 0)) ln po lt fi sc nu ad rv) s s.heap H locs := hw
  have e_69 : r_69 = nI (cntG (fun j9 => bgM (kpM sa sv) r (24 + (4 * (4 * (6 * r + w) + c9) + j9))) 4) := e_69
  subst e_69
  exact hE () dX4_put_72 (rfl) (Nat.le_of_ble_eq_true rfl) (Nat.le_of_ble_eq_true rfl) (hw.sub [0, 1, 2] [] (by decide) rfl rfl) (show nI (cntG (fun j9 => bgM (kpM sa sv) r (24 + (4 * (4 * (6 * r + w) + c9) + j9))) 4) = nI (cntG (fun j9 => bgM (kpM sa sv) r (24 + (4 * (4 * (6 * r + w) + c9) + j9))) 4) from rfl)
abbrev rmX4_put_e1 : Room := { frames := 3, cells := 0, slots := 0, locals := 63 }
set_option maxHeartbeats 4000000 in
set_option maxRecDepth 100000 in
theorem c_X4_put_e1 (l : Launch) (D : va_G) (sz : Nat) (cI : ClassId) (m9 : Nat → Nat) (sa : Nat → Int32) (tx : Nat → Nat) (th : Int32) (sv ln po : Nat) (lt fi sc nu : Int32) (ad rv : Nat) (p0 p1 p2 p3 : Int32) (hv : ¬ ((inP p0 (nI 0) (nI 3) ∧ inP p1 (nI 0) (nI 5)) ∧ inP p2 (nI 0) (nI 2))) : MUi l yX4_put wsX4_put rmX4_put_e1 [.ref (m9 0), .int p0, .int p1, .int p2, .int p3] D [(cI, .int)] (wM cI m9 sa tx th sv ln po lt fi sc nu ad rv) sz (fun rz (_ : Unit) => rz = nI 0) (fun _ => []) (fun _ => wM cI m9 sa tx (nI 1) sv ln po lt fi sc nu ad rv) 0 0 := by
  refine met_u (own := RX4) (cc := cX4_put) (maxL := 6) (ty := .int) (by decide) rfl rfl (Nat.le_of_ble_eq_true rfl) ?_
  intro p e s m args below meth c Q A hsz S hw hA hE ls hl
  obtain ⟨hx, hb, hml, hown, hts⟩ := id S
  have hl : lv_has ls 6 [(0, .ref (m9 0)), (1, .int p0), (2, .int p1), (3, .int p2), (4, .int p3)] := hl
  refine lv_iload_n hx hb dX4_put_0 rfl (lv_at hl 1 rfl) ?_
  refine lv_iload_n hx hb dX4_put_1 rfl (lv_at hl 2 rfl) ?_
  refine cq_S (As := [.int p0, .int p1]) (rest := []) S (c_X4_isRow l D (x := p0) (y := p1)) (va_cwS 2 hts gX4_put_X4_isRow rfl rfl rfl (by decide +kernel) ⟨Nat.le_of_ble_eq_true rfl, Nat.le_of_ble_eq_true rfl⟩) (hw.q.sub [] [] rfl rfl) rfl hl.1 (Nat.le_of_ble_eq_true rfl) ⟨Nat.le_of_ble_eq_true rfl, Nat.le_of_ble_eq_true rfl⟩ rfl dX4_put_2 (fun r_2 e_2 => ?_)
  have e_2 : r_2 = b2 (inP p0 (nI 0) (nI 3) ∧ inP p1 (nI 0) (nI 5)) := e_2
  subst e_2
  refine r_if_eqB (tgt := 21) hx hb dX4_put_5 (by decide) (fun c_5 => ?_) (fun c_5 => ?_)
  ·
    refine lv_iconst (v := nI 0) hx hb dX4_put_21 kc_iconst_0 ?_
    refine lv_istore (lv' := [(5, .int (nI 0)), (0, .ref (m9 0)), (1, .int p0), (2, .int p1), (3, .int p2), (4, .int p3)]) hx hb dX4_put_22 hl (by decide) rfl (fun ls hl => ?_)
    refine lv_aload_n hx hb dX4_put_24 rfl (lv_at hl 1 rfl) ?_
    refine lv_iload hx hb dX4_put_25 (lv_at hl 0 rfl) ?_
    refine lv_if_ne (tgt := 34) hx hb dX4_put_27 (by decide) (fun h => absurd h (by decide)) (fun _ => ?_)
    refine lv_iconst (v := nI 1) hx hb dX4_put_30 kc_iconst_1 ?_
    refine lv_goto (tgt := 51) hx hb dX4_put_31 (by decide) ?_
    refine cu_Vi (As := [.int (nI 1)]) (rest := []) (wc := wM cI m9 sa tx th sv ln po lt fi sc nu ad rv) (wr := []) S (c_X4_holds l D (sz := s.heap.size) (cI := cI) (m9 := m9) (sa := sa) (tx := tx) (th := th) (sv := sv) (ln := ln) (po := po) (lt := lt) (fi := fi) (sc := sc) (nu := nu) (ad := ad) (rv := rv) (x := nI 1)) (cwV 1 hts gX4_put_X4_holds rfl rfl rfl (by decide +kernel) ⟨Nat.le_of_ble_eq_true rfl, Nat.le_of_ble_eq_true rfl⟩) hw hA [0, 1, 2] [] [0] rfl rfl rfl (by decide) (by decide) (by decide) 0 rfl rfl rfl hl.1 (Nat.le_of_ble_eq_true rfl) ⟨Nat.le_of_ble_eq_true rfl, Nat.le_of_ble_eq_true rfl⟩ rfl dX4_put_51 (fun r_51 u_51 H locs e_51 hw => ?_)
    have hw : Wd D A [(cI, .int)] (wM cI m9 sa tx (nI 1) sv ln po lt fi sc nu ad rv) s s.heap H locs := hw
    have e_51 : r_51 = b2 ((nI 1) = 0) := e_51
    subst e_51
    refine r_if_neB (tgt := 59) hx hb dX4_put_54 (by decide) (fun h => absurd h (by decide)) (fun _ => ?_)
    refine lv_iconst (v := nI 0) hx hb dX4_put_57 kc_iconst_0 ?_
    exact hE () dX4_put_58 (rfl) (Nat.le_of_ble_eq_true rfl) (Nat.le_of_ble_eq_true rfl) (hw.sub [0, 1, 2] [] (by decide) rfl rfl) (show nI 0 = nI 0 from rfl)
  ·
    refine lv_iload_n hx hb dX4_put_8 rfl (lv_at hl 3 rfl) ?_
    refine lv_iconst (v := nI 0) hx hb dX4_put_9 kc_iconst_0 ?_
    refine lv_iconst (v := nI 2) hx hb dX4_put_10 kc_iconst_2 ?_
    refine cq_S (As := [.int p2, .int (nI 0), .int (nI 2)]) (rest := []) S (c_X4_in l D (x := p2) (lo := nI 0) (hi := nI 2)) (va_cwS 3 hts gX4_put_X4_in rfl rfl rfl (by decide +kernel) ⟨Nat.le_of_ble_eq_true rfl, Nat.le_of_ble_eq_true rfl⟩) (hw.q.sub [] [] rfl rfl) rfl hl.1 (Nat.le_of_ble_eq_true rfl) ⟨Nat.le_of_ble_eq_true rfl, Nat.le_of_ble_eq_true rfl⟩ rfl dX4_put_11 (fun r_11 e_11 => ?_)
    have e_11 : r_11 = b2 (inP p2 (nI 0) (nI 2)) := e_11
    subst e_11
    refine r_if_eqB (tgt := 21) hx hb dX4_put_14 (by decide) (fun c_14 => ?_) (fun c_14 => ?_)
    ·
      refine lv_iconst (v := nI 0) hx hb dX4_put_21 kc_iconst_0 ?_
      refine lv_istore (lv' := [(5, .int (nI 0)), (0, .ref (m9 0)), (1, .int p0), (2, .int p1), (3, .int p2), (4, .int p3)]) hx hb dX4_put_22 hl (by decide) rfl (fun ls hl => ?_)
      refine lv_aload_n hx hb dX4_put_24 rfl (lv_at hl 1 rfl) ?_
      refine lv_iload hx hb dX4_put_25 (lv_at hl 0 rfl) ?_
      refine lv_if_ne (tgt := 34) hx hb dX4_put_27 (by decide) (fun h => absurd h (by decide)) (fun _ => ?_)
      refine lv_iconst (v := nI 1) hx hb dX4_put_30 kc_iconst_1 ?_
      refine lv_goto (tgt := 51) hx hb dX4_put_31 (by decide) ?_
      refine cu_Vi (As := [.int (nI 1)]) (rest := []) (wc := wM cI m9 sa tx th sv ln po lt fi sc nu ad rv) (wr := []) S (c_X4_holds l D (sz := s.heap.size) (cI := cI) (m9 := m9) (sa := sa) (tx := tx) (th := th) (sv := sv) (ln := ln) (po := po) (lt := lt) (fi := fi) (sc := sc) (nu := nu) (ad := ad) (rv := rv) (x := nI 1)) (cwV 1 hts gX4_put_X4_holds rfl rfl rfl (by decide +kernel) ⟨Nat.le_of_ble_eq_true rfl, Nat.le_of_ble_eq_true rfl⟩) hw hA [0, 1, 2] [] [0] rfl rfl rfl (by decide) (by decide) (by decide) 0 rfl rfl rfl hl.1 (Nat.le_of_ble_eq_true rfl) ⟨Nat.le_of_ble_eq_true rfl, Nat.le_of_ble_eq_true rfl⟩ rfl dX4_put_51 (fun r_51 u_51 H locs e_51 hw => ?_)
      have hw : Wd D A [(cI, .int)] (wM cI m9 sa tx (nI 1) sv ln po lt fi sc nu ad rv) s s.heap H locs := hw
      have e_51 : r_51 = b2 ((nI 1) = 0) := e_51
      subst e_51
      refine r_if_neB (tgt := 59) hx hb dX4_put_54 (by decide) (fun h => absurd h (by decide)) (fun _ => ?_)
      refine lv_iconst (v := nI 0) hx hb dX4_put_57 kc_iconst_0 ?_
      exact hE () dX4_put_58 (rfl) (Nat.le_of_ble_eq_true rfl) (Nat.le_of_ble_eq_true rfl) (hw.sub [0, 1, 2] [] (by decide) rfl rfl) (show nI 0 = nI 0 from rfl)
    ·
      exact absurd ⟨c_5, c_14⟩ hv
abbrev rmX4_put_e2 : Room := { frames := 3, cells := 0, slots := 0, locals := 63 }
set_option maxHeartbeats 4000000 in
set_option maxRecDepth 100000 in
theorem c_X4_put_e2 (l : Launch) (D : va_G) (sz : Nat) (cI : ClassId) (m9 : Nat → Nat) (sa : Nat → Int32) (tx : Nat → Nat) (th : Int32) (sv ln po : Nat) (lt fi sc nu : Int32) (ad rv : Nat) (r w c9 : Nat) (v : Int32) (hr : r < 4) (hw5 : w < 6) (hc : c9 < 3) (hv : ¬ inP v (nI 0) (nI 999)) : MUi l yX4_put wsX4_put rmX4_put_e2 [.ref (m9 0), .int (nI r), .int (nI w), .int (nI c9), .int v] D [(cI, .int)] (wM cI m9 sa tx th sv ln po lt fi sc nu ad rv) sz (fun rz (_ : Unit) => rz = nI 0) (fun _ => []) (fun _ => wM cI m9 sa tx (nI 2) sv ln po lt fi sc nu ad rv) 0 0 := by
  refine met_u (own := RX4) (cc := cX4_put) (maxL := 6) (ty := .int) (by decide) rfl rfl (Nat.le_of_ble_eq_true rfl) ?_
  intro p e s m args below meth c Q A hsz S hw hA hE ls hl
  obtain ⟨hx, hb, hml, hown, hts⟩ := id S
  have hl : lv_has ls 6 [(0, .ref (m9 0)), (1, .int (nI r)), (2, .int (nI w)), (3, .int (nI c9)), (4, .int v)] := hl
  refine lv_iload_n hx hb dX4_put_0 rfl (lv_at hl 1 rfl) ?_
  refine lv_iload_n hx hb dX4_put_1 rfl (lv_at hl 2 rfl) ?_
  refine cq_S (As := [.int (nI r), .int (nI w)]) (rest := []) S (c_X4_isRow l D (x := nI r) (y := nI w)) (va_cwS 2 hts gX4_put_X4_isRow rfl rfl rfl (by decide +kernel) ⟨Nat.le_of_ble_eq_true rfl, Nat.le_of_ble_eq_true rfl⟩) (hw.q.sub [] [] rfl rfl) rfl hl.1 (Nat.le_of_ble_eq_true rfl) ⟨Nat.le_of_ble_eq_true rfl, Nat.le_of_ble_eq_true rfl⟩ rfl dX4_put_2 (fun r_2 e_2 => ?_)
  have e_2 : r_2 = b2 (inP (nI r) (nI 0) (nI 3) ∧ inP (nI w) (nI 0) (nI 5)) := e_2
  subst e_2
  refine r_if_eqB (tgt := 21) hx hb dX4_put_5 (by decide) (fun h => absurd (rowP_n hr hw5) h) (fun _ => ?_)
  refine lv_iload_n hx hb dX4_put_8 rfl (lv_at hl 3 rfl) ?_
  refine lv_iconst (v := nI 0) hx hb dX4_put_9 kc_iconst_0 ?_
  refine lv_iconst (v := nI 2) hx hb dX4_put_10 kc_iconst_2 ?_
  refine cq_S (As := [.int (nI c9), .int (nI 0), .int (nI 2)]) (rest := []) S (c_X4_in l D (x := nI c9) (lo := nI 0) (hi := nI 2)) (va_cwS 3 hts gX4_put_X4_in rfl rfl rfl (by decide +kernel) ⟨Nat.le_of_ble_eq_true rfl, Nat.le_of_ble_eq_true rfl⟩) (hw.q.sub [] [] rfl rfl) rfl hl.1 (Nat.le_of_ble_eq_true rfl) ⟨Nat.le_of_ble_eq_true rfl, Nat.le_of_ble_eq_true rfl⟩ rfl dX4_put_11 (fun r_11 e_11 => ?_)
  have e_11 : r_11 = b2 (inP (nI c9) (nI 0) (nI 2)) := e_11
  subst e_11
  refine r_if_eqB (tgt := 21) hx hb dX4_put_14 (by decide) (fun h => absurd (inP_n (Nat.zero_le _) (by omega) (by decide)) h) (fun _ => ?_)
  refine lv_iconst (v := nI 1) hx hb dX4_put_17 kc_iconst_1 ?_
  refine lv_goto (tgt := 22) hx hb dX4_put_18 (by decide) ?_
  refine lv_istore (lv' := [(5, .int (nI 1)), (0, .ref (m9 0)), (1, .int (nI r)), (2, .int (nI w)), (3, .int (nI c9)), (4, .int v)]) hx hb dX4_put_22 hl (by decide) rfl (fun ls hl => ?_)
  refine lv_aload_n hx hb dX4_put_24 rfl (lv_at hl 1 rfl) ?_
  refine lv_iload hx hb dX4_put_25 (lv_at hl 0 rfl) ?_
  refine lv_if_ne (tgt := 34) hx hb dX4_put_27 (by decide) (fun _ => ?_) (fun h => absurd h (by decide))
  refine lv_iload hx hb dX4_put_34 (lv_at hl 5 rfl) ?_
  refine lv_iconst (v := nI 0) hx hb dX4_put_36 kc_iconst_0 ?_
  refine lv_sipush (v := nI 999) hx hb dX4_put_37 kc_sipush_999 ?_
  refine cq_S (As := [.int v, .int (nI 0), .int (nI 999)]) (rest := [.ref (m9 0)]) S (c_X4_in l D (x := v) (lo := nI 0) (hi := nI 999)) (va_cwS 3 hts gX4_put_X4_in rfl rfl rfl (by decide +kernel) ⟨Nat.le_of_ble_eq_true rfl, Nat.le_of_ble_eq_true rfl⟩) (hw.q.sub [] [] rfl rfl) rfl hl.1 (Nat.le_of_ble_eq_true rfl) ⟨Nat.le_of_ble_eq_true rfl, Nat.le_of_ble_eq_true rfl⟩ rfl dX4_put_40 (fun r_40 e_40 => ?_)
  have e_40 : r_40 = b2 (inP v (nI 0) (nI 999)) := e_40
  subst e_40
  refine r_if_neB (tgt := 50) hx hb dX4_put_43 (by decide) (fun h => absurd h (hv)) (fun _ => ?_)
  refine lv_iconst (v := nI 2) hx hb dX4_put_46 kc_iconst_2 ?_
  refine lv_goto (tgt := 51) hx hb dX4_put_47 (by decide) ?_
  refine cu_Vi (As := [.int (nI 2)]) (rest := []) (wc := wM cI m9 sa tx th sv ln po lt fi sc nu ad rv) (wr := []) S (c_X4_holds l D (sz := s.heap.size) (cI := cI) (m9 := m9) (sa := sa) (tx := tx) (th := th) (sv := sv) (ln := ln) (po := po) (lt := lt) (fi := fi) (sc := sc) (nu := nu) (ad := ad) (rv := rv) (x := nI 2)) (cwV 1 hts gX4_put_X4_holds rfl rfl rfl (by decide +kernel) ⟨Nat.le_of_ble_eq_true rfl, Nat.le_of_ble_eq_true rfl⟩) hw hA [0, 1, 2] [] [0] rfl rfl rfl (by decide) (by decide) (by decide) 0 rfl rfl rfl hl.1 (Nat.le_of_ble_eq_true rfl) ⟨Nat.le_of_ble_eq_true rfl, Nat.le_of_ble_eq_true rfl⟩ rfl dX4_put_51 (fun r_51 u_51 H locs e_51 hw => ?_)
  have hw : Wd D A [(cI, .int)] (wM cI m9 sa tx (nI 2) sv ln po lt fi sc nu ad rv) s s.heap H locs := hw
  have e_51 : r_51 = b2 ((nI 2) = 0) := e_51
  subst e_51
  refine r_if_neB (tgt := 59) hx hb dX4_put_54 (by decide) (fun h => absurd h (by decide)) (fun _ => ?_)
  refine lv_iconst (v := nI 0) hx hb dX4_put_57 kc_iconst_0 ?_
  exact hE () dX4_put_58 (rfl) (Nat.le_of_ble_eq_true rfl) (Nat.le_of_ble_eq_true rfl) (hw.sub [0, 1, 2] [] (by decide) rfl rfl) (show nI 0 = nI 0 from rfl)
abbrev rmX4_add_v : Room := { frames := 4, cells := 0, slots := 0, locals := 96 }
set_option maxHeartbeats 4000000 in
set_option maxRecDepth 100000 in
theorem c_X4_add_v (l : Launch) (D : va_G) (sz : Nat) (cI : ClassId) (m9 : Nat → Nat) (sa : Nat → Int32) (tx : Nat → Nat) (th : Int32) (sv ln po : Nat) (lt fi sc nu : Int32) (ad rv : Nat) (r w : Nat) (v : Int32) (hr : r < 4) (hw5 : w < 6) (hz : ¬ v = 0) (hv : inP v (-99) (nI 99)) (hsv : sv ≤ 6) : MUi l yX4_add wsX4_add rmX4_add_v [.ref (m9 0), .int (nI r), .int (nI w), .int v] D [(cI, .int)] (wM cI m9 sa tx th sv ln po lt fi sc nu ad rv) sz (fun rz (_ : Unit) => rz = smM (addM (kpM sa sv) r w v) r w 3 4) (fun _ => []) (fun _ => wM cI m9 (addM (kpM sa sv) r w v) tx (nI 0) (kpN sv) ln po lt fi sc nu ad rv) 0 0 := by
  refine met_u (own := RX4) (cc := cX4_add) (maxL := 4) (ty := .int) (by decide) rfl rfl (Nat.le_of_ble_eq_true rfl) ?_
  intro p e s m args below meth c Q A hsz S hw hA hE ls hl
  obtain ⟨hx, hb, hml, hown, hts⟩ := id S
  have hl : lv_has ls 4 [(0, .ref (m9 0)), (1, .int (nI r)), (2, .int (nI w)), (3, .int v)] := hl
  refine lv_aload_n hx hb dX4_add_0 rfl (lv_at hl 0 rfl) ?_
  refine lv_iload_n hx hb dX4_add_1 rfl (lv_at hl 1 rfl) ?_
  refine lv_iload_n hx hb dX4_add_2 rfl (lv_at hl 2 rfl) ?_
  refine cq_S (As := [.int (nI r), .int (nI w)]) (rest := [.ref (m9 0)]) S (c_X4_isRow l D (x := nI r) (y := nI w)) (va_cwS 2 hts gX4_add_X4_isRow rfl rfl rfl (by decide +kernel) ⟨Nat.le_of_ble_eq_true rfl, Nat.le_of_ble_eq_true rfl⟩) (hw.q.sub [] [] rfl rfl) rfl hl.1 (Nat.le_of_ble_eq_true rfl) ⟨Nat.le_of_ble_eq_true rfl, Nat.le_of_ble_eq_true rfl⟩ rfl dX4_add_3 (fun r_3 e_3 => ?_)
  have e_3 : r_3 = b2 (inP (nI r) (nI 0) (nI 3) ∧ inP (nI w) (nI 0) (nI 5)) := e_3
  subst e_3
  refine r_if_neB (tgt := 13) hx hb dX4_add_6 (by decide) (fun _ => ?_) (fun h => absurd (rowP_n hr hw5) h)
  refine lv_iload_n hx hb dX4_add_13 rfl (lv_at hl 3 rfl) ?_
  refine lv_if_eq (tgt := 28) hx hb dX4_add_14 (by decide) (fun h => absurd h (hz)) (fun _ => ?_)
  refine lv_iload_n hx hb dX4_add_17 rfl (lv_at hl 3 rfl) ?_
  refine lv_bipush (v := (-99)) hx hb dX4_add_18 kc_bipush_m99 ?_
  refine lv_bipush (v := nI 99) hx hb dX4_add_20 kc_bipush_99 ?_
  refine cq_S (As := [.int v, .int (-99), .int (nI 99)]) (rest := [.ref (m9 0)]) S (c_X4_in l D (x := v) (lo := (-99)) (hi := nI 99)) (va_cwS 3 hts gX4_add_X4_in rfl rfl rfl (by decide +kernel) ⟨Nat.le_of_ble_eq_true rfl, Nat.le_of_ble_eq_true rfl⟩) (hw.q.sub [] [] rfl rfl) rfl hl.1 (Nat.le_of_ble_eq_true rfl) ⟨Nat.le_of_ble_eq_true rfl, Nat.le_of_ble_eq_true rfl⟩ rfl dX4_add_22 (fun r_22 e_22 => ?_)
  have e_22 : r_22 = b2 (inP v (-99) (nI 99)) := e_22
  subst e_22
  refine r_if_neB (tgt := 32) hx hb dX4_add_25 (by decide) (fun _ => ?_) (fun h => absurd (hv) h)
  refine lv_iconst (v := nI 0) hx hb dX4_add_32 kc_iconst_0 ?_
  refine cu_Vi (As := [.int (nI 0)]) (rest := []) (wc := wM cI m9 sa tx th sv ln po lt fi sc nu ad rv) (wr := []) S (c_X4_holds l D (sz := s.heap.size) (cI := cI) (m9 := m9) (sa := sa) (tx := tx) (th := th) (sv := sv) (ln := ln) (po := po) (lt := lt) (fi := fi) (sc := sc) (nu := nu) (ad := ad) (rv := rv) (x := nI 0)) (cwV 1 hts gX4_add_X4_holds rfl rfl rfl (by decide +kernel) ⟨Nat.le_of_ble_eq_true rfl, Nat.le_of_ble_eq_true rfl⟩) hw hA [0, 1, 2] [] [0] rfl rfl rfl (by decide) (by decide) (by decide) 0 rfl rfl rfl hl.1 (Nat.le_of_ble_eq_true rfl) ⟨Nat.le_of_ble_eq_true rfl, Nat.le_of_ble_eq_true rfl⟩ rfl dX4_add_33 (fun r_33 u_33 H locs e_33 hw => ?_)
  have hw : Wd D A [(cI, .int)] (wM cI m9 sa tx (nI 0) sv ln po lt fi sc nu ad rv) s s.heap H locs := hw
  have e_33 : r_33 = b2 ((nI 0) = 0) := e_33
  subst e_33
  refine r_if_neB (tgt := 41) hx hb dX4_add_36 (by decide) (fun _ => ?_) (fun h => absurd (rfl) h)
  refine lv_aload_n hx hb dX4_add_41 rfl (lv_at hl 0 rfl) ?_
  refine cu_Vv (As := []) (rest := []) (wc := wM cI m9 sa tx (nI 0) sv ln po lt fi sc nu ad rv) (wr := []) S (c_X4_keeps l D (sz := H.size) (cI := cI) (m9 := m9) (sa := sa) (tx := tx) (th := (nI 0)) (sv := sv) (ln := ln) (po := po) (lt := lt) (fi := fi) (sc := sc) (nu := nu) (ad := ad) (rv := rv) (hsv := by omega)) (cwV 0 hts gX4_add_X4_keeps rfl rfl rfl (by decide +kernel) ⟨Nat.le_of_ble_eq_true rfl, Nat.le_of_ble_eq_true rfl⟩) hw hA [0, 1, 2] [] [0] rfl rfl rfl (by decide) (by decide) (by decide) 0 rfl rfl rfl hl.1 (Nat.le_of_ble_eq_true rfl) ⟨Nat.le_of_ble_eq_true rfl, Nat.le_of_ble_eq_true rfl⟩ rfl dX4_add_42 (fun u_42 H locs e_42 hw => ?_)
  have hw : Wd D A [(cI, .int)] (wM cI m9 (kpM sa sv) tx (nI 0) (sv + (if sv < 6 then 1 else 0)) ln po lt fi sc nu ad rv) s s.heap H locs := hw
  refine lv_aload_n hx hb dX4_add_45 rfl (lv_at hl 0 rfl) ?_
  refine lv_iload_n hx hb dX4_add_46 rfl (lv_at hl 1 rfl) ?_
  refine lv_iload_n hx hb dX4_add_47 rfl (lv_at hl 2 rfl) ?_
  refine lv_iload_n hx hb dX4_add_48 rfl (lv_at hl 3 rfl) ?_
  refine cu_Vi (As := [.int (nI r), .int (nI w), .int v]) (rest := []) (wc := wM cI m9 (kpM sa sv) tx (nI 0) (sv + (if sv < 6 then 1 else 0)) ln po lt fi sc nu ad rv) (wr := []) S (c_X4_adds l D (sz := H.size) (cI := cI) (m9 := m9) (sa := kpM sa sv) (tx := tx) (th := (nI 0)) (sv := sv + (if sv < 6 then 1 else 0)) (ln := ln) (po := po) (lt := lt) (fi := fi) (sc := sc) (nu := nu) (ad := ad) (rv := rv) (r := r) (w := w) (v := v) (hr := by omega) (hw5 := by omega)) (cwV 3 hts gX4_add_X4_adds rfl rfl rfl (by decide +kernel) ⟨Nat.le_of_ble_eq_true rfl, Nat.le_of_ble_eq_true rfl⟩) hw hA [0, 1, 2] [] [0] rfl rfl rfl (by decide) (by decide) (by decide) 0 rfl rfl rfl hl.1 (Nat.le_of_ble_eq_true rfl) ⟨Nat.le_of_ble_eq_true rfl, Nat.le_of_ble_eq_true rfl⟩ rfl dX4_add_49 (fun r_49 u_49 H locs e_49 hw => ?_)
  have hw : Wd D A [(cI, .int)] (wM cI m9 (addM (kpM sa sv) r w v) tx (nI 0) (sv + (if sv < 6 then 1 else 0)) ln po lt fi sc nu ad rv) s s.heap H locs := hw
  have e_49 : r_49 = smM (addM (kpM sa sv) r w v) r w 3 4 := e_49
  subst e_49
  exact hE () dX4_add_52 (rfl) (Nat.le_of_ble_eq_true rfl) (Nat.le_of_ble_eq_true rfl) (hw.sub [0, 1, 2] [] (by decide) rfl rfl) (show smM (addM (kpM sa sv) r w v) r w 3 4 = smM (addM (kpM sa sv) r w v) r w 3 4 from rfl)
abbrev rmX4_add_e1 : Room := { frames := 3, cells := 0, slots := 0, locals := 63 }
set_option maxHeartbeats 4000000 in
set_option maxRecDepth 100000 in
theorem c_X4_add_e1 (l : Launch) (D : va_G) (sz : Nat) (cI : ClassId) (m9 : Nat → Nat) (sa : Nat → Int32) (tx : Nat → Nat) (th : Int32) (sv ln po : Nat) (lt fi sc nu : Int32) (ad rv : Nat) (p0 p1 p2 : Int32) (hv : ¬ (inP p0 (nI 0) (nI 3) ∧ inP p1 (nI 0) (nI 5))) : MUi l yX4_add wsX4_add rmX4_add_e1 [.ref (m9 0), .int p0, .int p1, .int p2] D [(cI, .int)] (wM cI m9 sa tx th sv ln po lt fi sc nu ad rv) sz (fun rz (_ : Unit) => rz = nI 0) (fun _ => []) (fun _ => wM cI m9 sa tx (nI 1) sv ln po lt fi sc nu ad rv) 0 0 := by
  refine met_u (own := RX4) (cc := cX4_add) (maxL := 4) (ty := .int) (by decide) rfl rfl (Nat.le_of_ble_eq_true rfl) ?_
  intro p e s m args below meth c Q A hsz S hw hA hE ls hl
  obtain ⟨hx, hb, hml, hown, hts⟩ := id S
  have hl : lv_has ls 4 [(0, .ref (m9 0)), (1, .int p0), (2, .int p1), (3, .int p2)] := hl
  refine lv_aload_n hx hb dX4_add_0 rfl (lv_at hl 0 rfl) ?_
  refine lv_iload_n hx hb dX4_add_1 rfl (lv_at hl 1 rfl) ?_
  refine lv_iload_n hx hb dX4_add_2 rfl (lv_at hl 2 rfl) ?_
  refine cq_S (As := [.int p0, .int p1]) (rest := [.ref (m9 0)]) S (c_X4_isRow l D (x := p0) (y := p1)) (va_cwS 2 hts gX4_add_X4_isRow rfl rfl rfl (by decide +kernel) ⟨Nat.le_of_ble_eq_true rfl, Nat.le_of_ble_eq_true rfl⟩) (hw.q.sub [] [] rfl rfl) rfl hl.1 (Nat.le_of_ble_eq_true rfl) ⟨Nat.le_of_ble_eq_true rfl, Nat.le_of_ble_eq_true rfl⟩ rfl dX4_add_3 (fun r_3 e_3 => ?_)
  have e_3 : r_3 = b2 (inP p0 (nI 0) (nI 3) ∧ inP p1 (nI 0) (nI 5)) := e_3
  subst e_3
  refine r_if_neB (tgt := 13) hx hb dX4_add_6 (by decide) (fun h => absurd h (hv)) (fun _ => ?_)
  refine lv_iconst (v := nI 1) hx hb dX4_add_9 kc_iconst_1 ?_
  refine lv_goto (tgt := 33) hx hb dX4_add_10 (by decide) ?_
  refine cu_Vi (As := [.int (nI 1)]) (rest := []) (wc := wM cI m9 sa tx th sv ln po lt fi sc nu ad rv) (wr := []) S (c_X4_holds l D (sz := s.heap.size) (cI := cI) (m9 := m9) (sa := sa) (tx := tx) (th := th) (sv := sv) (ln := ln) (po := po) (lt := lt) (fi := fi) (sc := sc) (nu := nu) (ad := ad) (rv := rv) (x := nI 1)) (cwV 1 hts gX4_add_X4_holds rfl rfl rfl (by decide +kernel) ⟨Nat.le_of_ble_eq_true rfl, Nat.le_of_ble_eq_true rfl⟩) hw hA [0, 1, 2] [] [0] rfl rfl rfl (by decide) (by decide) (by decide) 0 rfl rfl rfl hl.1 (Nat.le_of_ble_eq_true rfl) ⟨Nat.le_of_ble_eq_true rfl, Nat.le_of_ble_eq_true rfl⟩ rfl dX4_add_33 (fun r_33 u_33 H locs e_33 hw => ?_)
  have hw : Wd D A [(cI, .int)] (wM cI m9 sa tx (nI 1) sv ln po lt fi sc nu ad rv) s s.heap H locs := hw
  have e_33 : r_33 = b2 ((nI 1) = 0) := e_33
  subst e_33
  refine r_if_neB (tgt := 41) hx hb dX4_add_36 (by decide) (fun h => absurd h (by decide)) (fun _ => ?_)
  refine lv_iconst (v := nI 0) hx hb dX4_add_39 kc_iconst_0 ?_
  exact hE () dX4_add_40 (rfl) (Nat.le_of_ble_eq_true rfl) (Nat.le_of_ble_eq_true rfl) (hw.sub [0, 1, 2] [] (by decide) rfl rfl) (show nI 0 = nI 0 from rfl)
abbrev rmX4_add_e2 : Room := { frames := 3, cells := 0, slots := 0, locals := 63 }
set_option maxHeartbeats 4000000 in
set_option maxRecDepth 100000 in
theorem c_X4_add_e2 (l : Launch) (D : va_G) (sz : Nat) (cI : ClassId) (m9 : Nat → Nat) (sa : Nat → Int32) (tx : Nat → Nat) (th : Int32) (sv ln po : Nat) (lt fi sc nu : Int32) (ad rv : Nat) (r w : Nat) (v : Int32) (hr : r < 4) (hw5 : w < 6) (hv : v = 0 ∨ ¬ inP v (-99) (nI 99)) : MUi l yX4_add wsX4_add rmX4_add_e2 [.ref (m9 0), .int (nI r), .int (nI w), .int v] D [(cI, .int)] (wM cI m9 sa tx th sv ln po lt fi sc nu ad rv) sz (fun rz (_ : Unit) => rz = nI 0) (fun _ => []) (fun _ => wM cI m9 sa tx (nI 2) sv ln po lt fi sc nu ad rv) 0 0 := by
  refine met_u (own := RX4) (cc := cX4_add) (maxL := 4) (ty := .int) (by decide) rfl rfl (Nat.le_of_ble_eq_true rfl) ?_
  intro p e s m args below meth c Q A hsz S hw hA hE ls hl
  obtain ⟨hx, hb, hml, hown, hts⟩ := id S
  have hl : lv_has ls 4 [(0, .ref (m9 0)), (1, .int (nI r)), (2, .int (nI w)), (3, .int v)] := hl
  refine lv_aload_n hx hb dX4_add_0 rfl (lv_at hl 0 rfl) ?_
  refine lv_iload_n hx hb dX4_add_1 rfl (lv_at hl 1 rfl) ?_
  refine lv_iload_n hx hb dX4_add_2 rfl (lv_at hl 2 rfl) ?_
  refine cq_S (As := [.int (nI r), .int (nI w)]) (rest := [.ref (m9 0)]) S (c_X4_isRow l D (x := nI r) (y := nI w)) (va_cwS 2 hts gX4_add_X4_isRow rfl rfl rfl (by decide +kernel) ⟨Nat.le_of_ble_eq_true rfl, Nat.le_of_ble_eq_true rfl⟩) (hw.q.sub [] [] rfl rfl) rfl hl.1 (Nat.le_of_ble_eq_true rfl) ⟨Nat.le_of_ble_eq_true rfl, Nat.le_of_ble_eq_true rfl⟩ rfl dX4_add_3 (fun r_3 e_3 => ?_)
  have e_3 : r_3 = b2 (inP (nI r) (nI 0) (nI 3) ∧ inP (nI w) (nI 0) (nI 5)) := e_3
  subst e_3
  refine r_if_neB (tgt := 13) hx hb dX4_add_6 (by decide) (fun _ => ?_) (fun h => absurd (rowP_n hr hw5) h)
  refine lv_iload_n hx hb dX4_add_13 rfl (lv_at hl 3 rfl) ?_
  refine lv_if_eq (tgt := 28) hx hb dX4_add_14 (by decide) (fun c_14 => ?_) (fun c_14 => ?_)
  ·
    refine lv_iconst (v := nI 2) hx hb dX4_add_28 kc_iconst_2 ?_
    refine lv_goto (tgt := 33) hx hb dX4_add_29 (by decide) ?_
    refine cu_Vi (As := [.int (nI 2)]) (rest := []) (wc := wM cI m9 sa tx th sv ln po lt fi sc nu ad rv) (wr := []) S (c_X4_holds l D (sz := s.heap.size) (cI := cI) (m9 := m9) (sa := sa) (tx := tx) (th := th) (sv := sv) (ln := ln) (po := po) (lt := lt) (fi := fi) (sc := sc) (nu := nu) (ad := ad) (rv := rv) (x := nI 2)) (cwV 1 hts gX4_add_X4_holds rfl rfl rfl (by decide +kernel) ⟨Nat.le_of_ble_eq_true rfl, Nat.le_of_ble_eq_true rfl⟩) hw hA [0, 1, 2] [] [0] rfl rfl rfl (by decide) (by decide) (by decide) 0 rfl rfl rfl hl.1 (Nat.le_of_ble_eq_true rfl) ⟨Nat.le_of_ble_eq_true rfl, Nat.le_of_ble_eq_true rfl⟩ rfl dX4_add_33 (fun r_33 u_33 H locs e_33 hw => ?_)
    have hw : Wd D A [(cI, .int)] (wM cI m9 sa tx (nI 2) sv ln po lt fi sc nu ad rv) s s.heap H locs := hw
    have e_33 : r_33 = b2 ((nI 2) = 0) := e_33
    subst e_33
    refine r_if_neB (tgt := 41) hx hb dX4_add_36 (by decide) (fun h => absurd h (by decide)) (fun _ => ?_)
    refine lv_iconst (v := nI 0) hx hb dX4_add_39 kc_iconst_0 ?_
    exact hE () dX4_add_40 (rfl) (Nat.le_of_ble_eq_true rfl) (Nat.le_of_ble_eq_true rfl) (hw.sub [0, 1, 2] [] (by decide) rfl rfl) (show nI 0 = nI 0 from rfl)
  ·
    refine lv_iload_n hx hb dX4_add_17 rfl (lv_at hl 3 rfl) ?_
    refine lv_bipush (v := (-99)) hx hb dX4_add_18 kc_bipush_m99 ?_
    refine lv_bipush (v := nI 99) hx hb dX4_add_20 kc_bipush_99 ?_
    refine cq_S (As := [.int v, .int (-99), .int (nI 99)]) (rest := [.ref (m9 0)]) S (c_X4_in l D (x := v) (lo := (-99)) (hi := nI 99)) (va_cwS 3 hts gX4_add_X4_in rfl rfl rfl (by decide +kernel) ⟨Nat.le_of_ble_eq_true rfl, Nat.le_of_ble_eq_true rfl⟩) (hw.q.sub [] [] rfl rfl) rfl hl.1 (Nat.le_of_ble_eq_true rfl) ⟨Nat.le_of_ble_eq_true rfl, Nat.le_of_ble_eq_true rfl⟩ rfl dX4_add_22 (fun r_22 e_22 => ?_)
    have e_22 : r_22 = b2 (inP v (-99) (nI 99)) := e_22
    subst e_22
    refine r_if_neB (tgt := 32) hx hb dX4_add_25 (by decide) (fun c_25 => ?_) (fun c_25 => ?_)
    ·
      exact absurd c_25 (hv.resolve_left c_14)
    ·
      refine lv_iconst (v := nI 2) hx hb dX4_add_28 kc_iconst_2 ?_
      refine lv_goto (tgt := 33) hx hb dX4_add_29 (by decide) ?_
      refine cu_Vi (As := [.int (nI 2)]) (rest := []) (wc := wM cI m9 sa tx th sv ln po lt fi sc nu ad rv) (wr := []) S (c_X4_holds l D (sz := s.heap.size) (cI := cI) (m9 := m9) (sa := sa) (tx := tx) (th := th) (sv := sv) (ln := ln) (po := po) (lt := lt) (fi := fi) (sc := sc) (nu := nu) (ad := ad) (rv := rv) (x := nI 2)) (cwV 1 hts gX4_add_X4_holds rfl rfl rfl (by decide +kernel) ⟨Nat.le_of_ble_eq_true rfl, Nat.le_of_ble_eq_true rfl⟩) hw hA [0, 1, 2] [] [0] rfl rfl rfl (by decide) (by decide) (by decide) 0 rfl rfl rfl hl.1 (Nat.le_of_ble_eq_true rfl) ⟨Nat.le_of_ble_eq_true rfl, Nat.le_of_ble_eq_true rfl⟩ rfl dX4_add_33 (fun r_33 u_33 H locs e_33 hw => ?_)
      have hw : Wd D A [(cI, .int)] (wM cI m9 sa tx (nI 2) sv ln po lt fi sc nu ad rv) s s.heap H locs := hw
      have e_33 : r_33 = b2 ((nI 2) = 0) := e_33
      subst e_33
      refine r_if_neB (tgt := 41) hx hb dX4_add_36 (by decide) (fun h => absurd h (by decide)) (fun _ => ?_)
      refine lv_iconst (v := nI 0) hx hb dX4_add_39 kc_iconst_0 ?_
      exact hE () dX4_add_40 (rfl) (Nat.le_of_ble_eq_true rfl) (Nat.le_of_ble_eq_true rfl) (hw.sub [0, 1, 2] [] (by decide) rfl rfl) (show nI 0 = nI 0 from rfl)
abbrev rmX4_include_v : Room := { frames := 3, cells := 0, slots := 0, locals := 72 }
set_option maxHeartbeats 4000000 in
set_option maxRecDepth 100000 in
theorem c_X4_include_v (l : Launch) (D : va_G) (sz : Nat) (cI : ClassId) (m9 : Nat → Nat) (sa : Nat → Int32) (tx : Nat → Nat) (th : Int32) (sv ln po : Nat) (lt fi sc nu : Int32) (ad rv : Nat) (r w c9 : Nat) (hr : r < 4) (hw5 : w < 6) (hc : c9 < 16) (hsv : sv ≤ 6) : MUi l yX4_include wsX4_include rmX4_include_v [.ref (m9 0), .int (nI r), .int (nI w), .int (nI c9)] D [(cI, .int)] (wM cI m9 sa tx th sv ln po lt fi sc nu ad rv) sz (fun rz (_ : Unit) => rz = nI (cntG (fun j9 => bgM (kpM sa sv) r (888 + 4 * (16 * (6 * r + w) + c9) + j9)) 4)) (fun _ => []) (fun _ => wM cI m9 (incM (kpM sa sv) r w c9) tx (nI 0) (kpN sv) ln po lt fi sc nu ad rv) 0 0 := by
  refine met_u (own := RX4) (cc := cX4_include) (maxL := 4) (ty := .int) (by decide) rfl rfl (Nat.le_of_ble_eq_true rfl) ?_
  intro p e s m args below meth c Q A hsz S hw hA hE ls hl
  obtain ⟨hx, hb, hml, hown, hts⟩ := id S
  have hl : lv_has ls 4 [(0, .ref (m9 0)), (1, .int (nI r)), (2, .int (nI w)), (3, .int (nI c9))] := hl
  refine lv_aload_n hx hb dX4_include_0 rfl (lv_at hl 0 rfl) ?_
  refine lv_iload_n hx hb dX4_include_1 rfl (lv_at hl 1 rfl) ?_
  refine lv_iload_n hx hb dX4_include_2 rfl (lv_at hl 2 rfl) ?_
  refine cq_S (As := [.int (nI r), .int (nI w)]) (rest := [.ref (m9 0)]) S (c_X4_isRow l D (x := nI r) (y := nI w)) (va_cwS 2 hts gX4_include_X4_isRow rfl rfl rfl (by decide +kernel) ⟨Nat.le_of_ble_eq_true rfl, Nat.le_of_ble_eq_true rfl⟩) (hw.q.sub [] [] rfl rfl) rfl hl.1 (Nat.le_of_ble_eq_true rfl) ⟨Nat.le_of_ble_eq_true rfl, Nat.le_of_ble_eq_true rfl⟩ rfl dX4_include_3 (fun r_3 e_3 => ?_)
  have e_3 : r_3 = b2 (inP (nI r) (nI 0) (nI 3) ∧ inP (nI w) (nI 0) (nI 5)) := e_3
  subst e_3
  refine r_if_neB (tgt := 13) hx hb dX4_include_6 (by decide) (fun _ => ?_) (fun h => absurd (rowP_n hr hw5) h)
  refine lv_iload_n hx hb dX4_include_13 rfl (lv_at hl 3 rfl) ?_
  refine lv_iconst (v := nI 0) hx hb dX4_include_14 kc_iconst_0 ?_
  refine lv_bipush (v := nI 15) hx hb dX4_include_15 kc_bipush_15 ?_
  refine cq_S (As := [.int (nI c9), .int (nI 0), .int (nI 15)]) (rest := [.ref (m9 0)]) S (c_X4_in l D (x := nI c9) (lo := nI 0) (hi := nI 15)) (va_cwS 3 hts gX4_include_X4_in rfl rfl rfl (by decide +kernel) ⟨Nat.le_of_ble_eq_true rfl, Nat.le_of_ble_eq_true rfl⟩) (hw.q.sub [] [] rfl rfl) rfl hl.1 (Nat.le_of_ble_eq_true rfl) ⟨Nat.le_of_ble_eq_true rfl, Nat.le_of_ble_eq_true rfl⟩ rfl dX4_include_17 (fun r_17 e_17 => ?_)
  have e_17 : r_17 = b2 (inP (nI c9) (nI 0) (nI 15)) := e_17
  subst e_17
  refine r_if_neB (tgt := 27) hx hb dX4_include_20 (by decide) (fun _ => ?_) (fun h => absurd (inP_n (Nat.zero_le _) (by omega) (by decide)) h)
  refine lv_iconst (v := nI 0) hx hb dX4_include_27 kc_iconst_0 ?_
  refine cu_Vi (As := [.int (nI 0)]) (rest := []) (wc := wM cI m9 sa tx th sv ln po lt fi sc nu ad rv) (wr := []) S (c_X4_holds l D (sz := s.heap.size) (cI := cI) (m9 := m9) (sa := sa) (tx := tx) (th := th) (sv := sv) (ln := ln) (po := po) (lt := lt) (fi := fi) (sc := sc) (nu := nu) (ad := ad) (rv := rv) (x := nI 0)) (cwV 1 hts gX4_include_X4_holds rfl rfl rfl (by decide +kernel) ⟨Nat.le_of_ble_eq_true rfl, Nat.le_of_ble_eq_true rfl⟩) hw hA [0, 1, 2] [] [0] rfl rfl rfl (by decide) (by decide) (by decide) 0 rfl rfl rfl hl.1 (Nat.le_of_ble_eq_true rfl) ⟨Nat.le_of_ble_eq_true rfl, Nat.le_of_ble_eq_true rfl⟩ rfl dX4_include_28 (fun r_28 u_28 H locs e_28 hw => ?_)
  have hw : Wd D A [(cI, .int)] (wM cI m9 sa tx (nI 0) sv ln po lt fi sc nu ad rv) s s.heap H locs := hw
  have e_28 : r_28 = b2 ((nI 0) = 0) := e_28
  subst e_28
  refine r_if_neB (tgt := 36) hx hb dX4_include_31 (by decide) (fun _ => ?_) (fun h => absurd (rfl) h)
  refine lv_aload_n hx hb dX4_include_36 rfl (lv_at hl 0 rfl) ?_
  refine cu_Vv (As := []) (rest := []) (wc := wM cI m9 sa tx (nI 0) sv ln po lt fi sc nu ad rv) (wr := []) S (c_X4_keeps l D (sz := H.size) (cI := cI) (m9 := m9) (sa := sa) (tx := tx) (th := (nI 0)) (sv := sv) (ln := ln) (po := po) (lt := lt) (fi := fi) (sc := sc) (nu := nu) (ad := ad) (rv := rv) (hsv := by omega)) (cwV 0 hts gX4_include_X4_keeps rfl rfl rfl (by decide +kernel) ⟨Nat.le_of_ble_eq_true rfl, Nat.le_of_ble_eq_true rfl⟩) hw hA [0, 1, 2] [] [0] rfl rfl rfl (by decide) (by decide) (by decide) 0 rfl rfl rfl hl.1 (Nat.le_of_ble_eq_true rfl) ⟨Nat.le_of_ble_eq_true rfl, Nat.le_of_ble_eq_true rfl⟩ rfl dX4_include_37 (fun u_37 H locs e_37 hw => ?_)
  have hw : Wd D A [(cI, .int)] (wM cI m9 (kpM sa sv) tx (nI 0) (sv + (if sv < 6 then 1 else 0)) ln po lt fi sc nu ad rv) s s.heap H locs := hw
  refine lv_aload_n hx hb dX4_include_40 rfl (lv_at hl 0 rfl) ?_
  refine lv_iload_n hx hb dX4_include_41 rfl (lv_at hl 1 rfl) ?_
  refine lv_iload_n hx hb dX4_include_42 rfl (lv_at hl 2 rfl) ?_
  refine lv_iload_n hx hb dX4_include_43 rfl (lv_at hl 3 rfl) ?_
  refine cu_Vi (As := [.int (nI r), .int (nI w), .int (nI c9)]) (rest := []) (wc := wM cI m9 (kpM sa sv) tx (nI 0) (sv + (if sv < 6 then 1 else 0)) ln po lt fi sc nu ad rv) (wr := []) S (c_X4_includes l D (sz := H.size) (cI := cI) (m9 := m9) (sa := kpM sa sv) (tx := tx) (th := (nI 0)) (sv := sv + (if sv < 6 then 1 else 0)) (ln := ln) (po := po) (lt := lt) (fi := fi) (sc := sc) (nu := nu) (ad := ad) (rv := rv) (r := r) (w := w) (c9 := c9) (hr := by omega) (hw5 := by omega) (hc := by omega)) (cwV 3 hts gX4_include_X4_includes rfl rfl rfl (by decide +kernel) ⟨Nat.le_of_ble_eq_true rfl, Nat.le_of_ble_eq_true rfl⟩) hw hA [0, 1, 2] [] [0] rfl rfl rfl (by decide) (by decide) (by decide) 0 rfl rfl rfl hl.1 (Nat.le_of_ble_eq_true rfl) ⟨Nat.le_of_ble_eq_true rfl, Nat.le_of_ble_eq_true rfl⟩ rfl dX4_include_44 (fun r_44 u_44 H locs e_44 hw => ?_)
  have hw : Wd D A [(cI, .int)] (wM cI m9 (incM (kpM sa sv) r w c9) tx (nI 0) (sv + (if sv < 6 then 1 else 0)) ln po lt fi sc nu ad rv) s s.heap H locs := hw
  have e_44 : r_44 = nI (cntG (fun j9 => bgM (kpM sa sv) r (888 + 4 * (16 * (6 * r + w) + c9) + j9)) 4) := e_44
  subst e_44
  exact hE () dX4_include_47 (rfl) (Nat.le_of_ble_eq_true rfl) (Nat.le_of_ble_eq_true rfl) (hw.sub [0, 1, 2] [] (by decide) rfl rfl) (show nI (cntG (fun j9 => bgM (kpM sa sv) r (888 + 4 * (16 * (6 * r + w) + c9) + j9)) 4) = nI (cntG (fun j9 => bgM (kpM sa sv) r (888 + 4 * (16 * (6 * r + w) + c9) + j9)) 4) from rfl)
abbrev rmX4_include_e1 : Room := { frames := 3, cells := 0, slots := 0, locals := 63 }
set_option maxHeartbeats 4000000 in
set_option maxRecDepth 100000 in
theorem c_X4_include_e1 (l : Launch) (D : va_G) (sz : Nat) (cI : ClassId) (m9 : Nat → Nat) (sa : Nat → Int32) (tx : Nat → Nat) (th : Int32) (sv ln po : Nat) (lt fi sc nu : Int32) (ad rv : Nat) (p0 p1 p2 : Int32) (hv : ¬ (inP p0 (nI 0) (nI 3) ∧ inP p1 (nI 0) (nI 5))) : MUi l yX4_include wsX4_include rmX4_include_e1 [.ref (m9 0), .int p0, .int p1, .int p2] D [(cI, .int)] (wM cI m9 sa tx th sv ln po lt fi sc nu ad rv) sz (fun rz (_ : Unit) => rz = nI 0) (fun _ => []) (fun _ => wM cI m9 sa tx (nI 1) sv ln po lt fi sc nu ad rv) 0 0 := by
  refine met_u (own := RX4) (cc := cX4_include) (maxL := 4) (ty := .int) (by decide) rfl rfl (Nat.le_of_ble_eq_true rfl) ?_
  intro p e s m args below meth c Q A hsz S hw hA hE ls hl
  obtain ⟨hx, hb, hml, hown, hts⟩ := id S
  have hl : lv_has ls 4 [(0, .ref (m9 0)), (1, .int p0), (2, .int p1), (3, .int p2)] := hl
  refine lv_aload_n hx hb dX4_include_0 rfl (lv_at hl 0 rfl) ?_
  refine lv_iload_n hx hb dX4_include_1 rfl (lv_at hl 1 rfl) ?_
  refine lv_iload_n hx hb dX4_include_2 rfl (lv_at hl 2 rfl) ?_
  refine cq_S (As := [.int p0, .int p1]) (rest := [.ref (m9 0)]) S (c_X4_isRow l D (x := p0) (y := p1)) (va_cwS 2 hts gX4_include_X4_isRow rfl rfl rfl (by decide +kernel) ⟨Nat.le_of_ble_eq_true rfl, Nat.le_of_ble_eq_true rfl⟩) (hw.q.sub [] [] rfl rfl) rfl hl.1 (Nat.le_of_ble_eq_true rfl) ⟨Nat.le_of_ble_eq_true rfl, Nat.le_of_ble_eq_true rfl⟩ rfl dX4_include_3 (fun r_3 e_3 => ?_)
  have e_3 : r_3 = b2 (inP p0 (nI 0) (nI 3) ∧ inP p1 (nI 0) (nI 5)) := e_3
  subst e_3
  refine r_if_neB (tgt := 13) hx hb dX4_include_6 (by decide) (fun h => absurd h (hv)) (fun _ => ?_)
  refine lv_iconst (v := nI 1) hx hb dX4_include_9 kc_iconst_1 ?_
  refine lv_goto (tgt := 28) hx hb dX4_include_10 (by decide) ?_
  refine cu_Vi (As := [.int (nI 1)]) (rest := []) (wc := wM cI m9 sa tx th sv ln po lt fi sc nu ad rv) (wr := []) S (c_X4_holds l D (sz := s.heap.size) (cI := cI) (m9 := m9) (sa := sa) (tx := tx) (th := th) (sv := sv) (ln := ln) (po := po) (lt := lt) (fi := fi) (sc := sc) (nu := nu) (ad := ad) (rv := rv) (x := nI 1)) (cwV 1 hts gX4_include_X4_holds rfl rfl rfl (by decide +kernel) ⟨Nat.le_of_ble_eq_true rfl, Nat.le_of_ble_eq_true rfl⟩) hw hA [0, 1, 2] [] [0] rfl rfl rfl (by decide) (by decide) (by decide) 0 rfl rfl rfl hl.1 (Nat.le_of_ble_eq_true rfl) ⟨Nat.le_of_ble_eq_true rfl, Nat.le_of_ble_eq_true rfl⟩ rfl dX4_include_28 (fun r_28 u_28 H locs e_28 hw => ?_)
  have hw : Wd D A [(cI, .int)] (wM cI m9 sa tx (nI 1) sv ln po lt fi sc nu ad rv) s s.heap H locs := hw
  have e_28 : r_28 = b2 ((nI 1) = 0) := e_28
  subst e_28
  refine r_if_neB (tgt := 36) hx hb dX4_include_31 (by decide) (fun h => absurd h (by decide)) (fun _ => ?_)
  refine lv_iconst (v := nI 0) hx hb dX4_include_34 kc_iconst_0 ?_
  exact hE () dX4_include_35 (rfl) (Nat.le_of_ble_eq_true rfl) (Nat.le_of_ble_eq_true rfl) (hw.sub [0, 1, 2] [] (by decide) rfl rfl) (show nI 0 = nI 0 from rfl)
abbrev rmX4_include_e2 : Room := { frames := 3, cells := 0, slots := 0, locals := 63 }
set_option maxHeartbeats 4000000 in
set_option maxRecDepth 100000 in
theorem c_X4_include_e2 (l : Launch) (D : va_G) (sz : Nat) (cI : ClassId) (m9 : Nat → Nat) (sa : Nat → Int32) (tx : Nat → Nat) (th : Int32) (sv ln po : Nat) (lt fi sc nu : Int32) (ad rv : Nat) (r w : Nat) (p2 : Int32) (hr : r < 4) (hw5 : w < 6) (hv : ¬ inP p2 (nI 0) (nI 15)) : MUi l yX4_include wsX4_include rmX4_include_e2 [.ref (m9 0), .int (nI r), .int (nI w), .int p2] D [(cI, .int)] (wM cI m9 sa tx th sv ln po lt fi sc nu ad rv) sz (fun rz (_ : Unit) => rz = nI 0) (fun _ => []) (fun _ => wM cI m9 sa tx (nI 2) sv ln po lt fi sc nu ad rv) 0 0 := by
  refine met_u (own := RX4) (cc := cX4_include) (maxL := 4) (ty := .int) (by decide) rfl rfl (Nat.le_of_ble_eq_true rfl) ?_
  intro p e s m args below meth c Q A hsz S hw hA hE ls hl
  obtain ⟨hx, hb, hml, hown, hts⟩ := id S
  have hl : lv_has ls 4 [(0, .ref (m9 0)), (1, .int (nI r)), (2, .int (nI w)), (3, .int p2)] := hl
  refine lv_aload_n hx hb dX4_include_0 rfl (lv_at hl 0 rfl) ?_
  refine lv_iload_n hx hb dX4_include_1 rfl (lv_at hl 1 rfl) ?_
  refine lv_iload_n hx hb dX4_include_2 rfl (lv_at hl 2 rfl) ?_
  refine cq_S (As := [.int (nI r), .int (nI w)]) (rest := [.ref (m9 0)]) S (c_X4_isRow l D (x := nI r) (y := nI w)) (va_cwS 2 hts gX4_include_X4_isRow rfl rfl rfl (by decide +kernel) ⟨Nat.le_of_ble_eq_true rfl, Nat.le_of_ble_eq_true rfl⟩) (hw.q.sub [] [] rfl rfl) rfl hl.1 (Nat.le_of_ble_eq_true rfl) ⟨Nat.le_of_ble_eq_true rfl, Nat.le_of_ble_eq_true rfl⟩ rfl dX4_include_3 (fun r_3 e_3 => ?_)
  have e_3 : r_3 = b2 (inP (nI r) (nI 0) (nI 3) ∧ inP (nI w) (nI 0) (nI 5)) := e_3
  subst e_3
  refine r_if_neB (tgt := 13) hx hb dX4_include_6 (by decide) (fun _ => ?_) (fun h => absurd (rowP_n hr hw5) h)
  refine lv_iload_n hx hb dX4_include_13 rfl (lv_at hl 3 rfl) ?_
  refine lv_iconst (v := nI 0) hx hb dX4_include_14 kc_iconst_0 ?_
  refine lv_bipush (v := nI 15) hx hb dX4_include_15 kc_bipush_15 ?_
  refine cq_S (As := [.int p2, .int (nI 0), .int (nI 15)]) (rest := [.ref (m9 0)]) S (c_X4_in l D (x := p2) (lo := nI 0) (hi := nI 15)) (va_cwS 3 hts gX4_include_X4_in rfl rfl rfl (by decide +kernel) ⟨Nat.le_of_ble_eq_true rfl, Nat.le_of_ble_eq_true rfl⟩) (hw.q.sub [] [] rfl rfl) rfl hl.1 (Nat.le_of_ble_eq_true rfl) ⟨Nat.le_of_ble_eq_true rfl, Nat.le_of_ble_eq_true rfl⟩ rfl dX4_include_17 (fun r_17 e_17 => ?_)
  have e_17 : r_17 = b2 (inP p2 (nI 0) (nI 15)) := e_17
  subst e_17
  refine r_if_neB (tgt := 27) hx hb dX4_include_20 (by decide) (fun h => absurd h (hv)) (fun _ => ?_)
  refine lv_iconst (v := nI 2) hx hb dX4_include_23 kc_iconst_2 ?_
  refine lv_goto (tgt := 28) hx hb dX4_include_24 (by decide) ?_
  refine cu_Vi (As := [.int (nI 2)]) (rest := []) (wc := wM cI m9 sa tx th sv ln po lt fi sc nu ad rv) (wr := []) S (c_X4_holds l D (sz := s.heap.size) (cI := cI) (m9 := m9) (sa := sa) (tx := tx) (th := th) (sv := sv) (ln := ln) (po := po) (lt := lt) (fi := fi) (sc := sc) (nu := nu) (ad := ad) (rv := rv) (x := nI 2)) (cwV 1 hts gX4_include_X4_holds rfl rfl rfl (by decide +kernel) ⟨Nat.le_of_ble_eq_true rfl, Nat.le_of_ble_eq_true rfl⟩) hw hA [0, 1, 2] [] [0] rfl rfl rfl (by decide) (by decide) (by decide) 0 rfl rfl rfl hl.1 (Nat.le_of_ble_eq_true rfl) ⟨Nat.le_of_ble_eq_true rfl, Nat.le_of_ble_eq_true rfl⟩ rfl dX4_include_28 (fun r_28 u_28 H locs e_28 hw => ?_)
  have hw : Wd D A [(cI, .int)] (wM cI m9 sa tx (nI 2) sv ln po lt fi sc nu ad rv) s s.heap H locs := hw
  have e_28 : r_28 = b2 ((nI 2) = 0) := e_28
  subst e_28
  refine r_if_neB (tgt := 36) hx hb dX4_include_31 (by decide) (fun h => absurd h (by decide)) (fun _ => ?_)
  refine lv_iconst (v := nI 0) hx hb dX4_include_34 kc_iconst_0 ?_
  exact hE () dX4_include_35 (rfl) (Nat.le_of_ble_eq_true rfl) (Nat.le_of_ble_eq_true rfl) (hw.sub [0, 1, 2] [] (by decide) rfl rfl) (show nI 0 = nI 0 from rfl)
abbrev rmX4_exclude_v : Room := { frames := 3, cells := 0, slots := 0, locals := 71 }
set_option maxHeartbeats 4000000 in
set_option maxRecDepth 100000 in
theorem c_X4_exclude_v (l : Launch) (D : va_G) (sz : Nat) (cI : ClassId) (m9 : Nat → Nat) (sa : Nat → Int32) (tx : Nat → Nat) (th : Int32) (sv ln po : Nat) (lt fi sc nu : Int32) (ad rv : Nat) (r w c9 : Nat) (hr : r < 4) (hw5 : w < 6) (hc : c9 < 16) (hsv : sv ≤ 6) : MUi l yX4_exclude wsX4_exclude rmX4_exclude_v [.ref (m9 0), .int (nI r), .int (nI w), .int (nI c9)] D [(cI, .int)] (wM cI m9 sa tx th sv ln po lt fi sc nu ad rv) sz (fun rz (_ : Unit) => rz = nI (cntG (fun j9 => bgM (kpM sa sv) r (888 + 4 * (16 * (6 * r + w) + c9) + j9)) 4)) (fun _ => []) (fun _ => wM cI m9 (excM (kpM sa sv) r w c9) tx (nI 0) (kpN sv) ln po lt fi sc nu ad rv) 0 0 := by
  refine met_u (own := RX4) (cc := cX4_exclude) (maxL := 4) (ty := .int) (by decide) rfl rfl (Nat.le_of_ble_eq_true rfl) ?_
  intro p e s m args below meth c Q A hsz S hw hA hE ls hl
  obtain ⟨hx, hb, hml, hown, hts⟩ := id S
  have hl : lv_has ls 4 [(0, .ref (m9 0)), (1, .int (nI r)), (2, .int (nI w)), (3, .int (nI c9))] := hl
  refine lv_aload_n hx hb dX4_exclude_0 rfl (lv_at hl 0 rfl) ?_
  refine lv_iload_n hx hb dX4_exclude_1 rfl (lv_at hl 1 rfl) ?_
  refine lv_iload_n hx hb dX4_exclude_2 rfl (lv_at hl 2 rfl) ?_
  refine cq_S (As := [.int (nI r), .int (nI w)]) (rest := [.ref (m9 0)]) S (c_X4_isRow l D (x := nI r) (y := nI w)) (va_cwS 2 hts gX4_exclude_X4_isRow rfl rfl rfl (by decide +kernel) ⟨Nat.le_of_ble_eq_true rfl, Nat.le_of_ble_eq_true rfl⟩) (hw.q.sub [] [] rfl rfl) rfl hl.1 (Nat.le_of_ble_eq_true rfl) ⟨Nat.le_of_ble_eq_true rfl, Nat.le_of_ble_eq_true rfl⟩ rfl dX4_exclude_3 (fun r_3 e_3 => ?_)
  have e_3 : r_3 = b2 (inP (nI r) (nI 0) (nI 3) ∧ inP (nI w) (nI 0) (nI 5)) := e_3
  subst e_3
  refine r_if_neB (tgt := 13) hx hb dX4_exclude_6 (by decide) (fun _ => ?_) (fun h => absurd (rowP_n hr hw5) h)
  refine lv_iload_n hx hb dX4_exclude_13 rfl (lv_at hl 3 rfl) ?_
  refine lv_iconst (v := nI 0) hx hb dX4_exclude_14 kc_iconst_0 ?_
  refine lv_bipush (v := nI 15) hx hb dX4_exclude_15 kc_bipush_15 ?_
  refine cq_S (As := [.int (nI c9), .int (nI 0), .int (nI 15)]) (rest := [.ref (m9 0)]) S (c_X4_in l D (x := nI c9) (lo := nI 0) (hi := nI 15)) (va_cwS 3 hts gX4_exclude_X4_in rfl rfl rfl (by decide +kernel) ⟨Nat.le_of_ble_eq_true rfl, Nat.le_of_ble_eq_true rfl⟩) (hw.q.sub [] [] rfl rfl) rfl hl.1 (Nat.le_of_ble_eq_true rfl) ⟨Nat.le_of_ble_eq_true rfl, Nat.le_of_ble_eq_true rfl⟩ rfl dX4_exclude_17 (fun r_17 e_17 => ?_)
  have e_17 : r_17 = b2 (inP (nI c9) (nI 0) (nI 15)) := e_17
  subst e_17
  refine r_if_neB (tgt := 27) hx hb dX4_exclude_20 (by decide) (fun _ => ?_) (fun h => absurd (inP_n (Nat.zero_le _) (by omega) (by decide)) h)
  refine lv_iconst (v := nI 0) hx hb dX4_exclude_27 kc_iconst_0 ?_
  refine cu_Vi (As := [.int (nI 0)]) (rest := []) (wc := wM cI m9 sa tx th sv ln po lt fi sc nu ad rv) (wr := []) S (c_X4_holds l D (sz := s.heap.size) (cI := cI) (m9 := m9) (sa := sa) (tx := tx) (th := th) (sv := sv) (ln := ln) (po := po) (lt := lt) (fi := fi) (sc := sc) (nu := nu) (ad := ad) (rv := rv) (x := nI 0)) (cwV 1 hts gX4_exclude_X4_holds rfl rfl rfl (by decide +kernel) ⟨Nat.le_of_ble_eq_true rfl, Nat.le_of_ble_eq_true rfl⟩) hw hA [0, 1, 2] [] [0] rfl rfl rfl (by decide) (by decide) (by decide) 0 rfl rfl rfl hl.1 (Nat.le_of_ble_eq_true rfl) ⟨Nat.le_of_ble_eq_true rfl, Nat.le_of_ble_eq_true rfl⟩ rfl dX4_exclude_28 (fun r_28 u_28 H locs e_28 hw => ?_)
  have hw : Wd D A [(cI, .int)] (wM cI m9 sa tx (nI 0) sv ln po lt fi sc nu ad rv) s s.heap H locs := hw
  have e_28 : r_28 = b2 ((nI 0) = 0) := e_28
  subst e_28
  refine r_if_neB (tgt := 36) hx hb dX4_exclude_31 (by decide) (fun _ => ?_) (fun h => absurd (rfl) h)
  refine lv_aload_n hx hb dX4_exclude_36 rfl (lv_at hl 0 rfl) ?_
  refine cu_Vv (As := []) (rest := []) (wc := wM cI m9 sa tx (nI 0) sv ln po lt fi sc nu ad rv) (wr := []) S (c_X4_keeps l D (sz := H.size) (cI := cI) (m9 := m9) (sa := sa) (tx := tx) (th := (nI 0)) (sv := sv) (ln := ln) (po := po) (lt := lt) (fi := fi) (sc := sc) (nu := nu) (ad := ad) (rv := rv) (hsv := by omega)) (cwV 0 hts gX4_exclude_X4_keeps rfl rfl rfl (by decide +kernel) ⟨Nat.le_of_ble_eq_true rfl, Nat.le_of_ble_eq_true rfl⟩) hw hA [0, 1, 2] [] [0] rfl rfl rfl (by decide) (by decide) (by decide) 0 rfl rfl rfl hl.1 (Nat.le_of_ble_eq_true rfl) ⟨Nat.le_of_ble_eq_true rfl, Nat.le_of_ble_eq_true rfl⟩ rfl dX4_exclude_37 (fun u_37 H locs e_37 hw => ?_)
  have hw : Wd D A [(cI, .int)] (wM cI m9 (kpM sa sv) tx (nI 0) (sv + (if sv < 6 then 1 else 0)) ln po lt fi sc nu ad rv) s s.heap H locs := hw
  refine lv_aload_n hx hb dX4_exclude_40 rfl (lv_at hl 0 rfl) ?_
  refine lv_iload_n hx hb dX4_exclude_41 rfl (lv_at hl 1 rfl) ?_
  refine lv_iload_n hx hb dX4_exclude_42 rfl (lv_at hl 2 rfl) ?_
  refine lv_iload_n hx hb dX4_exclude_43 rfl (lv_at hl 3 rfl) ?_
  refine cu_Vi (As := [.int (nI r), .int (nI w), .int (nI c9)]) (rest := []) (wc := wM cI m9 (kpM sa sv) tx (nI 0) (sv + (if sv < 6 then 1 else 0)) ln po lt fi sc nu ad rv) (wr := []) S (c_X4_excludes l D (sz := H.size) (cI := cI) (m9 := m9) (sa := kpM sa sv) (tx := tx) (th := (nI 0)) (sv := sv + (if sv < 6 then 1 else 0)) (ln := ln) (po := po) (lt := lt) (fi := fi) (sc := sc) (nu := nu) (ad := ad) (rv := rv) (r := r) (w := w) (c9 := c9) (hr := by omega) (hw5 := by omega) (hc := by omega)) (cwV 3 hts gX4_exclude_X4_excludes rfl rfl rfl (by decide +kernel) ⟨Nat.le_of_ble_eq_true rfl, Nat.le_of_ble_eq_true rfl⟩) hw hA [0, 1, 2] [] [0] rfl rfl rfl (by decide) (by decide) (by decide) 0 rfl rfl rfl hl.1 (Nat.le_of_ble_eq_true rfl) ⟨Nat.le_of_ble_eq_true rfl, Nat.le_of_ble_eq_true rfl⟩ rfl dX4_exclude_44 (fun r_44 u_44 H locs e_44 hw => ?_)
  have hw : Wd D A [(cI, .int)] (wM cI m9 (excM (kpM sa sv) r w c9) tx (nI 0) (sv + (if sv < 6 then 1 else 0)) ln po lt fi sc nu ad rv) s s.heap H locs := hw
  have e_44 : r_44 = nI (cntG (fun j9 => bgM (kpM sa sv) r (888 + 4 * (16 * (6 * r + w) + c9) + j9)) 4) := e_44
  subst e_44
  exact hE () dX4_exclude_47 (rfl) (Nat.le_of_ble_eq_true rfl) (Nat.le_of_ble_eq_true rfl) (hw.sub [0, 1, 2] [] (by decide) rfl rfl) (show nI (cntG (fun j9 => bgM (kpM sa sv) r (888 + 4 * (16 * (6 * r + w) + c9) + j9)) 4) = nI (cntG (fun j9 => bgM (kpM sa sv) r (888 + 4 * (16 * (6 * r + w) + c9) + j9)) 4) from rfl)
abbrev rmX4_exclude_e1 : Room := { frames := 3, cells := 0, slots := 0, locals := 63 }
set_option maxHeartbeats 4000000 in
set_option maxRecDepth 100000 in
theorem c_X4_exclude_e1 (l : Launch) (D : va_G) (sz : Nat) (cI : ClassId) (m9 : Nat → Nat) (sa : Nat → Int32) (tx : Nat → Nat) (th : Int32) (sv ln po : Nat) (lt fi sc nu : Int32) (ad rv : Nat) (p0 p1 p2 : Int32) (hv : ¬ (inP p0 (nI 0) (nI 3) ∧ inP p1 (nI 0) (nI 5))) : MUi l yX4_exclude wsX4_exclude rmX4_exclude_e1 [.ref (m9 0), .int p0, .int p1, .int p2] D [(cI, .int)] (wM cI m9 sa tx th sv ln po lt fi sc nu ad rv) sz (fun rz (_ : Unit) => rz = nI 0) (fun _ => []) (fun _ => wM cI m9 sa tx (nI 1) sv ln po lt fi sc nu ad rv) 0 0 := by
  refine met_u (own := RX4) (cc := cX4_exclude) (maxL := 4) (ty := .int) (by decide) rfl rfl (Nat.le_of_ble_eq_true rfl) ?_
  intro p e s m args below meth c Q A hsz S hw hA hE ls hl
  obtain ⟨hx, hb, hml, hown, hts⟩ := id S
  have hl : lv_has ls 4 [(0, .ref (m9 0)), (1, .int p0), (2, .int p1), (3, .int p2)] := hl
  refine lv_aload_n hx hb dX4_exclude_0 rfl (lv_at hl 0 rfl) ?_
  refine lv_iload_n hx hb dX4_exclude_1 rfl (lv_at hl 1 rfl) ?_
  refine lv_iload_n hx hb dX4_exclude_2 rfl (lv_at hl 2 rfl) ?_
  refine cq_S (As := [.int p0, .int p1]) (rest := [.ref (m9 0)]) S (c_X4_isRow l D (x := p0) (y := p1)) (va_cwS 2 hts gX4_exclude_X4_isRow rfl rfl rfl (by decide +kernel) ⟨Nat.le_of_ble_eq_true rfl, Nat.le_of_ble_eq_true rfl⟩) (hw.q.sub [] [] rfl rfl) rfl hl.1 (Nat.le_of_ble_eq_true rfl) ⟨Nat.le_of_ble_eq_true rfl, Nat.le_of_ble_eq_true rfl⟩ rfl dX4_exclude_3 (fun r_3 e_3 => ?_)
  have e_3 : r_3 = b2 (inP p0 (nI 0) (nI 3) ∧ inP p1 (nI 0) (nI 5)) := e_3
  subst e_3
  refine r_if_neB (tgt := 13) hx hb dX4_exclude_6 (by decide) (fun h => absurd h (hv)) (fun _ => ?_)
  refine lv_iconst (v := nI 1) hx hb dX4_exclude_9 kc_iconst_1 ?_
  refine lv_goto (tgt := 28) hx hb dX4_exclude_10 (by decide) ?_
  refine cu_Vi (As := [.int (nI 1)]) (rest := []) (wc := wM cI m9 sa tx th sv ln po lt fi sc nu ad rv) (wr := []) S (c_X4_holds l D (sz := s.heap.size) (cI := cI) (m9 := m9) (sa := sa) (tx := tx) (th := th) (sv := sv) (ln := ln) (po := po) (lt := lt) (fi := fi) (sc := sc) (nu := nu) (ad := ad) (rv := rv) (x := nI 1)) (cwV 1 hts gX4_exclude_X4_holds rfl rfl rfl (by decide +kernel) ⟨Nat.le_of_ble_eq_true rfl, Nat.le_of_ble_eq_true rfl⟩) hw hA [0, 1, 2] [] [0] rfl rfl rfl (by decide) (by decide) (by decide) 0 rfl rfl rfl hl.1 (Nat.le_of_ble_eq_true rfl) ⟨Nat.le_of_ble_eq_true rfl, Nat.le_of_ble_eq_true rfl⟩ rfl dX4_exclude_28 (fun r_28 u_28 H locs e_28 hw => ?_)
  have hw : Wd D A [(cI, .int)] (wM cI m9 sa tx (nI 1) sv ln po lt fi sc nu ad rv) s s.heap H locs := hw
  have e_28 : r_28 = b2 ((nI 1) = 0) := e_28
  subst e_28
  refine r_if_neB (tgt := 36) hx hb dX4_exclude_31 (by decide) (fun h => absurd h (by decide)) (fun _ => ?_)
  refine lv_iconst (v := nI 0) hx hb dX4_exclude_34 kc_iconst_0 ?_
  exact hE () dX4_exclude_35 (rfl) (Nat.le_of_ble_eq_true rfl) (Nat.le_of_ble_eq_true rfl) (hw.sub [0, 1, 2] [] (by decide) rfl rfl) (show nI 0 = nI 0 from rfl)
abbrev rmX4_exclude_e2 : Room := { frames := 3, cells := 0, slots := 0, locals := 63 }
set_option maxHeartbeats 4000000 in
set_option maxRecDepth 100000 in
theorem c_X4_exclude_e2 (l : Launch) (D : va_G) (sz : Nat) (cI : ClassId) (m9 : Nat → Nat) (sa : Nat → Int32) (tx : Nat → Nat) (th : Int32) (sv ln po : Nat) (lt fi sc nu : Int32) (ad rv : Nat) (r w : Nat) (p2 : Int32) (hr : r < 4) (hw5 : w < 6) (hv : ¬ inP p2 (nI 0) (nI 15)) : MUi l yX4_exclude wsX4_exclude rmX4_exclude_e2 [.ref (m9 0), .int (nI r), .int (nI w), .int p2] D [(cI, .int)] (wM cI m9 sa tx th sv ln po lt fi sc nu ad rv) sz (fun rz (_ : Unit) => rz = nI 0) (fun _ => []) (fun _ => wM cI m9 sa tx (nI 2) sv ln po lt fi sc nu ad rv) 0 0 := by
  refine met_u (own := RX4) (cc := cX4_exclude) (maxL := 4) (ty := .int) (by decide) rfl rfl (Nat.le_of_ble_eq_true rfl) ?_
  intro p e s m args below meth c Q A hsz S hw hA hE ls hl
  obtain ⟨hx, hb, hml, hown, hts⟩ := id S
  have hl : lv_has ls 4 [(0, .ref (m9 0)), (1, .int (nI r)), (2, .int (nI w)), (3, .int p2)] := hl
  refine lv_aload_n hx hb dX4_exclude_0 rfl (lv_at hl 0 rfl) ?_
  refine lv_iload_n hx hb dX4_exclude_1 rfl (lv_at hl 1 rfl) ?_
  refine lv_iload_n hx hb dX4_exclude_2 rfl (lv_at hl 2 rfl) ?_
  refine cq_S (As := [.int (nI r), .int (nI w)]) (rest := [.ref (m9 0)]) S (c_X4_isRow l D (x := nI r) (y := nI w)) (va_cwS 2 hts gX4_exclude_X4_isRow rfl rfl rfl (by decide +kernel) ⟨Nat.le_of_ble_eq_true rfl, Nat.le_of_ble_eq_true rfl⟩) (hw.q.sub [] [] rfl rfl) rfl hl.1 (Nat.le_of_ble_eq_true rfl) ⟨Nat.le_of_ble_eq_true rfl, Nat.le_of_ble_eq_true rfl⟩ rfl dX4_exclude_3 (fun r_3 e_3 => ?_)
  have e_3 : r_3 = b2 (inP (nI r) (nI 0) (nI 3) ∧ inP (nI w) (nI 0) (nI 5)) := e_3
  subst e_3
  refine r_if_neB (tgt := 13) hx hb dX4_exclude_6 (by decide) (fun _ => ?_) (fun h => absurd (rowP_n hr hw5) h)
  refine lv_iload_n hx hb dX4_exclude_13 rfl (lv_at hl 3 rfl) ?_
  refine lv_iconst (v := nI 0) hx hb dX4_exclude_14 kc_iconst_0 ?_
  refine lv_bipush (v := nI 15) hx hb dX4_exclude_15 kc_bipush_15 ?_
  refine cq_S (As := [.int p2, .int (nI 0), .int (nI 15)]) (rest := [.ref (m9 0)]) S (c_X4_in l D (x := p2) (lo := nI 0) (hi := nI 15)) (va_cwS 3 hts gX4_exclude_X4_in rfl rfl rfl (by decide +kernel) ⟨Nat.le_of_ble_eq_true rfl, Nat.le_of_ble_eq_true rfl⟩) (hw.q.sub [] [] rfl rfl) rfl hl.1 (Nat.le_of_ble_eq_true rfl) ⟨Nat.le_of_ble_eq_true rfl, Nat.le_of_ble_eq_true rfl⟩ rfl dX4_exclude_17 (fun r_17 e_17 => ?_)
  have e_17 : r_17 = b2 (inP p2 (nI 0) (nI 15)) := e_17
  subst e_17
  refine r_if_neB (tgt := 27) hx hb dX4_exclude_20 (by decide) (fun h => absurd h (hv)) (fun _ => ?_)
  refine lv_iconst (v := nI 2) hx hb dX4_exclude_23 kc_iconst_2 ?_
  refine lv_goto (tgt := 28) hx hb dX4_exclude_24 (by decide) ?_
  refine cu_Vi (As := [.int (nI 2)]) (rest := []) (wc := wM cI m9 sa tx th sv ln po lt fi sc nu ad rv) (wr := []) S (c_X4_holds l D (sz := s.heap.size) (cI := cI) (m9 := m9) (sa := sa) (tx := tx) (th := th) (sv := sv) (ln := ln) (po := po) (lt := lt) (fi := fi) (sc := sc) (nu := nu) (ad := ad) (rv := rv) (x := nI 2)) (cwV 1 hts gX4_exclude_X4_holds rfl rfl rfl (by decide +kernel) ⟨Nat.le_of_ble_eq_true rfl, Nat.le_of_ble_eq_true rfl⟩) hw hA [0, 1, 2] [] [0] rfl rfl rfl (by decide) (by decide) (by decide) 0 rfl rfl rfl hl.1 (Nat.le_of_ble_eq_true rfl) ⟨Nat.le_of_ble_eq_true rfl, Nat.le_of_ble_eq_true rfl⟩ rfl dX4_exclude_28 (fun r_28 u_28 H locs e_28 hw => ?_)
  have hw : Wd D A [(cI, .int)] (wM cI m9 sa tx (nI 2) sv ln po lt fi sc nu ad rv) s s.heap H locs := hw
  have e_28 : r_28 = b2 ((nI 2) = 0) := e_28
  subst e_28
  refine r_if_neB (tgt := 36) hx hb dX4_exclude_31 (by decide) (fun h => absurd h (by decide)) (fun _ => ?_)
  refine lv_iconst (v := nI 0) hx hb dX4_exclude_34 kc_iconst_0 ?_
  exact hE () dX4_exclude_35 (rfl) (Nat.le_of_ble_eq_true rfl) (Nat.le_of_ble_eq_true rfl) (hw.sub [0, 1, 2] [] (by decide) rfl rfl) (show nI 0 = nI 0 from rfl)
abbrev rmX4_delete_v : Room := { frames := 4, cells := 0, slots := 0, locals := 96 }
set_option maxHeartbeats 4000000 in
set_option maxRecDepth 100000 in
theorem c_X4_delete_v (l : Launch) (D : va_G) (sz : Nat) (cI : ClassId) (m9 : Nat → Nat) (sa : Nat → Int32) (tx : Nat → Nat) (th : Int32) (sv ln po : Nat) (lt fi sc nu : Int32) (ad rv : Nat) (r w : Nat) (hr : r < 4) (hw5 : w < 6) (hsv : sv ≤ 6) : MUi l yX4_delete wsX4_delete rmX4_delete_v [.ref (m9 0), .int (nI r), .int (nI w)] D [(cI, .int)] (wM cI m9 sa tx th sv ln po lt fi sc nu ad rv) sz (fun rz (_ : Unit) => rz = nI (dcA (bgM (kpM sa sv) r) r w 4 + dcB (dlA (bgM (kpM sa sv) r) r w 4) r w 16)) (fun _ => []) (fun _ => wM cI m9 (delM (kpM sa sv) r w) tx (nI 0) (kpN sv) ln po lt fi sc nu ad rv) 0 0 := by
  refine met_u (own := RX4) (cc := cX4_delete) (maxL := 3) (ty := .int) (by decide) rfl rfl (Nat.le_of_ble_eq_true rfl) ?_
  intro p e s m args below meth c Q A hsz S hw hA hE ls hl
  obtain ⟨hx, hb, hml, hown, hts⟩ := id S
  have hl : lv_has ls 3 [(0, .ref (m9 0)), (1, .int (nI r)), (2, .int (nI w))] := hl
  refine lv_aload_n hx hb dX4_delete_0 rfl (lv_at hl 0 rfl) ?_
  refine lv_iload_n hx hb dX4_delete_1 rfl (lv_at hl 1 rfl) ?_
  refine lv_iload_n hx hb dX4_delete_2 rfl (lv_at hl 2 rfl) ?_
  refine cq_S (As := [.int (nI r), .int (nI w)]) (rest := [.ref (m9 0)]) S (c_X4_isRow l D (x := nI r) (y := nI w)) (va_cwS 2 hts gX4_delete_X4_isRow rfl rfl rfl (by decide +kernel) ⟨Nat.le_of_ble_eq_true rfl, Nat.le_of_ble_eq_true rfl⟩) (hw.q.sub [] [] rfl rfl) rfl hl.1 (Nat.le_of_ble_eq_true rfl) ⟨Nat.le_of_ble_eq_true rfl, Nat.le_of_ble_eq_true rfl⟩ rfl dX4_delete_3 (fun r_3 e_3 => ?_)
  have e_3 : r_3 = b2 (inP (nI r) (nI 0) (nI 3) ∧ inP (nI w) (nI 0) (nI 5)) := e_3
  subst e_3
  refine r_if_eqB (tgt := 13) hx hb dX4_delete_6 (by decide) (fun h => absurd (rowP_n hr hw5) h) (fun _ => ?_)
  refine lv_iconst (v := nI 0) hx hb dX4_delete_9 kc_iconst_0 ?_
  refine lv_goto (tgt := 14) hx hb dX4_delete_10 (by decide) ?_
  refine cu_Vi (As := [.int (nI 0)]) (rest := []) (wc := wM cI m9 sa tx th sv ln po lt fi sc nu ad rv) (wr := []) S (c_X4_holds l D (sz := s.heap.size) (cI := cI) (m9 := m9) (sa := sa) (tx := tx) (th := th) (sv := sv) (ln := ln) (po := po) (lt := lt) (fi := fi) (sc := sc) (nu := nu) (ad := ad) (rv := rv) (x := nI 0)) (cwV 1 hts gX4_delete_X4_holds rfl rfl rfl (by decide +kernel) ⟨Nat.le_of_ble_eq_true rfl, Nat.le_of_ble_eq_true rfl⟩) hw hA [0, 1, 2] [] [0] rfl rfl rfl (by decide) (by decide) (by decide) 0 rfl rfl rfl hl.1 (Nat.le_of_ble_eq_true rfl) ⟨Nat.le_of_ble_eq_true rfl, Nat.le_of_ble_eq_true rfl⟩ rfl dX4_delete_14 (fun r_14 u_14 H locs e_14 hw => ?_)
  have hw : Wd D A [(cI, .int)] (wM cI m9 sa tx (nI 0) sv ln po lt fi sc nu ad rv) s s.heap H locs := hw
  have e_14 : r_14 = b2 ((nI 0) = 0) := e_14
  subst e_14
  refine r_if_neB (tgt := 22) hx hb dX4_delete_17 (by decide) (fun _ => ?_) (fun h => absurd (rfl) h)
  refine lv_aload_n hx hb dX4_delete_22 rfl (lv_at hl 0 rfl) ?_
  refine cu_Vv (As := []) (rest := []) (wc := wM cI m9 sa tx (nI 0) sv ln po lt fi sc nu ad rv) (wr := []) S (c_X4_keeps l D (sz := H.size) (cI := cI) (m9 := m9) (sa := sa) (tx := tx) (th := (nI 0)) (sv := sv) (ln := ln) (po := po) (lt := lt) (fi := fi) (sc := sc) (nu := nu) (ad := ad) (rv := rv) (hsv := by omega)) (cwV 0 hts gX4_delete_X4_keeps rfl rfl rfl (by decide +kernel) ⟨Nat.le_of_ble_eq_true rfl, Nat.le_of_ble_eq_true rfl⟩) hw hA [0, 1, 2] [] [0] rfl rfl rfl (by decide) (by decide) (by decide) 0 rfl rfl rfl hl.1 (Nat.le_of_ble_eq_true rfl) ⟨Nat.le_of_ble_eq_true rfl, Nat.le_of_ble_eq_true rfl⟩ rfl dX4_delete_23 (fun u_23 H locs e_23 hw => ?_)
  have hw : Wd D A [(cI, .int)] (wM cI m9 (kpM sa sv) tx (nI 0) (sv + (if sv < 6 then 1 else 0)) ln po lt fi sc nu ad rv) s s.heap H locs := hw
  refine lv_aload_n hx hb dX4_delete_26 rfl (lv_at hl 0 rfl) ?_
  refine lv_iload_n hx hb dX4_delete_27 rfl (lv_at hl 1 rfl) ?_
  refine lv_iload_n hx hb dX4_delete_28 rfl (lv_at hl 2 rfl) ?_
  refine cu_Vi (As := [.int (nI r), .int (nI w)]) (rest := []) (wc := wM cI m9 (kpM sa sv) tx (nI 0) (sv + (if sv < 6 then 1 else 0)) ln po lt fi sc nu ad rv) (wr := []) S (c_X4_deletes l D (sz := H.size) (cI := cI) (m9 := m9) (sa := kpM sa sv) (tx := tx) (th := (nI 0)) (sv := sv + (if sv < 6 then 1 else 0)) (ln := ln) (po := po) (lt := lt) (fi := fi) (sc := sc) (nu := nu) (ad := ad) (rv := rv) (r := r) (w := w) (hr := by omega) (hw5 := by omega)) (cwV 2 hts gX4_delete_X4_deletes rfl rfl rfl (by decide +kernel) ⟨Nat.le_of_ble_eq_true rfl, Nat.le_of_ble_eq_true rfl⟩) hw hA [0, 1, 2] [] [0] rfl rfl rfl (by decide) (by decide) (by decide) 0 rfl rfl rfl hl.1 (Nat.le_of_ble_eq_true rfl) ⟨Nat.le_of_ble_eq_true rfl, Nat.le_of_ble_eq_true rfl⟩ rfl dX4_delete_29 (fun r_29 u_29 H locs e_29 hw => ?_)
  have hw : Wd D A [(cI, .int)] (wM cI m9 (delM (kpM sa sv) r w) tx (nI 0) (sv + (if sv < 6 then 1 else 0)) ln po lt fi sc nu ad rv) s s.heap H locs := hw
  have e_29 : r_29 = nI (dcA (bgM (kpM sa sv) r) r w 4 + dcB (dlA (bgM (kpM sa sv) r) r w 4) r w 16) := e_29
  subst e_29
  exact hE () dX4_delete_32 (rfl) (Nat.le_of_ble_eq_true rfl) (Nat.le_of_ble_eq_true rfl) (hw.sub [0, 1, 2] [] (by decide) rfl rfl) (show nI (dcA (bgM (kpM sa sv) r) r w 4 + dcB (dlA (bgM (kpM sa sv) r) r w 4) r w 16) = nI (dcA (bgM (kpM sa sv) r) r w 4 + dcB (dlA (bgM (kpM sa sv) r) r w 4) r w 16) from rfl)
abbrev rmX4_delete_e1 : Room := { frames := 3, cells := 0, slots := 0, locals := 63 }
set_option maxHeartbeats 4000000 in
set_option maxRecDepth 100000 in
theorem c_X4_delete_e1 (l : Launch) (D : va_G) (sz : Nat) (cI : ClassId) (m9 : Nat → Nat) (sa : Nat → Int32) (tx : Nat → Nat) (th : Int32) (sv ln po : Nat) (lt fi sc nu : Int32) (ad rv : Nat) (p0 p1 : Int32) (hv : ¬ (inP p0 (nI 0) (nI 3) ∧ inP p1 (nI 0) (nI 5))) : MUi l yX4_delete wsX4_delete rmX4_delete_e1 [.ref (m9 0), .int p0, .int p1] D [(cI, .int)] (wM cI m9 sa tx th sv ln po lt fi sc nu ad rv) sz (fun rz (_ : Unit) => rz = nI 0) (fun _ => []) (fun _ => wM cI m9 sa tx (nI 1) sv ln po lt fi sc nu ad rv) 0 0 := by
  refine met_u (own := RX4) (cc := cX4_delete) (maxL := 3) (ty := .int) (by decide) rfl rfl (Nat.le_of_ble_eq_true rfl) ?_
  intro p e s m args below meth c Q A hsz S hw hA hE ls hl
  obtain ⟨hx, hb, hml, hown, hts⟩ := id S
  have hl : lv_has ls 3 [(0, .ref (m9 0)), (1, .int p0), (2, .int p1)] := hl
  refine lv_aload_n hx hb dX4_delete_0 rfl (lv_at hl 0 rfl) ?_
  refine lv_iload_n hx hb dX4_delete_1 rfl (lv_at hl 1 rfl) ?_
  refine lv_iload_n hx hb dX4_delete_2 rfl (lv_at hl 2 rfl) ?_
  refine cq_S (As := [.int p0, .int p1]) (rest := [.ref (m9 0)]) S (c_X4_isRow l D (x := p0) (y := p1)) (va_cwS 2 hts gX4_delete_X4_isRow rfl rfl rfl (by decide +kernel) ⟨Nat.le_of_ble_eq_true rfl, Nat.le_of_ble_eq_true rfl⟩) (hw.q.sub [] [] rfl rfl) rfl hl.1 (Nat.le_of_ble_eq_true rfl) ⟨Nat.le_of_ble_eq_true rfl, Nat.le_of_ble_eq_true rfl⟩ rfl dX4_delete_3 (fun r_3 e_3 => ?_)
  have e_3 : r_3 = b2 (inP p0 (nI 0) (nI 3) ∧ inP p1 (nI 0) (nI 5)) := e_3
  subst e_3
  refine r_if_eqB (tgt := 13) hx hb dX4_delete_6 (by decide) (fun _ => ?_) (fun h => absurd h (hv))
  refine lv_iconst (v := nI 1) hx hb dX4_delete_13 kc_iconst_1 ?_
  refine cu_Vi (As := [.int (nI 1)]) (rest := []) (wc := wM cI m9 sa tx th sv ln po lt fi sc nu ad rv) (wr := []) S (c_X4_holds l D (sz := s.heap.size) (cI := cI) (m9 := m9) (sa := sa) (tx := tx) (th := th) (sv := sv) (ln := ln) (po := po) (lt := lt) (fi := fi) (sc := sc) (nu := nu) (ad := ad) (rv := rv) (x := nI 1)) (cwV 1 hts gX4_delete_X4_holds rfl rfl rfl (by decide +kernel) ⟨Nat.le_of_ble_eq_true rfl, Nat.le_of_ble_eq_true rfl⟩) hw hA [0, 1, 2] [] [0] rfl rfl rfl (by decide) (by decide) (by decide) 0 rfl rfl rfl hl.1 (Nat.le_of_ble_eq_true rfl) ⟨Nat.le_of_ble_eq_true rfl, Nat.le_of_ble_eq_true rfl⟩ rfl dX4_delete_14 (fun r_14 u_14 H locs e_14 hw => ?_)
  have hw : Wd D A [(cI, .int)] (wM cI m9 sa tx (nI 1) sv ln po lt fi sc nu ad rv) s s.heap H locs := hw
  have e_14 : r_14 = b2 ((nI 1) = 0) := e_14
  subst e_14
  refine r_if_neB (tgt := 22) hx hb dX4_delete_17 (by decide) (fun h => absurd h (by decide)) (fun _ => ?_)
  refine lv_iconst (v := nI 0) hx hb dX4_delete_20 kc_iconst_0 ?_
  exact hE () dX4_delete_21 (rfl) (Nat.le_of_ble_eq_true rfl) (Nat.le_of_ble_eq_true rfl) (hw.sub [0, 1, 2] [] (by decide) rfl rfl) (show nI 0 = nI 0 from rfl)
abbrev rmX4_merge_v : Room := { frames := 5, cells := 0, slots := 0, locals := 124 }
set_option maxHeartbeats 4000000 in
set_option maxRecDepth 100000 in
theorem c_X4_merge_v (l : Launch) (D : va_G) (sz : Nat) (cI : ClassId) (m9 : Nat → Nat) (sa : Nat → Int32) (tx : Nat → Nat) (th : Int32) (sv ln po : Nat) (lt fi sc nu : Int32) (ad rv : Nat) (f t : Nat) (hf4 : f < 4) (ht4 : t < 4) (hne : f ≠ t) (hsv : sv ≤ 6) : MUi l yX4_merge wsX4_merge rmX4_merge_v [.ref (m9 0), .int (nI f), .int (nI t)] D [(cI, .int)] (wM cI m9 sa tx th sv ln po lt fi sc nu ad rv) sz (fun rz (_ : Unit) => rz = nI ((lkM true (kpM sa sv) f t).2.1 + (lkM true (kpM sa sv) f t).2.2)) (fun _ => []) (fun _ => wM cI m9 (mgM (kpM sa sv) f t) tx (nI 0) (kpN sv) ln po lt fi sc nu ((lkM true (kpM sa sv) f t).2.1) ((lkM true (kpM sa sv) f t).2.2)) 0 0 := by
  refine met_u (own := RX4) (cc := cX4_merge) (maxL := 3) (ty := .int) (by decide) rfl rfl (Nat.le_of_ble_eq_true rfl) ?_
  intro p e s m args below meth c Q A hsz S hw hA hE ls hl
  obtain ⟨hx, hb, hml, hown, hts⟩ := id S
  have hl : lv_has ls 3 [(0, .ref (m9 0)), (1, .int (nI f)), (2, .int (nI t))] := hl
  refine lv_aload_n hx hb dX4_merge_0 rfl (lv_at hl 0 rfl) ?_
  refine lv_iload_n hx hb dX4_merge_1 rfl (lv_at hl 1 rfl) ?_
  refine cq_S (As := [.int (nI f)]) (rest := [.ref (m9 0)]) S (c_X4_isReplica l D (x := nI f)) (va_cwS 1 hts gX4_merge_X4_isReplica rfl rfl rfl (by decide +kernel) ⟨Nat.le_of_ble_eq_true rfl, Nat.le_of_ble_eq_true rfl⟩) (hw.q.sub [] [] rfl rfl) rfl hl.1 (Nat.le_of_ble_eq_true rfl) ⟨Nat.le_of_ble_eq_true rfl, Nat.le_of_ble_eq_true rfl⟩ rfl dX4_merge_2 (fun r_2 e_2 => ?_)
  have e_2 : r_2 = b2 (inP (nI f) (nI 0) (nI 3)) := e_2
  subst e_2
  refine r_if_eqB (tgt := 15) hx hb dX4_merge_5 (by decide) (fun h => absurd (repP_n hf4) h) (fun _ => ?_)
  refine lv_iload_n hx hb dX4_merge_8 rfl (lv_at hl 2 rfl) ?_
  refine cq_S (As := [.int (nI t)]) (rest := [.ref (m9 0)]) S (c_X4_isReplica l D (x := nI t)) (va_cwS 1 hts gX4_merge_X4_isReplica rfl rfl rfl (by decide +kernel) ⟨Nat.le_of_ble_eq_true rfl, Nat.le_of_ble_eq_true rfl⟩) (hw.q.sub [] [] rfl rfl) rfl hl.1 (Nat.le_of_ble_eq_true rfl) ⟨Nat.le_of_ble_eq_true rfl, Nat.le_of_ble_eq_true rfl⟩ rfl dX4_merge_9 (fun r_9 e_9 => ?_)
  have e_9 : r_9 = b2 (inP (nI t) (nI 0) (nI 3)) := e_9
  subst e_9
  refine r_if_neB (tgt := 19) hx hb dX4_merge_12 (by decide) (fun _ => ?_) (fun h => absurd (repP_n ht4) h)
  refine lv_iload_n hx hb dX4_merge_19 rfl (lv_at hl 1 rfl) ?_
  refine lv_iload_n hx hb dX4_merge_20 rfl (lv_at hl 2 rfl) ?_
  refine r_icmp_neN (tgt := 28) hx hb (by omega) (by omega) dX4_merge_21 (by decide) (fun c_21 => ?_) (fun c_21 => ?_)
  ·
    refine lv_iconst (v := nI 0) hx hb dX4_merge_28 kc_iconst_0 ?_
    refine cu_Vi (As := [.int (nI 0)]) (rest := []) (wc := wM cI m9 sa tx th sv ln po lt fi sc nu ad rv) (wr := []) S (c_X4_holds l D (sz := s.heap.size) (cI := cI) (m9 := m9) (sa := sa) (tx := tx) (th := th) (sv := sv) (ln := ln) (po := po) (lt := lt) (fi := fi) (sc := sc) (nu := nu) (ad := ad) (rv := rv) (x := nI 0)) (cwV 1 hts gX4_merge_X4_holds rfl rfl rfl (by decide +kernel) ⟨Nat.le_of_ble_eq_true rfl, Nat.le_of_ble_eq_true rfl⟩) hw hA [0, 1, 2] [] [0] rfl rfl rfl (by decide) (by decide) (by decide) 0 rfl rfl rfl hl.1 (Nat.le_of_ble_eq_true rfl) ⟨Nat.le_of_ble_eq_true rfl, Nat.le_of_ble_eq_true rfl⟩ rfl dX4_merge_29 (fun r_29 u_29 H locs e_29 hw => ?_)
    have hw : Wd D A [(cI, .int)] (wM cI m9 sa tx (nI 0) sv ln po lt fi sc nu ad rv) s s.heap H locs := hw
    have e_29 : r_29 = b2 ((nI 0) = 0) := e_29
    subst e_29
    refine r_if_neB (tgt := 37) hx hb dX4_merge_32 (by decide) (fun _ => ?_) (fun h => absurd (rfl) h)
    refine lv_aload_n hx hb dX4_merge_37 rfl (lv_at hl 0 rfl) ?_
    refine cu_Vv (As := []) (rest := []) (wc := wM cI m9 sa tx (nI 0) sv ln po lt fi sc nu ad rv) (wr := []) S (c_X4_keeps l D (sz := H.size) (cI := cI) (m9 := m9) (sa := sa) (tx := tx) (th := (nI 0)) (sv := sv) (ln := ln) (po := po) (lt := lt) (fi := fi) (sc := sc) (nu := nu) (ad := ad) (rv := rv) (hsv := by omega)) (cwV 0 hts gX4_merge_X4_keeps rfl rfl rfl (by decide +kernel) ⟨Nat.le_of_ble_eq_true rfl, Nat.le_of_ble_eq_true rfl⟩) hw hA [0, 1, 2] [] [0] rfl rfl rfl (by decide) (by decide) (by decide) 0 rfl rfl rfl hl.1 (Nat.le_of_ble_eq_true rfl) ⟨Nat.le_of_ble_eq_true rfl, Nat.le_of_ble_eq_true rfl⟩ rfl dX4_merge_38 (fun u_38 H locs e_38 hw => ?_)
    have hw : Wd D A [(cI, .int)] (wM cI m9 (kpM sa sv) tx (nI 0) (sv + (if sv < 6 then 1 else 0)) ln po lt fi sc nu ad rv) s s.heap H locs := hw
    refine lv_aload_n hx hb dX4_merge_41 rfl (lv_at hl 0 rfl) ?_
    refine lv_iload_n hx hb dX4_merge_42 rfl (lv_at hl 1 rfl) ?_
    refine lv_iload_n hx hb dX4_merge_43 rfl (lv_at hl 2 rfl) ?_
    refine cu_Vi (As := [.int (nI f), .int (nI t)]) (rest := []) (wc := wM cI m9 (kpM sa sv) tx (nI 0) (sv + (if sv < 6 then 1 else 0)) ln po lt fi sc nu ad rv) (wr := []) S (c_X4_merges l D (sz := H.size) (cI := cI) (m9 := m9) (sa := kpM sa sv) (tx := tx) (th := (nI 0)) (sv := sv + (if sv < 6 then 1 else 0)) (ln := ln) (po := po) (lt := lt) (fi := fi) (sc := sc) (nu := nu) (ad := ad) (rv := rv) (f := f) (t := t) (hf4 := by omega) (ht4 := by omega)) (cwV 2 hts gX4_merge_X4_merges rfl rfl rfl (by decide +kernel) ⟨Nat.le_of_ble_eq_true rfl, Nat.le_of_ble_eq_true rfl⟩) hw hA [0, 1, 2] [] [0] rfl rfl rfl (by decide) (by decide) (by decide) 0 rfl rfl rfl hl.1 (Nat.le_of_ble_eq_true rfl) ⟨Nat.le_of_ble_eq_true rfl, Nat.le_of_ble_eq_true rfl⟩ rfl dX4_merge_44 (fun r_44 u_44 H locs e_44 hw => ?_)
    have hw : Wd D A [(cI, .int)] (wM cI m9 (mgM (kpM sa sv) f t) tx (nI 0) (sv + (if sv < 6 then 1 else 0)) ln po lt fi sc nu ((lkM true (kpM sa sv) f t).2.1) ((lkM true (kpM sa sv) f t).2.2)) s s.heap H locs := hw
    have e_44 : r_44 = nI ((lkM true (kpM sa sv) f t).2.1 + (lkM true (kpM sa sv) f t).2.2) := e_44
    subst e_44
    exact hE () dX4_merge_47 (rfl) (Nat.le_of_ble_eq_true rfl) (Nat.le_of_ble_eq_true rfl) (hw.sub [0, 1, 2] [] (by decide) rfl rfl) (show nI ((lkM true (kpM sa sv) f t).2.1 + (lkM true (kpM sa sv) f t).2.2) = nI ((lkM true (kpM sa sv) f t).2.1 + (lkM true (kpM sa sv) f t).2.2) from rfl)
  ·
    exact absurd c_21 hne
abbrev rmX4_merge_e1 : Room := { frames := 2, cells := 0, slots := 0, locals := 42 }
set_option maxHeartbeats 4000000 in
set_option maxRecDepth 100000 in
theorem c_X4_merge_e1 (l : Launch) (D : va_G) (sz : Nat) (cI : ClassId) (m9 : Nat → Nat) (sa : Nat → Int32) (tx : Nat → Nat) (th : Int32) (sv ln po : Nat) (lt fi sc nu : Int32) (ad rv : Nat) (p0 p1 : Int32) (hv : ¬ (inP p0 (nI 0) (nI 3) ∧ inP p1 (nI 0) (nI 3))) : MUi l yX4_merge wsX4_merge rmX4_merge_e1 [.ref (m9 0), .int p0, .int p1] D [(cI, .int)] (wM cI m9 sa tx th sv ln po lt fi sc nu ad rv) sz (fun rz (_ : Unit) => rz = nI 0) (fun _ => []) (fun _ => wM cI m9 sa tx (nI 1) sv ln po lt fi sc nu ad rv) 0 0 := by
  refine met_u (own := RX4) (cc := cX4_merge) (maxL := 3) (ty := .int) (by decide) rfl rfl (Nat.le_of_ble_eq_true rfl) ?_
  intro p e s m args below meth c Q A hsz S hw hA hE ls hl
  obtain ⟨hx, hb, hml, hown, hts⟩ := id S
  have hl : lv_has ls 3 [(0, .ref (m9 0)), (1, .int p0), (2, .int p1)] := hl
  refine lv_aload_n hx hb dX4_merge_0 rfl (lv_at hl 0 rfl) ?_
  refine lv_iload_n hx hb dX4_merge_1 rfl (lv_at hl 1 rfl) ?_
  refine cq_S (As := [.int p0]) (rest := [.ref (m9 0)]) S (c_X4_isReplica l D (x := p0)) (va_cwS 1 hts gX4_merge_X4_isReplica rfl rfl rfl (by decide +kernel) ⟨Nat.le_of_ble_eq_true rfl, Nat.le_of_ble_eq_true rfl⟩) (hw.q.sub [] [] rfl rfl) rfl hl.1 (Nat.le_of_ble_eq_true rfl) ⟨Nat.le_of_ble_eq_true rfl, Nat.le_of_ble_eq_true rfl⟩ rfl dX4_merge_2 (fun r_2 e_2 => ?_)
  have e_2 : r_2 = b2 (inP p0 (nI 0) (nI 3)) := e_2
  subst e_2
  refine r_if_eqB (tgt := 15) hx hb dX4_merge_5 (by decide) (fun c_5 => ?_) (fun c_5 => ?_)
  ·
    refine lv_iconst (v := nI 1) hx hb dX4_merge_15 kc_iconst_1 ?_
    refine lv_goto (tgt := 29) hx hb dX4_merge_16 (by decide) ?_
    refine cu_Vi (As := [.int (nI 1)]) (rest := []) (wc := wM cI m9 sa tx th sv ln po lt fi sc nu ad rv) (wr := []) S (c_X4_holds l D (sz := s.heap.size) (cI := cI) (m9 := m9) (sa := sa) (tx := tx) (th := th) (sv := sv) (ln := ln) (po := po) (lt := lt) (fi := fi) (sc := sc) (nu := nu) (ad := ad) (rv := rv) (x := nI 1)) (cwV 1 hts gX4_merge_X4_holds rfl rfl rfl (by decide +kernel) ⟨Nat.le_of_ble_eq_true rfl, Nat.le_of_ble_eq_true rfl⟩) hw hA [0, 1, 2] [] [0] rfl rfl rfl (by decide) (by decide) (by decide) 0 rfl rfl rfl hl.1 (Nat.le_of_ble_eq_true rfl) ⟨Nat.le_of_ble_eq_true rfl, Nat.le_of_ble_eq_true rfl⟩ rfl dX4_merge_29 (fun r_29 u_29 H locs e_29 hw => ?_)
    have hw : Wd D A [(cI, .int)] (wM cI m9 sa tx (nI 1) sv ln po lt fi sc nu ad rv) s s.heap H locs := hw
    have e_29 : r_29 = b2 ((nI 1) = 0) := e_29
    subst e_29
    refine r_if_neB (tgt := 37) hx hb dX4_merge_32 (by decide) (fun h => absurd h (by decide)) (fun _ => ?_)
    refine lv_iconst (v := nI 0) hx hb dX4_merge_35 kc_iconst_0 ?_
    exact hE () dX4_merge_36 (rfl) (Nat.le_of_ble_eq_true rfl) (Nat.le_of_ble_eq_true rfl) (hw.sub [0, 1, 2] [] (by decide) rfl rfl) (show nI 0 = nI 0 from rfl)
  ·
    refine lv_iload_n hx hb dX4_merge_8 rfl (lv_at hl 2 rfl) ?_
    refine cq_S (As := [.int p1]) (rest := [.ref (m9 0)]) S (c_X4_isReplica l D (x := p1)) (va_cwS 1 hts gX4_merge_X4_isReplica rfl rfl rfl (by decide +kernel) ⟨Nat.le_of_ble_eq_true rfl, Nat.le_of_ble_eq_true rfl⟩) (hw.q.sub [] [] rfl rfl) rfl hl.1 (Nat.le_of_ble_eq_true rfl) ⟨Nat.le_of_ble_eq_true rfl, Nat.le_of_ble_eq_true rfl⟩ rfl dX4_merge_9 (fun r_9 e_9 => ?_)
    have e_9 : r_9 = b2 (inP p1 (nI 0) (nI 3)) := e_9
    subst e_9
    refine r_if_neB (tgt := 19) hx hb dX4_merge_12 (by decide) (fun c_12 => ?_) (fun c_12 => ?_)
    ·
      exact absurd ⟨c_5, c_12⟩ hv
    ·
      refine lv_iconst (v := nI 1) hx hb dX4_merge_15 kc_iconst_1 ?_
      refine lv_goto (tgt := 29) hx hb dX4_merge_16 (by decide) ?_
      refine cu_Vi (As := [.int (nI 1)]) (rest := []) (wc := wM cI m9 sa tx th sv ln po lt fi sc nu ad rv) (wr := []) S (c_X4_holds l D (sz := s.heap.size) (cI := cI) (m9 := m9) (sa := sa) (tx := tx) (th := th) (sv := sv) (ln := ln) (po := po) (lt := lt) (fi := fi) (sc := sc) (nu := nu) (ad := ad) (rv := rv) (x := nI 1)) (cwV 1 hts gX4_merge_X4_holds rfl rfl rfl (by decide +kernel) ⟨Nat.le_of_ble_eq_true rfl, Nat.le_of_ble_eq_true rfl⟩) hw hA [0, 1, 2] [] [0] rfl rfl rfl (by decide) (by decide) (by decide) 0 rfl rfl rfl hl.1 (Nat.le_of_ble_eq_true rfl) ⟨Nat.le_of_ble_eq_true rfl, Nat.le_of_ble_eq_true rfl⟩ rfl dX4_merge_29 (fun r_29 u_29 H locs e_29 hw => ?_)
      have hw : Wd D A [(cI, .int)] (wM cI m9 sa tx (nI 1) sv ln po lt fi sc nu ad rv) s s.heap H locs := hw
      have e_29 : r_29 = b2 ((nI 1) = 0) := e_29
      subst e_29
      refine r_if_neB (tgt := 37) hx hb dX4_merge_32 (by decide) (fun h => absurd h (by decide)) (fun _ => ?_)
      refine lv_iconst (v := nI 0) hx hb dX4_merge_35 kc_iconst_0 ?_
      exact hE () dX4_merge_36 (rfl) (Nat.le_of_ble_eq_true rfl) (Nat.le_of_ble_eq_true rfl) (hw.sub [0, 1, 2] [] (by decide) rfl rfl) (show nI 0 = nI 0 from rfl)
abbrev rmX4_merge_e2 : Room := { frames := 2, cells := 0, slots := 0, locals := 42 }
set_option maxHeartbeats 4000000 in
set_option maxRecDepth 100000 in
theorem c_X4_merge_e2 (l : Launch) (D : va_G) (sz : Nat) (cI : ClassId) (m9 : Nat → Nat) (sa : Nat → Int32) (tx : Nat → Nat) (th : Int32) (sv ln po : Nat) (lt fi sc nu : Int32) (ad rv : Nat) (f : Nat) (hf4 : f < 4) : MUi l yX4_merge wsX4_merge rmX4_merge_e2 [.ref (m9 0), .int (nI f), .int (nI f)] D [(cI, .int)] (wM cI m9 sa tx th sv ln po lt fi sc nu ad rv) sz (fun rz (_ : Unit) => rz = nI 0) (fun _ => []) (fun _ => wM cI m9 sa tx (nI 2) sv ln po lt fi sc nu ad rv) 0 0 := by
  refine met_u (own := RX4) (cc := cX4_merge) (maxL := 3) (ty := .int) (by decide) rfl rfl (Nat.le_of_ble_eq_true rfl) ?_
  intro p e s m args below meth c Q A hsz S hw hA hE ls hl
  obtain ⟨hx, hb, hml, hown, hts⟩ := id S
  have hl : lv_has ls 3 [(0, .ref (m9 0)), (1, .int (nI f)), (2, .int (nI f))] := hl
  refine lv_aload_n hx hb dX4_merge_0 rfl (lv_at hl 0 rfl) ?_
  refine lv_iload_n hx hb dX4_merge_1 rfl (lv_at hl 1 rfl) ?_
  refine cq_S (As := [.int (nI f)]) (rest := [.ref (m9 0)]) S (c_X4_isReplica l D (x := nI f)) (va_cwS 1 hts gX4_merge_X4_isReplica rfl rfl rfl (by decide +kernel) ⟨Nat.le_of_ble_eq_true rfl, Nat.le_of_ble_eq_true rfl⟩) (hw.q.sub [] [] rfl rfl) rfl hl.1 (Nat.le_of_ble_eq_true rfl) ⟨Nat.le_of_ble_eq_true rfl, Nat.le_of_ble_eq_true rfl⟩ rfl dX4_merge_2 (fun r_2 e_2 => ?_)
  have e_2 : r_2 = b2 (inP (nI f) (nI 0) (nI 3)) := e_2
  subst e_2
  refine r_if_eqB (tgt := 15) hx hb dX4_merge_5 (by decide) (fun h => absurd (repP_n hf4) h) (fun _ => ?_)
  refine lv_iload_n hx hb dX4_merge_8 rfl (lv_at hl 2 rfl) ?_
  refine cq_S (As := [.int (nI f)]) (rest := [.ref (m9 0)]) S (c_X4_isReplica l D (x := nI f)) (va_cwS 1 hts gX4_merge_X4_isReplica rfl rfl rfl (by decide +kernel) ⟨Nat.le_of_ble_eq_true rfl, Nat.le_of_ble_eq_true rfl⟩) (hw.q.sub [] [] rfl rfl) rfl hl.1 (Nat.le_of_ble_eq_true rfl) ⟨Nat.le_of_ble_eq_true rfl, Nat.le_of_ble_eq_true rfl⟩ rfl dX4_merge_9 (fun r_9 e_9 => ?_)
  have e_9 : r_9 = b2 (inP (nI f) (nI 0) (nI 3)) := e_9
  subst e_9
  refine r_if_neB (tgt := 19) hx hb dX4_merge_12 (by decide) (fun _ => ?_) (fun h => absurd (repP_n hf4) h)
  refine lv_iload_n hx hb dX4_merge_19 rfl (lv_at hl 1 rfl) ?_
  refine lv_iload_n hx hb dX4_merge_20 rfl (lv_at hl 2 rfl) ?_
  refine r_icmp_neN (tgt := 28) hx hb (by omega) (by omega) dX4_merge_21 (by decide) (fun c_21 => ?_) (fun c_21 => ?_)
  ·
    exact absurd rfl c_21
  ·
    refine lv_iconst (v := nI 2) hx hb dX4_merge_24 kc_iconst_2 ?_
    refine lv_goto (tgt := 29) hx hb dX4_merge_25 (by decide) ?_
    refine cu_Vi (As := [.int (nI 2)]) (rest := []) (wc := wM cI m9 sa tx th sv ln po lt fi sc nu ad rv) (wr := []) S (c_X4_holds l D (sz := s.heap.size) (cI := cI) (m9 := m9) (sa := sa) (tx := tx) (th := th) (sv := sv) (ln := ln) (po := po) (lt := lt) (fi := fi) (sc := sc) (nu := nu) (ad := ad) (rv := rv) (x := nI 2)) (cwV 1 hts gX4_merge_X4_holds rfl rfl rfl (by decide +kernel) ⟨Nat.le_of_ble_eq_true rfl, Nat.le_of_ble_eq_true rfl⟩) hw hA [0, 1, 2] [] [0] rfl rfl rfl (by decide) (by decide) (by decide) 0 rfl rfl rfl hl.1 (Nat.le_of_ble_eq_true rfl) ⟨Nat.le_of_ble_eq_true rfl, Nat.le_of_ble_eq_true rfl⟩ rfl dX4_merge_29 (fun r_29 u_29 H locs e_29 hw => ?_)
    have hw : Wd D A [(cI, .int)] (wM cI m9 sa tx (nI 2) sv ln po lt fi sc nu ad rv) s s.heap H locs := hw
    have e_29 : r_29 = b2 ((nI 2) = 0) := e_29
    subst e_29
    refine r_if_neB (tgt := 37) hx hb dX4_merge_32 (by decide) (fun h => absurd h (by decide)) (fun _ => ?_)
    refine lv_iconst (v := nI 0) hx hb dX4_merge_35 kc_iconst_0 ?_
    exact hE () dX4_merge_36 (rfl) (Nat.le_of_ble_eq_true rfl) (Nat.le_of_ble_eq_true rfl) (hw.sub [0, 1, 2] [] (by decide) rfl rfl) (show nI 0 = nI 0 from rfl)
abbrev rmX4_mergeAll : Room := { frames := 5, cells := 0, slots := 0, locals := 124 }
set_option maxHeartbeats 4000000 in
set_option maxRecDepth 100000 in
theorem c_X4_mergeAll (l : Launch) (D : va_G) (sz : Nat) (cI : ClassId) (m9 : Nat → Nat) (sa : Nat → Int32) (tx : Nat → Nat) (th : Int32) (sv ln po : Nat) (lt fi sc nu : Int32) (ad rv : Nat)  (hsv : sv ≤ 6) : MUi l yX4_mergeAll wsX4_mergeAll rmX4_mergeAll [.ref (m9 0)] D [(cI, .int)] (wM cI m9 sa tx th sv ln po lt fi sc nu ad rv) sz (fun rz (_ : Unit) => rz = nI (maN (kpM sa sv) 6)) (fun _ => []) (fun _ => wM cI m9 (maM (kpM sa sv) 6) tx (nI 0) (kpN sv) ln po lt fi sc nu ((maR (kpM sa sv) (ad, rv) 6).1) ((maR (kpM sa sv) (ad, rv) 6).2)) 0 0 := by
  refine met_u (own := RX4) (cc := cX4_mergeAll) (maxL := 5) (ty := .int) (by decide) rfl rfl (Nat.le_of_ble_eq_true rfl) ?_
  intro p e s m args below meth c Q A hsz S hw hA hE ls hl
  obtain ⟨hx, hb, hml, hown, hts⟩ := id S
  have k16 := hts (.fieldLink RX4 16 "CausalTableModel" "thrown" "I") (by decide +kernel)
  have hin4 := (show ∀ w ∈ wsX40, w ∈ wsX4_mergeAll by decide +kernel)
  have hl : lv_has ls 5 [(0, .ref (m9 0))] := hl
  refine lv_aload_n hx hb dX4_mergeAll_0 rfl (lv_at hl 0 rfl) ?_
  refine lv_iconst (v := nI 0) hx hb dX4_mergeAll_1 kc_iconst_0 ?_
  refine r_put hx hb hts hown hw 0 0 (ty := .int) tyX4 tyX4_ok nmX4 hin4 rfl rfl (by decide) k16 rfl (by decide +kernel) rfl rfl (Nat.le_of_ble_eq_true rfl) dX4_mergeAll_2 (fun H locs hw => ?_)
  have hw : Wd D A [(cI, .int)] (wM cI m9 sa tx (nI 0) sv ln po lt fi sc nu ad rv) s s.heap H locs := hw
  refine lv_aload_n hx hb dX4_mergeAll_5 rfl (lv_at hl 0 rfl) ?_
  refine cu_Vv (As := []) (rest := []) (wc := wM cI m9 sa tx (nI 0) sv ln po lt fi sc nu ad rv) (wr := []) S (c_X4_keeps l D (sz := H.size) (cI := cI) (m9 := m9) (sa := sa) (tx := tx) (th := nI 0) (sv := sv) (ln := ln) (po := po) (lt := lt) (fi := fi) (sc := sc) (nu := nu) (ad := ad) (rv := rv) (hsv := by omega)) (cwV 0 hts gX4_mergeAll_X4_keeps rfl rfl rfl (by decide +kernel) ⟨Nat.le_of_ble_eq_true rfl, Nat.le_of_ble_eq_true rfl⟩) hw hA [0, 1, 2] [] [0] rfl rfl rfl (by decide) (by decide) (by decide) 0 rfl rfl rfl hl.1 (Nat.le_of_ble_eq_true rfl) ⟨Nat.le_of_ble_eq_true rfl, Nat.le_of_ble_eq_true rfl⟩ rfl dX4_mergeAll_6 (fun u_6 H locs e_6 hw => ?_)
  have hw : Wd D A [(cI, .int)] (wM cI m9 (kpM sa sv) tx (nI 0) (sv + (if sv < 6 then 1 else 0)) ln po lt fi sc nu ad rv) s s.heap H locs := hw
  refine lv_iconst (v := nI 0) hx hb dX4_mergeAll_9 kc_iconst_0 ?_
  refine lv_istore_n (lv' := [(1, .int (nI 0)), (0, .ref (m9 0))]) hx hb dX4_mergeAll_10 rfl hl (by decide) rfl (fun ls hl => ?_)
  refine lv_iconst (v := nI 0) hx hb dX4_mergeAll_11 kc_iconst_0 ?_
  refine lv_istore_n (lv' := [(2, .int (nI 0)), (1, .int (nI 0)), (0, .ref (m9 0))]) hx hb dX4_mergeAll_12 rfl hl (by decide) rfl (fun ls hl => ?_)
  have L13_1 : ∀ (fu_2 k : Nat), k ≤ 6 → 6 - k < fu_2 → ∀ (H : Heap) (locs : List Loc), Wd D A [(cI, .int)] (wM cI m9 (maM (kpM sa sv) k) tx (nI 0) (kpN sv) ln po lt fi sc nu ((maR (kpM sa sv) (ad, rv) k).1) ((maR (kpM sa sv) (ad, rv) k).2)) s s.heap H locs → ∀ ls : Array Slot, lv_has ls 5 [(2, .int (nI k)), (1, .int (nI (maN (kpM sa sv) k))), (0, .ref (m9 0))] → W p l e rmX4_mergeAll s m args below meth c H locs 0 0 Q (F0 m 13 ls []) := by
    intro fu_2
    induction fu_2 with
    | zero => intro k _ h9; exact absurd h9 (Nat.not_lt_zero _)
    | succ fu_2 ih_13 =>
      intro k hk_13 hf_13 H locs hw ls hl
      refine lv_iload_n hx hb dX4_mergeAll_13 rfl (lv_at hl 0 rfl) ?_
      refine lv_bipush (v := nI 6) hx hb dX4_mergeAll_14 kc_bipush_6 ?_
      refine r_icmp_geN (tgt := 70) hx hb (by omega) (by omega) dX4_mergeAll_16 (by decide) (fun c_16 => ?_) (fun c_16 => ?_)
      ·
        refine lv_iload_n hx hb dX4_mergeAll_70 rfl (lv_at hl 1 rfl) ?_
        have ew : (wM cI m9 (maM (kpM sa sv) k) tx (nI 0) (kpN sv) ln po lt fi sc nu ((maR (kpM sa sv) (ad, rv) k).1) ((maR (kpM sa sv) (ad, rv) k).2)) = (wM cI m9 (maM (kpM sa sv) 6) tx (nI 0) (kpN sv) ln po lt fi sc nu ((maR (kpM sa sv) (ad, rv) 6).1) ((maR (kpM sa sv) (ad, rv) 6).2)) := by rw [show k = 6 by omega]
        rw [ew] at hw
        exact hE () dX4_mergeAll_71 (rfl) (Nat.le_of_ble_eq_true rfl) (Nat.le_of_ble_eq_true rfl) (hw.sub [0, 1, 2] [] (by decide) rfl rfl) (show nI (maN (kpM sa sv) k) = nI (maN (kpM sa sv) 6) from by rw [show k = 6 by omega])
      ·
        refine lv_iload_n hx hb dX4_mergeAll_19 rfl (lv_at hl 0 rfl) ?_
        refine lv_iconst (v := nI 3) hx hb dX4_mergeAll_20 kc_iconst_3 ?_
        have J29_3 : ∀ ls : Array Slot, lv_has ls 5 [(2, .int (nI k)), (1, .int (nI (maN (kpM sa sv) k))), (0, .ref (m9 0))] → W p l e rmX4_mergeAll s m args below meth c H locs 0 0 Q (F0 m 29 ls [.int (nI (frA k))]) := by
          intro ls hl
          have hfr : frA k < 4 := by unfold frA; split <;> omega
          refine lv_istore_n (lv' := [(3, .int (nI (frA k))), (2, .int (nI k)), (1, .int (nI (maN (kpM sa sv) k))), (0, .ref (m9 0))]) hx hb dX4_mergeAll_29 rfl hl (by decide) rfl (fun ls hl => ?_)
          refine lv_iload_n hx hb dX4_mergeAll_30 rfl (lv_at hl 1 rfl) ?_
          refine lv_iconst (v := nI 3) hx hb dX4_mergeAll_31 kc_iconst_3 ?_
          have J44_4 : ∀ ls : Array Slot, lv_has ls 5 [(3, .int (nI (frA k))), (2, .int (nI k)), (1, .int (nI (maN (kpM sa sv) k))), (0, .ref (m9 0))] → W p l e rmX4_mergeAll s m args below meth c H locs 0 0 Q (F0 m 44 ls [.int (nI (toA k))]) := by
            intro ls hl
            have hto : toA k < 4 := by unfold toA; split <;> omega
            have hlk := lkM_le true (maM (kpM sa sv) k) (frA k) (toA k)
            refine lv_istore (lv' := [(4, .int (nI (toA k))), (3, .int (nI (frA k))), (2, .int (nI k)), (1, .int (nI (maN (kpM sa sv) k))), (0, .ref (m9 0))]) hx hb dX4_mergeAll_44 hl (by decide) rfl (fun ls hl => ?_)
            refine lv_iload_n hx hb dX4_mergeAll_46 rfl (lv_at hl 3 rfl) ?_
            refine lv_aload_n hx hb dX4_mergeAll_47 rfl (lv_at hl 4 rfl) ?_
            refine lv_iload_n hx hb dX4_mergeAll_48 rfl (lv_at hl 1 rfl) ?_
            refine lv_iload hx hb dX4_mergeAll_49 (lv_at hl 0 rfl) ?_
            refine cu_Vi (As := [.int (nI (frA k)), .int (nI (toA k))]) (rest := [.int (nI (maN (kpM sa sv) k))]) (wc := wM cI m9 (maM (kpM sa sv) k) tx (nI 0) (kpN sv) ln po lt fi sc nu ((maR (kpM sa sv) (ad, rv) k).1) ((maR (kpM sa sv) (ad, rv) k).2)) (wr := []) S (c_X4_merges l D (sz := H.size) (cI := cI) (m9 := m9) (sa := maM (kpM sa sv) k) (tx := tx) (th := nI 0) (sv := kpN sv) (ln := ln) (po := po) (lt := lt) (fi := fi) (sc := sc) (nu := nu) (ad := (maR (kpM sa sv) (ad, rv) k).1) (rv := (maR (kpM sa sv) (ad, rv) k).2) (f := frA k) (t := toA k) (hf4 := by omega) (ht4 := by omega)) (cwV 2 hts gX4_mergeAll_X4_merges rfl rfl rfl (by decide +kernel) ⟨Nat.le_of_ble_eq_true rfl, Nat.le_of_ble_eq_true rfl⟩) hw hA [0, 1, 2] [] [0] rfl rfl rfl (by decide) (by decide) (by decide) 0 rfl rfl rfl hl.1 (Nat.le_of_ble_eq_true rfl) ⟨Nat.le_of_ble_eq_true rfl, Nat.le_of_ble_eq_true rfl⟩ rfl dX4_mergeAll_51 (fun r_51 u_51 H locs e_51 hw => ?_)
            have hw : Wd D A [(cI, .int)] (wM cI m9 (mgM (maM (kpM sa sv) k) (frA k) (toA k)) tx (nI 0) (kpN sv) ln po lt fi sc nu ((lkM true (maM (kpM sa sv) k) (frA k) (toA k)).2.1) ((lkM true (maM (kpM sa sv) k) (frA k) (toA k)).2.2)) s s.heap H locs := hw
            have e_51 : r_51 = nI ((lkM true (maM (kpM sa sv) k) (frA k) (toA k)).2.1 + (lkM true (maM (kpM sa sv) k) (frA k) (toA k)).2.2) := e_51
            subst e_51
            have J62_5 : ∀ ls : Array Slot, lv_has ls 5 [(4, .int (nI (toA k))), (3, .int (nI (frA k))), (2, .int (nI k)), (1, .int (nI (maN (kpM sa sv) k))), (0, .ref (m9 0))] → W p l e rmX4_mergeAll s m args below meth c H locs 0 0 Q (F0 m 62 ls [.int (nI (if (lkM true (maM (kpM sa sv) k) (frA k) (toA k)).2.1 + (lkM true (maM (kpM sa sv) k) (frA k) (toA k)).2.2 = 0 then 0 else 1)), .int (nI (maN (kpM sa sv) k))]) := by
              intro ls hl
              refine r_addN hx hb dX4_mergeAll_62 ?_
              refine lv_istore_n (lv' := [(1, .int (nI ((maN (kpM sa sv) k) + (if (lkM true (maM (kpM sa sv) k) (frA k) (toA k)).2.1 + (lkM true (maM (kpM sa sv) k) (frA k) (toA k)).2.2 = 0 then 0 else 1)))), (4, .int (nI (toA k))), (3, .int (nI (frA k))), (2, .int (nI k)), (0, .ref (m9 0))]) hx hb dX4_mergeAll_63 rfl hl (by decide) rfl (fun ls hl => ?_)
              refine lv_iinc (v := nI (k + 1)) (lv' := [(2, .int (nI (k + 1))), (1, .int (nI ((maN (kpM sa sv) k) + (if (lkM true (maM (kpM sa sv) k) (frA k) (toA k)).2.1 + (lkM true (maM (kpM sa sv) k) (frA k) (toA k)).2.2 = 0 then 0 else 1)))), (4, .int (nI (toA k))), (3, .int (nI (frA k))), (0, .ref (m9 0))]) hx hb dX4_mergeAll_64 hl (k := 3) rfl (nI_add k 1) (by decide) rfl (fun ls hl => ?_)
              refine lv_goto (tgt := 13) hx hb dX4_mergeAll_67 (by decide) ?_
              have hl : lv_has ls 5 [(2, .int (nI (k + 1))), (1, .int (nI ((maN (kpM sa sv) k) + (if (lkM true (maM (kpM sa sv) k) (frA k) (toA k)).2.1 + (lkM true (maM (kpM sa sv) k) (frA k) (toA k)).2.2 = 0 then 0 else 1)))), (0, .ref (m9 0))] := lv_sub hl [0, 1, 4] rfl
              have hl : lv_has ls 5 [(2, .int (nI (k + 1))), (1, .int (nI (maN (kpM sa sv) (k + 1)))), (0, .ref (m9 0))] := lv_rep hl 1 rfl (congrArg (fun z => Value.int (nI z)) (show (maN (kpM sa sv) k) + (if (lkM true (maM (kpM sa sv) k) (frA k) (toA k)).2.1 + (lkM true (maM (kpM sa sv) k) (frA k) (toA k)).2.2 = 0 then 0 else 1) = maN (kpM sa sv) (k + 1) from rfl))
              have hw : Wd D A [(cI, .int)] (wM cI m9 (maM (kpM sa sv) (k + 1)) tx (nI 0) (kpN sv) ln po lt fi sc nu ((lkM true (maM (kpM sa sv) k) (frA k) (toA k)).2.1) ((lkM true (maM (kpM sa sv) k) (frA k) (toA k)).2.2)) s s.heap H locs := Eq.mp (congrArg (fun z9 => Wd D A [(cI, .int)] (wM cI m9 z9 tx (nI 0) (kpN sv) ln po lt fi sc nu ((lkM true (maM (kpM sa sv) k) (frA k) (toA k)).2.1) ((lkM true (maM (kpM sa sv) k) (frA k) (toA k)).2.2)) s s.heap H locs) (show mgM (maM (kpM sa sv) k) (frA k) (toA k) = maM (kpM sa sv) (k + 1) from rfl)) hw
              have hw : Wd D A [(cI, .int)] (wM cI m9 (maM (kpM sa sv) (k + 1)) tx (nI 0) (kpN sv) ln po lt fi sc nu ((lkM true (maM (kpM sa sv) k) (frA k) (toA k)).2.1) ((lkM true (maM (kpM sa sv) k) (frA k) (toA k)).2.2)) s s.heap H locs := Eq.mp (congrArg (fun z9 => Wd D A [(cI, .int)] (wM cI m9 (maM (kpM sa sv) (k + 1)) tx z9 (kpN sv) ln po lt fi sc nu ((lkM true (maM (kpM sa sv) k) (frA k) (toA k)).2.1) ((lkM true (maM (kpM sa sv) k) (frA k) (toA k)).2.2)) s s.heap H locs) (show (nI 0) = nI 0 from by first | rfl | simp_all)) hw
              have hw : Wd D A [(cI, .int)] (wM cI m9 (maM (kpM sa sv) (k + 1)) tx (nI 0) (kpN sv) ln po lt fi sc nu ((lkM true (maM (kpM sa sv) k) (frA k) (toA k)).2.1) ((lkM true (maM (kpM sa sv) k) (frA k) (toA k)).2.2)) s s.heap H locs := Eq.mp (congrArg (fun z9 => Wd D A [(cI, .int)] (wM cI m9 (maM (kpM sa sv) (k + 1)) tx (nI 0) z9 ln po lt fi sc nu ((lkM true (maM (kpM sa sv) k) (frA k) (toA k)).2.1) ((lkM true (maM (kpM sa sv) k) (frA k) (toA k)).2.2)) s s.heap H locs) (show (kpN sv) = kpN sv from by first | rfl | simp_all)) hw
              have hw : Wd D A [(cI, .int)] (wM cI m9 (maM (kpM sa sv) (k + 1)) tx (nI 0) (kpN sv) ln po lt fi sc nu ((maR (kpM sa sv) (ad, rv) (k + 1)).1) ((lkM true (maM (kpM sa sv) k) (frA k) (toA k)).2.2)) s s.heap H locs := Eq.mp (congrArg (fun z9 => Wd D A [(cI, .int)] (wM cI m9 (maM (kpM sa sv) (k + 1)) tx (nI 0) (kpN sv) ln po lt fi sc nu z9 ((lkM true (maM (kpM sa sv) k) (frA k) (toA k)).2.2)) s s.heap H locs) (show (lkM true (maM (kpM sa sv) k) (frA k) (toA k)).2.1 = (maR (kpM sa sv) (ad, rv) (k + 1)).1 from rfl)) hw
              have hw : Wd D A [(cI, .int)] (wM cI m9 (maM (kpM sa sv) (k + 1)) tx (nI 0) (kpN sv) ln po lt fi sc nu ((maR (kpM sa sv) (ad, rv) (k + 1)).1) ((maR (kpM sa sv) (ad, rv) (k + 1)).2)) s s.heap H locs := Eq.mp (congrArg (fun z9 => Wd D A [(cI, .int)] (wM cI m9 (maM (kpM sa sv) (k + 1)) tx (nI 0) (kpN sv) ln po lt fi sc nu ((maR (kpM sa sv) (ad, rv) (k + 1)).1) z9) s s.heap H locs) (show (lkM true (maM (kpM sa sv) k) (frA k) (toA k)).2.2 = (maR (kpM sa sv) (ad, rv) (k + 1)).2 from rfl)) hw
              exact ih_13 (k + 1) (by omega) (by omega) _ _ hw ls hl
            refine r_if_leN (tgt := 61) hx hb (by omega) dX4_mergeAll_54 (by decide) (fun c_54 => ?_) (fun c_54 => ?_)
            ·
              refine lv_iconst (v := nI 0) hx hb dX4_mergeAll_61 kc_iconst_0 ?_
              have hl : lv_has ls 5 [(4, .int (nI (toA k))), (3, .int (nI (frA k))), (2, .int (nI k)), (1, .int (nI (maN (kpM sa sv) k))), (0, .ref (m9 0))] := lv_sub hl [0, 1, 2, 3, 4] rfl
              refine r_top hx (congrArg nI (show 0 = if (lkM true (maM (kpM sa sv) k) (frA k) (toA k)).2.1 + (lkM true (maM (kpM sa sv) k) (frA k) (toA k)).2.2 = 0 then 0 else 1 from by split <;> omega)) ?_
              exact J62_5 ls hl
            ·
              refine lv_iconst (v := nI 1) hx hb dX4_mergeAll_57 kc_iconst_1 ?_
              refine lv_goto (tgt := 62) hx hb dX4_mergeAll_58 (by decide) ?_
              have hl : lv_has ls 5 [(4, .int (nI (toA k))), (3, .int (nI (frA k))), (2, .int (nI k)), (1, .int (nI (maN (kpM sa sv) k))), (0, .ref (m9 0))] := lv_sub hl [0, 1, 2, 3, 4] rfl
              refine r_top hx (congrArg nI (show 1 = if (lkM true (maM (kpM sa sv) k) (frA k) (toA k)).2.1 + (lkM true (maM (kpM sa sv) k) (frA k) (toA k)).2.2 = 0 then 0 else 1 from by split <;> omega)) ?_
              exact J62_5 ls hl
          refine r_icmp_geN (tgt := 41) hx hb (by omega) (by omega) dX4_mergeAll_32 (by decide) (fun c_32 => ?_) (fun c_32 => ?_)
          ·
            refine lv_iconst (v := nI 5) hx hb dX4_mergeAll_41 kc_iconst_5 ?_
            refine lv_iload_n hx hb dX4_mergeAll_42 rfl (lv_at hl 1 rfl) ?_
            refine r_subN hx hb (by omega) dX4_mergeAll_43 ?_
            have hl : lv_has ls 5 [(3, .int (nI (frA k))), (2, .int (nI k)), (1, .int (nI (maN (kpM sa sv) k))), (0, .ref (m9 0))] := lv_sub hl [0, 1, 2, 3] rfl
            refine r_top hx (congrArg nI (show 5 - k = toA k from by first | exact (if_pos c_32).symm | exact (if_neg (Nat.not_lt.mpr c_32)).symm)) ?_
            exact J44_4 ls hl
          ·
            refine lv_iload_n hx hb dX4_mergeAll_35 rfl (lv_at hl 1 rfl) ?_
            refine lv_iconst (v := nI 1) hx hb dX4_mergeAll_36 kc_iconst_1 ?_
            refine r_addN hx hb dX4_mergeAll_37 ?_
            refine lv_goto (tgt := 44) hx hb dX4_mergeAll_38 (by decide) ?_
            have hl : lv_has ls 5 [(3, .int (nI (frA k))), (2, .int (nI k)), (1, .int (nI (maN (kpM sa sv) k))), (0, .ref (m9 0))] := lv_sub hl [0, 1, 2, 3] rfl
            refine r_top hx (congrArg nI (show k + 1 = toA k from by first | exact (if_pos c_32).symm | exact (if_neg (Nat.not_lt.mpr c_32)).symm)) ?_
            exact J44_4 ls hl
        refine r_icmp_geN (tgt := 28) hx hb (by omega) (by omega) dX4_mergeAll_21 (by decide) (fun c_21 => ?_) (fun c_21 => ?_)
        ·
          refine lv_iconst (v := nI 3) hx hb dX4_mergeAll_28 kc_iconst_3 ?_
          have hl : lv_has ls 5 [(2, .int (nI k)), (1, .int (nI (maN (kpM sa sv) k))), (0, .ref (m9 0))] := lv_sub hl [0, 1, 2] rfl
          refine r_top hx (congrArg nI (show 3 = frA k from by first | exact (if_pos c_21).symm | exact (if_neg (Nat.not_lt.mpr c_21)).symm)) ?_
          exact J29_3 ls hl
        ·
          refine lv_iload_n hx hb dX4_mergeAll_24 rfl (lv_at hl 0 rfl) ?_
          refine lv_goto (tgt := 29) hx hb dX4_mergeAll_25 (by decide) ?_
          have hl : lv_has ls 5 [(2, .int (nI k)), (1, .int (nI (maN (kpM sa sv) k))), (0, .ref (m9 0))] := lv_sub hl [0, 1, 2] rfl
          refine r_top hx (congrArg nI (show k = frA k from by first | exact (if_pos c_21).symm | exact (if_neg (Nat.not_lt.mpr c_21)).symm)) ?_
          exact J29_3 ls hl
  have hl : lv_has ls 5 [(2, .int (nI 0)), (1, .int (nI 0)), (0, .ref (m9 0))] := lv_sub hl [0, 1, 2] rfl
  have hl : lv_has ls 5 [(2, .int (nI 0)), (1, .int (nI (maN (kpM sa sv) 0))), (0, .ref (m9 0))] := lv_rep hl 1 rfl (congrArg (fun z => Value.int (nI z)) (show 0 = maN (kpM sa sv) 0 from rfl))
  have hw : Wd D A [(cI, .int)] (wM cI m9 (maM (kpM sa sv) 0) tx (nI 0) (sv + (if sv < 6 then 1 else 0)) ln po lt fi sc nu ad rv) s s.heap H locs := Eq.mp (congrArg (fun z9 => Wd D A [(cI, .int)] (wM cI m9 z9 tx (nI 0) (sv + (if sv < 6 then 1 else 0)) ln po lt fi sc nu ad rv) s s.heap H locs) (show kpM sa sv = maM (kpM sa sv) 0 from rfl)) hw
  have hw : Wd D A [(cI, .int)] (wM cI m9 (maM (kpM sa sv) 0) tx (nI 0) (sv + (if sv < 6 then 1 else 0)) ln po lt fi sc nu ad rv) s s.heap H locs := Eq.mp (congrArg (fun z9 => Wd D A [(cI, .int)] (wM cI m9 (maM (kpM sa sv) 0) tx z9 (sv + (if sv < 6 then 1 else 0)) ln po lt fi sc nu ad rv) s s.heap H locs) (show (nI 0) = nI 0 from by first | rfl | simp_all)) hw
  have hw : Wd D A [(cI, .int)] (wM cI m9 (maM (kpM sa sv) 0) tx (nI 0) (kpN sv) ln po lt fi sc nu ad rv) s s.heap H locs := Eq.mp (congrArg (fun z9 => Wd D A [(cI, .int)] (wM cI m9 (maM (kpM sa sv) 0) tx (nI 0) z9 ln po lt fi sc nu ad rv) s s.heap H locs) (show sv + (if sv < 6 then 1 else 0) = kpN sv from by first | rfl | simp_all)) hw
  have hw : Wd D A [(cI, .int)] (wM cI m9 (maM (kpM sa sv) 0) tx (nI 0) (kpN sv) ln po lt fi sc nu ((maR (kpM sa sv) (ad, rv) 0).1) rv) s s.heap H locs := Eq.mp (congrArg (fun z9 => Wd D A [(cI, .int)] (wM cI m9 (maM (kpM sa sv) 0) tx (nI 0) (kpN sv) ln po lt fi sc nu z9 rv) s s.heap H locs) (show ad = (maR (kpM sa sv) (ad, rv) 0).1 from rfl)) hw
  have hw : Wd D A [(cI, .int)] (wM cI m9 (maM (kpM sa sv) 0) tx (nI 0) (kpN sv) ln po lt fi sc nu ((maR (kpM sa sv) (ad, rv) 0).1) ((maR (kpM sa sv) (ad, rv) 0).2)) s s.heap H locs := Eq.mp (congrArg (fun z9 => Wd D A [(cI, .int)] (wM cI m9 (maM (kpM sa sv) 0) tx (nI 0) (kpN sv) ln po lt fi sc nu ((maR (kpM sa sv) (ad, rv) 0).1) z9) s s.heap H locs) (show rv = (maR (kpM sa sv) (ad, rv) 0).2 from rfl)) hw
  exact L13_1 (6 + 1) (0) (by omega) (by omega) _ _ hw ls hl
abbrev rmX4_clearText : Room := { frames := 0, cells := 0, slots := 0, locals := 0 }
set_option maxHeartbeats 4000000 in
set_option maxRecDepth 100000 in
theorem c_X4_clearText (l : Launch) (D : va_G) (sz : Nat) (cI : ClassId) (m9 : Nat → Nat) (sa : Nat → Int32) (tx : Nat → Nat) (th : Int32) (sv ln po : Nat) (lt fi sc nu : Int32) (ad rv : Nat)  : MUi l yX4_clearText wsX4_clearText rmX4_clearText [.ref (m9 0)] D [(cI, .int)] (wM cI m9 sa tx th sv ln po lt fi sc nu ad rv) sz (fun rz (_ : Unit) => rz = nI ln) (fun _ => []) (fun _ => wM cI m9 sa tx (nI 0) sv 0 po lt fi sc nu ad rv) 0 0 := by
  refine met_u (own := RX4) (cc := cX4_clearText) (maxL := 2) (ty := .int) (by decide) rfl rfl (Nat.le_of_ble_eq_true rfl) ?_
  intro p e s m args below meth c Q A hsz S hw hA hE ls hl
  obtain ⟨hx, hb, hml, hown, hts⟩ := id S
  have k16 := hts (.fieldLink RX4 16 "CausalTableModel" "thrown" "I") (by decide +kernel)
  have hin4 := (show ∀ w ∈ wsX40, w ∈ wsX4_clearText by decide +kernel)
  have k124 := hts (.fieldLink RX4 124 "CausalTableModel" "length" "I") (by decide +kernel)
  have hl : lv_has ls 2 [(0, .ref (m9 0))] := hl
  refine lv_aload_n hx hb dX4_clearText_0 rfl (lv_at hl 0 rfl) ?_
  refine lv_iconst (v := nI 0) hx hb dX4_clearText_1 kc_iconst_0 ?_
  refine r_put hx hb hts hown hw 0 0 (ty := .int) tyX4 tyX4_ok nmX4 hin4 rfl rfl (by decide) k16 rfl (by decide +kernel) rfl rfl (Nat.le_of_ble_eq_true rfl) dX4_clearText_2 (fun H locs hw => ?_)
  have hw : Wd D A [(cI, .int)] (wM cI m9 sa tx (nI 0) sv ln po lt fi sc nu ad rv) s s.heap H locs := hw
  refine lv_aload_n hx hb dX4_clearText_5 rfl (lv_at hl 0 rfl) ?_
  refine r_get hx hb hts hown hw.q 0 4 hin4 rfl rfl (by decide) k124 rfl dX4_clearText_6 ?_
  refine lv_istore_n (lv' := [(1, .int (nI ln)), (0, .ref (m9 0))]) hx hb dX4_clearText_9 rfl hl (by decide) rfl (fun ls hl => ?_)
  refine lv_aload_n hx hb dX4_clearText_10 rfl (lv_at hl 1 rfl) ?_
  refine lv_iconst (v := nI 0) hx hb dX4_clearText_11 kc_iconst_0 ?_
  refine r_put hx hb hts hown hw 0 4 (ty := .int) tyX4 tyX4_ok nmX4 hin4 rfl rfl (by decide) k124 rfl (by decide +kernel) rfl rfl (Nat.le_of_ble_eq_true rfl) dX4_clearText_12 (fun H locs hw => ?_)
  have hw : Wd D A [(cI, .int)] (wM cI m9 sa tx (nI 0) sv 0 po lt fi sc nu ad rv) s s.heap H locs := hw
  refine lv_iload_n hx hb dX4_clearText_15 rfl (lv_at hl 0 rfl) ?_
  exact hE () dX4_clearText_16 (rfl) (Nat.le_of_ble_eq_true rfl) (Nat.le_of_ble_eq_true rfl) (hw.sub [0, 1, 2] [] (by decide) rfl rfl) (show nI ln = nI ln from rfl)
abbrev rmX4_appendText_v : Room := { frames := 1, cells := 0, slots := 0, locals := 22 }
set_option maxHeartbeats 4000000 in
set_option maxRecDepth 100000 in
theorem c_X4_appendText_v (l : Launch) (D : va_G) (sz : Nat) (cI : ClassId) (m9 : Nat → Nat) (sa : Nat → Int32) (tx : Nat → Nat) (th : Int32) (sv ln po : Nat) (lt fi sc nu : Int32) (ad rv : Nat) (c9 : Nat) (hc1 : 32 ≤ c9) (hc2 : c9 ≤ 126) (hln : ln < 80) : MUi l yX4_appendText wsX4_appendText rmX4_appendText_v [.ref (m9 0), .int (nI c9)] D [(cI, .int)] (wM cI m9 sa tx th sv ln po lt fi sc nu ad rv) sz (fun rz (_ : Unit) => rz = nI (ln + 1)) (fun _ => []) (fun _ => wM cI m9 sa (updN tx ln c9) (nI 0) sv (ln + 1) po lt fi sc nu ad rv) 0 0 := by
  refine met_u (own := RX4) (cc := cX4_appendText) (maxL := 2) (ty := .int) (by decide) rfl rfl (Nat.le_of_ble_eq_true rfl) ?_
  intro p e s m args below meth c Q A hsz S hw hA hE ls hl
  obtain ⟨hx, hb, hml, hown, hts⟩ := id S
  have k124 := hts (.fieldLink RX4 124 "CausalTableModel" "length" "I") (by decide +kernel)
  have hin4 := (show ∀ w ∈ wsX40, w ∈ wsX4_appendText by decide +kernel)
  have k13 := hts (.fieldLink RX4 13 "CausalTableModel" "text" "[I") (by decide +kernel)
  have hl : lv_has ls 2 [(0, .ref (m9 0)), (1, .int (nI c9))] := hl
  refine lv_aload_n hx hb dX4_appendText_0 rfl (lv_at hl 0 rfl) ?_
  refine lv_iload_n hx hb dX4_appendText_1 rfl (lv_at hl 1 rfl) ?_
  refine lv_bipush (v := nI 32) hx hb dX4_appendText_2 kc_bipush_32 ?_
  refine lv_bipush (v := nI 126) hx hb dX4_appendText_4 kc_bipush_126 ?_
  refine cq_S (As := [.int (nI c9), .int (nI 32), .int (nI 126)]) (rest := [.ref (m9 0)]) S (c_X4_in l D (x := nI c9) (lo := nI 32) (hi := nI 126)) (va_cwS 3 hts gX4_appendText_X4_in rfl rfl rfl (by decide +kernel) ⟨Nat.le_of_ble_eq_true rfl, Nat.le_of_ble_eq_true rfl⟩) (hw.q.sub [] [] rfl rfl) rfl hl.1 (Nat.le_of_ble_eq_true rfl) ⟨Nat.le_of_ble_eq_true rfl, Nat.le_of_ble_eq_true rfl⟩ rfl dX4_appendText_6 (fun r_6 e_6 => ?_)
  have e_6 : r_6 = b2 (inP (nI c9) (nI 32) (nI 126)) := e_6
  subst e_6
  refine r_if_neB (tgt := 16) hx hb dX4_appendText_9 (by decide) (fun _ => ?_) (fun h => absurd (inP_n hc1 hc2 (by decide)) h)
  refine lv_aload_n hx hb dX4_appendText_16 rfl (lv_at hl 0 rfl) ?_
  refine r_get hx hb hts hown hw.q 0 4 hin4 rfl rfl (by decide) k124 rfl dX4_appendText_17 ?_
  refine lv_bipush (v := nI 80) hx hb dX4_appendText_20 kc_bipush_80 ?_
  refine r_icmp_neN (tgt := 29) hx hb (by omega) (by omega) dX4_appendText_22 (by decide) (fun c_22 => ?_) (fun c_22 => ?_)
  ·
    refine lv_iconst (v := nI 0) hx hb dX4_appendText_29 kc_iconst_0 ?_
    refine cu_Vi (As := [.int (nI 0)]) (rest := []) (wc := wM cI m9 sa tx th sv ln po lt fi sc nu ad rv) (wr := []) S (c_X4_holds l D (sz := s.heap.size) (cI := cI) (m9 := m9) (sa := sa) (tx := tx) (th := th) (sv := sv) (ln := ln) (po := po) (lt := lt) (fi := fi) (sc := sc) (nu := nu) (ad := ad) (rv := rv) (x := nI 0)) (cwV 1 hts gX4_appendText_X4_holds rfl rfl rfl (by decide +kernel) ⟨Nat.le_of_ble_eq_true rfl, Nat.le_of_ble_eq_true rfl⟩) hw hA [0, 1, 2] [] [0] rfl rfl rfl (by decide) (by decide) (by decide) 0 rfl rfl rfl hl.1 (Nat.le_of_ble_eq_true rfl) ⟨Nat.le_of_ble_eq_true rfl, Nat.le_of_ble_eq_true rfl⟩ rfl dX4_appendText_30 (fun r_30 u_30 H locs e_30 hw => ?_)
    have hw : Wd D A [(cI, .int)] (wM cI m9 sa tx (nI 0) sv ln po lt fi sc nu ad rv) s s.heap H locs := hw
    have e_30 : r_30 = b2 ((nI 0) = 0) := e_30
    subst e_30
    refine r_if_neB (tgt := 38) hx hb dX4_appendText_33 (by decide) (fun _ => ?_) (fun h => absurd (rfl) h)
    refine lv_aload_n hx hb dX4_appendText_38 rfl (lv_at hl 0 rfl) ?_
    refine r_get hx hb hts hown hw.q 0 3 hin4 rfl rfl (by decide) k13 rfl dX4_appendText_39 ?_
    refine lv_aload_n hx hb dX4_appendText_42 rfl (lv_at hl 0 rfl) ?_
    refine r_get hx hb hts hown hw.q 0 4 hin4 rfl rfl (by decide) k124 rfl dX4_appendText_43 ?_
    refine lv_iload_n hx hb dX4_appendText_46 rfl (lv_at hl 1 rfl) ?_
    refine r_ast hx hb hw 2 0 rfl rfl (i := ln) (by omega) (by decide) dX4_appendText_47 (fun H locs hw => ?_)
    have hw : Wd D A [(cI, .int)] (wM cI m9 sa (updN tx ln c9) (nI 0) sv ln po lt fi sc nu ad rv) s s.heap H locs := Eq.mp (congrArg (fun z => Wd D A [(cI, .int)] z s s.heap H locs) (wM_tx)) hw
    refine lv_aload_n hx hb dX4_appendText_48 rfl (lv_at hl 0 rfl) ?_
    refine lv_dup hx hb dX4_appendText_49 rfl ?_
    refine r_get hx hb hts hown hw.q 0 4 hin4 rfl rfl (by decide) k124 rfl dX4_appendText_50 ?_
    refine lv_iconst (v := nI 1) hx hb dX4_appendText_53 kc_iconst_1 ?_
    refine r_addN hx hb dX4_appendText_54 ?_
    refine r_put hx hb hts hown hw 0 4 (ty := .int) tyX4 tyX4_ok nmX4 hin4 rfl rfl (by decide) k124 rfl (by decide +kernel) rfl rfl (Nat.le_of_ble_eq_true rfl) dX4_appendText_55 (fun H locs hw => ?_)
    have hw : Wd D A [(cI, .int)] (wM cI m9 sa (updN tx ln c9) (nI 0) sv (ln + 1) po lt fi sc nu ad rv) s s.heap H locs := hw
    refine lv_aload_n hx hb dX4_appendText_58 rfl (lv_at hl 0 rfl) ?_
    refine r_get hx hb hts hown hw.q 0 4 hin4 rfl rfl (by decide) k124 rfl dX4_appendText_59 ?_
    exact hE () dX4_appendText_62 (rfl) (Nat.le_of_ble_eq_true rfl) (Nat.le_of_ble_eq_true rfl) (hw.sub [0, 1, 2] [] (by decide) rfl rfl) (show nI (ln + 1) = nI (ln + 1) from rfl)
  ·
    exact absurd c_22 (by omega)
abbrev rmX4_appendText_e1 : Room := { frames := 1, cells := 0, slots := 0, locals := 22 }
set_option maxHeartbeats 4000000 in
set_option maxRecDepth 100000 in
theorem c_X4_appendText_e1 (l : Launch) (D : va_G) (sz : Nat) (cI : ClassId) (m9 : Nat → Nat) (sa : Nat → Int32) (tx : Nat → Nat) (th : Int32) (sv ln po : Nat) (lt fi sc nu : Int32) (ad rv : Nat) (p0 : Int32) (hv : ¬ inP p0 (nI 32) (nI 126)) : MUi l yX4_appendText wsX4_appendText rmX4_appendText_e1 [.ref (m9 0), .int p0] D [(cI, .int)] (wM cI m9 sa tx th sv ln po lt fi sc nu ad rv) sz (fun rz (_ : Unit) => rz = nI 0) (fun _ => []) (fun _ => wM cI m9 sa tx (nI 1) sv ln po lt fi sc nu ad rv) 0 0 := by
  refine met_u (own := RX4) (cc := cX4_appendText) (maxL := 2) (ty := .int) (by decide) rfl rfl (Nat.le_of_ble_eq_true rfl) ?_
  intro p e s m args below meth c Q A hsz S hw hA hE ls hl
  obtain ⟨hx, hb, hml, hown, hts⟩ := id S
  have hl : lv_has ls 2 [(0, .ref (m9 0)), (1, .int p0)] := hl
  refine lv_aload_n hx hb dX4_appendText_0 rfl (lv_at hl 0 rfl) ?_
  refine lv_iload_n hx hb dX4_appendText_1 rfl (lv_at hl 1 rfl) ?_
  refine lv_bipush (v := nI 32) hx hb dX4_appendText_2 kc_bipush_32 ?_
  refine lv_bipush (v := nI 126) hx hb dX4_appendText_4 kc_bipush_126 ?_
  refine cq_S (As := [.int p0, .int (nI 32), .int (nI 126)]) (rest := [.ref (m9 0)]) S (c_X4_in l D (x := p0) (lo := nI 32) (hi := nI 126)) (va_cwS 3 hts gX4_appendText_X4_in rfl rfl rfl (by decide +kernel) ⟨Nat.le_of_ble_eq_true rfl, Nat.le_of_ble_eq_true rfl⟩) (hw.q.sub [] [] rfl rfl) rfl hl.1 (Nat.le_of_ble_eq_true rfl) ⟨Nat.le_of_ble_eq_true rfl, Nat.le_of_ble_eq_true rfl⟩ rfl dX4_appendText_6 (fun r_6 e_6 => ?_)
  have e_6 : r_6 = b2 (inP p0 (nI 32) (nI 126)) := e_6
  subst e_6
  refine r_if_neB (tgt := 16) hx hb dX4_appendText_9 (by decide) (fun h => absurd h (hv)) (fun _ => ?_)
  refine lv_iconst (v := nI 1) hx hb dX4_appendText_12 kc_iconst_1 ?_
  refine lv_goto (tgt := 30) hx hb dX4_appendText_13 (by decide) ?_
  refine cu_Vi (As := [.int (nI 1)]) (rest := []) (wc := wM cI m9 sa tx th sv ln po lt fi sc nu ad rv) (wr := []) S (c_X4_holds l D (sz := s.heap.size) (cI := cI) (m9 := m9) (sa := sa) (tx := tx) (th := th) (sv := sv) (ln := ln) (po := po) (lt := lt) (fi := fi) (sc := sc) (nu := nu) (ad := ad) (rv := rv) (x := nI 1)) (cwV 1 hts gX4_appendText_X4_holds rfl rfl rfl (by decide +kernel) ⟨Nat.le_of_ble_eq_true rfl, Nat.le_of_ble_eq_true rfl⟩) hw hA [0, 1, 2] [] [0] rfl rfl rfl (by decide) (by decide) (by decide) 0 rfl rfl rfl hl.1 (Nat.le_of_ble_eq_true rfl) ⟨Nat.le_of_ble_eq_true rfl, Nat.le_of_ble_eq_true rfl⟩ rfl dX4_appendText_30 (fun r_30 u_30 H locs e_30 hw => ?_)
  have hw : Wd D A [(cI, .int)] (wM cI m9 sa tx (nI 1) sv ln po lt fi sc nu ad rv) s s.heap H locs := hw
  have e_30 : r_30 = b2 ((nI 1) = 0) := e_30
  subst e_30
  refine r_if_neB (tgt := 38) hx hb dX4_appendText_33 (by decide) (fun h => absurd h (by decide)) (fun _ => ?_)
  refine lv_iconst (v := nI 0) hx hb dX4_appendText_36 kc_iconst_0 ?_
  exact hE () dX4_appendText_37 (rfl) (Nat.le_of_ble_eq_true rfl) (Nat.le_of_ble_eq_true rfl) (hw.sub [0, 1, 2] [] (by decide) rfl rfl) (show nI 0 = nI 0 from rfl)
abbrev rmX4_appendText_e2 : Room := { frames := 1, cells := 0, slots := 0, locals := 22 }
set_option maxHeartbeats 4000000 in
set_option maxRecDepth 100000 in
theorem c_X4_appendText_e2 (l : Launch) (D : va_G) (sz : Nat) (cI : ClassId) (m9 : Nat → Nat) (sa : Nat → Int32) (tx : Nat → Nat) (th : Int32) (sv ln po : Nat) (lt fi sc nu : Int32) (ad rv : Nat) (c9 : Nat) (hc1 : 32 ≤ c9) (hc2 : c9 ≤ 126) (hln : ln = 80) : MUi l yX4_appendText wsX4_appendText rmX4_appendText_e2 [.ref (m9 0), .int (nI c9)] D [(cI, .int)] (wM cI m9 sa tx th sv ln po lt fi sc nu ad rv) sz (fun rz (_ : Unit) => rz = nI 0) (fun _ => []) (fun _ => wM cI m9 sa tx (nI 2) sv ln po lt fi sc nu ad rv) 0 0 := by
  refine met_u (own := RX4) (cc := cX4_appendText) (maxL := 2) (ty := .int) (by decide) rfl rfl (Nat.le_of_ble_eq_true rfl) ?_
  intro p e s m args below meth c Q A hsz S hw hA hE ls hl
  obtain ⟨hx, hb, hml, hown, hts⟩ := id S
  have k124 := hts (.fieldLink RX4 124 "CausalTableModel" "length" "I") (by decide +kernel)
  have hin4 := (show ∀ w ∈ wsX40, w ∈ wsX4_appendText by decide +kernel)
  have hl : lv_has ls 2 [(0, .ref (m9 0)), (1, .int (nI c9))] := hl
  refine lv_aload_n hx hb dX4_appendText_0 rfl (lv_at hl 0 rfl) ?_
  refine lv_iload_n hx hb dX4_appendText_1 rfl (lv_at hl 1 rfl) ?_
  refine lv_bipush (v := nI 32) hx hb dX4_appendText_2 kc_bipush_32 ?_
  refine lv_bipush (v := nI 126) hx hb dX4_appendText_4 kc_bipush_126 ?_
  refine cq_S (As := [.int (nI c9), .int (nI 32), .int (nI 126)]) (rest := [.ref (m9 0)]) S (c_X4_in l D (x := nI c9) (lo := nI 32) (hi := nI 126)) (va_cwS 3 hts gX4_appendText_X4_in rfl rfl rfl (by decide +kernel) ⟨Nat.le_of_ble_eq_true rfl, Nat.le_of_ble_eq_true rfl⟩) (hw.q.sub [] [] rfl rfl) rfl hl.1 (Nat.le_of_ble_eq_true rfl) ⟨Nat.le_of_ble_eq_true rfl, Nat.le_of_ble_eq_true rfl⟩ rfl dX4_appendText_6 (fun r_6 e_6 => ?_)
  have e_6 : r_6 = b2 (inP (nI c9) (nI 32) (nI 126)) := e_6
  subst e_6
  refine r_if_neB (tgt := 16) hx hb dX4_appendText_9 (by decide) (fun _ => ?_) (fun h => absurd (inP_n hc1 hc2 (by decide)) h)
  refine lv_aload_n hx hb dX4_appendText_16 rfl (lv_at hl 0 rfl) ?_
  refine r_get hx hb hts hown hw.q 0 4 hin4 rfl rfl (by decide) k124 rfl dX4_appendText_17 ?_
  refine lv_bipush (v := nI 80) hx hb dX4_appendText_20 kc_bipush_80 ?_
  refine r_icmp_neN (tgt := 29) hx hb (by omega) (by omega) dX4_appendText_22 (by decide) (fun c_22 => ?_) (fun c_22 => ?_)
  ·
    exact absurd hln c_22
  ·
    refine lv_iconst (v := nI 2) hx hb dX4_appendText_25 kc_iconst_2 ?_
    refine lv_goto (tgt := 30) hx hb dX4_appendText_26 (by decide) ?_
    refine cu_Vi (As := [.int (nI 2)]) (rest := []) (wc := wM cI m9 sa tx th sv ln po lt fi sc nu ad rv) (wr := []) S (c_X4_holds l D (sz := s.heap.size) (cI := cI) (m9 := m9) (sa := sa) (tx := tx) (th := th) (sv := sv) (ln := ln) (po := po) (lt := lt) (fi := fi) (sc := sc) (nu := nu) (ad := ad) (rv := rv) (x := nI 2)) (cwV 1 hts gX4_appendText_X4_holds rfl rfl rfl (by decide +kernel) ⟨Nat.le_of_ble_eq_true rfl, Nat.le_of_ble_eq_true rfl⟩) hw hA [0, 1, 2] [] [0] rfl rfl rfl (by decide) (by decide) (by decide) 0 rfl rfl rfl hl.1 (Nat.le_of_ble_eq_true rfl) ⟨Nat.le_of_ble_eq_true rfl, Nat.le_of_ble_eq_true rfl⟩ rfl dX4_appendText_30 (fun r_30 u_30 H locs e_30 hw => ?_)
    have hw : Wd D A [(cI, .int)] (wM cI m9 sa tx (nI 2) sv ln po lt fi sc nu ad rv) s s.heap H locs := hw
    have e_30 : r_30 = b2 ((nI 2) = 0) := e_30
    subst e_30
    refine r_if_neB (tgt := 38) hx hb dX4_appendText_33 (by decide) (fun h => absurd h (by decide)) (fun _ => ?_)
    refine lv_iconst (v := nI 0) hx hb dX4_appendText_36 kc_iconst_0 ?_
    exact hE () dX4_appendText_37 (rfl) (Nat.le_of_ble_eq_true rfl) (Nat.le_of_ble_eq_true rfl) (hw.sub [0, 1, 2] [] (by decide) rfl rfl) (show nI 0 = nI 0 from rfl)
abbrev rmX4_undo_v : Room := { frames := 1, cells := 0, slots := 0, locals := 23 }
set_option maxHeartbeats 4000000 in
set_option maxRecDepth 100000 in
theorem c_X4_undo_v (l : Launch) (D : va_G) (sz : Nat) (cI : ClassId) (m9 : Nat → Nat) (sa : Nat → Int32) (tx : Nat → Nat) (th : Int32) (sv ln po : Nat) (lt fi sc nu : Int32) (ad rv : Nat)  (hsv : sv ≤ 6) (hs0 : 0 < sv) : MUi l yX4_undo wsX4_undo rmX4_undo_v [.ref (m9 0)] D [(cI, .int)] (wM cI m9 sa tx th sv ln po lt fi sc nu ad rv) sz (fun rz (_ : Unit) => rz = nI (sv - 1)) (fun _ => []) (fun _ => wM cI m9 (cpM sa sv 0 2424) tx (nI 0) (sv - 1) ln po lt fi sc nu ad rv) 0 0 := by
  refine met_u (own := RX4) (cc := cX4_undo) (maxL := 1) (ty := .int) (by decide) rfl rfl (Nat.le_of_ble_eq_true rfl) ?_
  intro p e s m args below meth c Q A hsz S hw hA hE ls hl
  obtain ⟨hx, hb, hml, hown, hts⟩ := id S
  have k89 := hts (.fieldLink RX4 89 "CausalTableModel" "saved" "I") (by decide +kernel)
  have hin4 := (show ∀ w ∈ wsX40, w ∈ wsX4_undo by decide +kernel)
  have hl : lv_has ls 1 [(0, .ref (m9 0))] := hl
  refine lv_aload_n hx hb dX4_undo_0 rfl (lv_at hl 0 rfl) ?_
  refine lv_aload_n hx hb dX4_undo_1 rfl (lv_at hl 0 rfl) ?_
  refine r_get hx hb hts hown hw.q 0 2 hin4 rfl rfl (by decide) k89 rfl dX4_undo_2 ?_
  refine r_if_leN (tgt := 12) hx hb (by omega) dX4_undo_5 (by decide) (fun c_5 => ?_) (fun c_5 => ?_)
  ·
    exact absurd c_5 (by omega)
  ·
    refine lv_iconst (v := nI 0) hx hb dX4_undo_8 kc_iconst_0 ?_
    refine lv_goto (tgt := 13) hx hb dX4_undo_9 (by decide) ?_
    refine cu_Vi (As := [.int (nI 0)]) (rest := []) (wc := wM cI m9 sa tx th sv ln po lt fi sc nu ad rv) (wr := []) S (c_X4_holds l D (sz := s.heap.size) (cI := cI) (m9 := m9) (sa := sa) (tx := tx) (th := th) (sv := sv) (ln := ln) (po := po) (lt := lt) (fi := fi) (sc := sc) (nu := nu) (ad := ad) (rv := rv) (x := nI 0)) (cwV 1 hts gX4_undo_X4_holds rfl rfl rfl (by decide +kernel) ⟨Nat.le_of_ble_eq_true rfl, Nat.le_of_ble_eq_true rfl⟩) hw hA [0, 1, 2] [] [0] rfl rfl rfl (by decide) (by decide) (by decide) 0 rfl rfl rfl hl.1 (Nat.le_of_ble_eq_true rfl) ⟨Nat.le_of_ble_eq_true rfl, Nat.le_of_ble_eq_true rfl⟩ rfl dX4_undo_13 (fun r_13 u_13 H locs e_13 hw => ?_)
    have hw : Wd D A [(cI, .int)] (wM cI m9 sa tx (nI 0) sv ln po lt fi sc nu ad rv) s s.heap H locs := hw
    have e_13 : r_13 = b2 ((nI 0) = 0) := e_13
    subst e_13
    refine r_if_neB (tgt := 21) hx hb dX4_undo_16 (by decide) (fun _ => ?_) (fun h => absurd (rfl) h)
    refine lv_aload_n hx hb dX4_undo_21 rfl (lv_at hl 0 rfl) ?_
    refine lv_aload_n hx hb dX4_undo_22 rfl (lv_at hl 0 rfl) ?_
    refine r_get hx hb hts hown hw.q 0 2 hin4 rfl rfl (by decide) k89 rfl dX4_undo_23 ?_
    refine lv_iconst (v := nI 0) hx hb dX4_undo_26 kc_iconst_0 ?_
    refine cu_Vv (As := [.int (nI sv), .int (nI 0)]) (rest := []) (wc := wM cI m9 sa tx (nI 0) sv ln po lt fi sc nu ad rv) (wr := []) S (c_X4_copies l D (sz := H.size) (cI := cI) (m9 := m9) (sa := sa) (tx := tx) (th := (nI 0)) (sv := sv) (ln := ln) (po := po) (lt := lt) (fi := fi) (sc := sc) (nu := nu) (ad := ad) (rv := rv) (f := sv) (t := 0) (hf7 := by omega) (ht7 := by omega)) (cwV 2 hts gX4_undo_X4_copies rfl rfl rfl (by decide +kernel) ⟨Nat.le_of_ble_eq_true rfl, Nat.le_of_ble_eq_true rfl⟩) hw hA [0, 1, 2] [] [0] rfl rfl rfl (by decide) (by decide) (by decide) 0 rfl rfl rfl hl.1 (Nat.le_of_ble_eq_true rfl) ⟨Nat.le_of_ble_eq_true rfl, Nat.le_of_ble_eq_true rfl⟩ rfl dX4_undo_27 (fun u_27 H locs e_27 hw => ?_)
    have hw : Wd D A [(cI, .int)] (wM cI m9 (cpM sa sv 0 2424) tx (nI 0) sv ln po lt fi sc nu ad rv) s s.heap H locs := hw
    refine lv_aload_n hx hb dX4_undo_30 rfl (lv_at hl 0 rfl) ?_
    refine lv_dup hx hb dX4_undo_31 rfl ?_
    refine r_get hx hb hts hown hw.q 0 2 hin4 rfl rfl (by decide) k89 rfl dX4_undo_32 ?_
    refine lv_iconst (v := nI 1) hx hb dX4_undo_35 kc_iconst_1 ?_
    refine r_subN hx hb (by omega) dX4_undo_36 ?_
    refine r_put hx hb hts hown hw 0 2 (ty := .int) tyX4 tyX4_ok nmX4 hin4 rfl rfl (by decide) k89 rfl (by decide +kernel) rfl rfl (Nat.le_of_ble_eq_true rfl) dX4_undo_37 (fun H locs hw => ?_)
    have hw : Wd D A [(cI, .int)] (wM cI m9 (cpM sa sv 0 2424) tx (nI 0) (sv - 1) ln po lt fi sc nu ad rv) s s.heap H locs := hw
    refine lv_aload_n hx hb dX4_undo_40 rfl (lv_at hl 0 rfl) ?_
    refine r_get hx hb hts hown hw.q 0 2 hin4 rfl rfl (by decide) k89 rfl dX4_undo_41 ?_
    exact hE () dX4_undo_44 (rfl) (Nat.le_of_ble_eq_true rfl) (Nat.le_of_ble_eq_true rfl) (hw.sub [0, 1, 2] [] (by decide) rfl rfl) (show nI (sv - 1) = nI (sv - 1) from rfl)
abbrev rmX4_undo_e1 : Room := { frames := 1, cells := 0, slots := 0, locals := 21 }
set_option maxHeartbeats 4000000 in
set_option maxRecDepth 100000 in
theorem c_X4_undo_e1 (l : Launch) (D : va_G) (sz : Nat) (cI : ClassId) (m9 : Nat → Nat) (sa : Nat → Int32) (tx : Nat → Nat) (th : Int32) (sv ln po : Nat) (lt fi sc nu : Int32) (ad rv : Nat)  (hs0 : sv = 0) : MUi l yX4_undo wsX4_undo rmX4_undo_e1 [.ref (m9 0)] D [(cI, .int)] (wM cI m9 sa tx th sv ln po lt fi sc nu ad rv) sz (fun rz (_ : Unit) => rz = nI 0) (fun _ => []) (fun _ => wM cI m9 sa tx (nI 1) sv ln po lt fi sc nu ad rv) 0 0 := by
  refine met_u (own := RX4) (cc := cX4_undo) (maxL := 1) (ty := .int) (by decide) rfl rfl (Nat.le_of_ble_eq_true rfl) ?_
  intro p e s m args below meth c Q A hsz S hw hA hE ls hl
  obtain ⟨hx, hb, hml, hown, hts⟩ := id S
  have k89 := hts (.fieldLink RX4 89 "CausalTableModel" "saved" "I") (by decide +kernel)
  have hin4 := (show ∀ w ∈ wsX40, w ∈ wsX4_undo by decide +kernel)
  have hl : lv_has ls 1 [(0, .ref (m9 0))] := hl
  refine lv_aload_n hx hb dX4_undo_0 rfl (lv_at hl 0 rfl) ?_
  refine lv_aload_n hx hb dX4_undo_1 rfl (lv_at hl 0 rfl) ?_
  refine r_get hx hb hts hown hw.q 0 2 hin4 rfl rfl (by decide) k89 rfl dX4_undo_2 ?_
  refine r_if_leN (tgt := 12) hx hb (by omega) dX4_undo_5 (by decide) (fun c_5 => ?_) (fun c_5 => ?_)
  ·
    refine lv_iconst (v := nI 1) hx hb dX4_undo_12 kc_iconst_1 ?_
    refine cu_Vi (As := [.int (nI 1)]) (rest := []) (wc := wM cI m9 sa tx th sv ln po lt fi sc nu ad rv) (wr := []) S (c_X4_holds l D (sz := s.heap.size) (cI := cI) (m9 := m9) (sa := sa) (tx := tx) (th := th) (sv := sv) (ln := ln) (po := po) (lt := lt) (fi := fi) (sc := sc) (nu := nu) (ad := ad) (rv := rv) (x := nI 1)) (cwV 1 hts gX4_undo_X4_holds rfl rfl rfl (by decide +kernel) ⟨Nat.le_of_ble_eq_true rfl, Nat.le_of_ble_eq_true rfl⟩) hw hA [0, 1, 2] [] [0] rfl rfl rfl (by decide) (by decide) (by decide) 0 rfl rfl rfl hl.1 (Nat.le_of_ble_eq_true rfl) ⟨Nat.le_of_ble_eq_true rfl, Nat.le_of_ble_eq_true rfl⟩ rfl dX4_undo_13 (fun r_13 u_13 H locs e_13 hw => ?_)
    have hw : Wd D A [(cI, .int)] (wM cI m9 sa tx (nI 1) sv ln po lt fi sc nu ad rv) s s.heap H locs := hw
    have e_13 : r_13 = b2 ((nI 1) = 0) := e_13
    subst e_13
    refine r_if_neB (tgt := 21) hx hb dX4_undo_16 (by decide) (fun h => absurd h (by decide)) (fun _ => ?_)
    refine lv_iconst (v := nI 0) hx hb dX4_undo_19 kc_iconst_0 ?_
    exact hE () dX4_undo_20 (rfl) (Nat.le_of_ble_eq_true rfl) (Nat.le_of_ble_eq_true rfl) (hw.sub [0, 1, 2] [] (by decide) rfl rfl) (show nI 0 = nI 0 from rfl)
  ·
    exact absurd c_5 (by omega)
abbrev rmX4_latest_v : Room := { frames := 3, cells := 0, slots := 0, locals := 63 }
set_option maxHeartbeats 4000000 in
set_option maxRecDepth 100000 in
theorem c_X4_latest_v (l : Launch) (D : va_G) (sz : Nat) (cI : ClassId) (m9 : Nat → Nat) (sa : Nat → Int32) (tx : Nat → Nat) (th : Int32) (sv ln po : Nat) (lt fi sc nu : Int32) (ad rv : Nat) (r w : Nat) (hr : r < 4) (hw5 : w < 6) : MUi l yX4_latest wsX4_latest rmX4_latest_v [.ref (m9 0), .int (nI r), .int (nI w)] D [(cI, .int)] (wM cI m9 sa tx th sv ln po lt fi sc nu ad rv) sz (fun rz (_ : Unit) => rz = ltM sa r w) (fun _ => []) (fun _ => wM cI m9 sa tx (nI 0) sv ln po lt fi sc nu ad rv) 0 0 := by
  refine met_u (own := RX4) (cc := cX4_latest) (maxL := 7) (ty := .int) (by decide) rfl rfl (Nat.le_of_ble_eq_true rfl) ?_
  intro p e s m args below meth c Q A hsz S hw hA hE ls hl
  obtain ⟨hx, hb, hml, hown, hts⟩ := id S
  have k7 := hts (.fieldLink RX4 7 "CausalTableModel" "s" "[I") (by decide +kernel)
  have hin4 := (show ∀ w ∈ wsX40, w ∈ wsX4_latest by decide +kernel)
  have hl : lv_has ls 7 [(0, .ref (m9 0)), (1, .int (nI r)), (2, .int (nI w))] := hl
  refine lv_aload_n hx hb dX4_latest_0 rfl (lv_at hl 0 rfl) ?_
  refine lv_iload_n hx hb dX4_latest_1 rfl (lv_at hl 1 rfl) ?_
  refine lv_iload_n hx hb dX4_latest_2 rfl (lv_at hl 2 rfl) ?_
  refine cq_S (As := [.int (nI r), .int (nI w)]) (rest := [.ref (m9 0)]) S (c_X4_isRow l D (x := nI r) (y := nI w)) (va_cwS 2 hts gX4_latest_X4_isRow rfl rfl rfl (by decide +kernel) ⟨Nat.le_of_ble_eq_true rfl, Nat.le_of_ble_eq_true rfl⟩) (hw.q.sub [] [] rfl rfl) rfl hl.1 (Nat.le_of_ble_eq_true rfl) ⟨Nat.le_of_ble_eq_true rfl, Nat.le_of_ble_eq_true rfl⟩ rfl dX4_latest_3 (fun r_3 e_3 => ?_)
  have e_3 : r_3 = b2 (inP (nI r) (nI 0) (nI 3) ∧ inP (nI w) (nI 0) (nI 5)) := e_3
  subst e_3
  refine r_if_eqB (tgt := 13) hx hb dX4_latest_6 (by decide) (fun h => absurd (rowP_n hr hw5) h) (fun _ => ?_)
  refine lv_iconst (v := nI 0) hx hb dX4_latest_9 kc_iconst_0 ?_
  refine lv_goto (tgt := 14) hx hb dX4_latest_10 (by decide) ?_
  refine cu_Vi (As := [.int (nI 0)]) (rest := []) (wc := wM cI m9 sa tx th sv ln po lt fi sc nu ad rv) (wr := []) S (c_X4_holds l D (sz := s.heap.size) (cI := cI) (m9 := m9) (sa := sa) (tx := tx) (th := th) (sv := sv) (ln := ln) (po := po) (lt := lt) (fi := fi) (sc := sc) (nu := nu) (ad := ad) (rv := rv) (x := nI 0)) (cwV 1 hts gX4_latest_X4_holds rfl rfl rfl (by decide +kernel) ⟨Nat.le_of_ble_eq_true rfl, Nat.le_of_ble_eq_true rfl⟩) hw hA [0, 1, 2] [] [0] rfl rfl rfl (by decide) (by decide) (by decide) 0 rfl rfl rfl hl.1 (Nat.le_of_ble_eq_true rfl) ⟨Nat.le_of_ble_eq_true rfl, Nat.le_of_ble_eq_true rfl⟩ rfl dX4_latest_14 (fun r_14 u_14 H locs e_14 hw => ?_)
  have hw : Wd D A [(cI, .int)] (wM cI m9 sa tx (nI 0) sv ln po lt fi sc nu ad rv) s s.heap H locs := hw
  have e_14 : r_14 = b2 ((nI 0) = 0) := e_14
  subst e_14
  refine r_if_neB (tgt := 22) hx hb dX4_latest_17 (by decide) (fun _ => ?_) (fun h => absurd (rfl) h)
  refine lv_iconst (v := (-1)) hx hb dX4_latest_22 kc_iconst_m1 ?_
  refine lv_istore_n (lv' := [(3, .int (-1)), (0, .ref (m9 0)), (1, .int (nI r)), (2, .int (nI w))]) hx hb dX4_latest_23 rfl hl (by decide) rfl (fun ls hl => ?_)
  refine lv_iconst (v := nI 0) hx hb dX4_latest_24 kc_iconst_0 ?_
  refine lv_istore (lv' := [(4, .int (nI 0)), (3, .int (-1)), (0, .ref (m9 0)), (1, .int (nI r)), (2, .int (nI w))]) hx hb dX4_latest_25 hl (by decide) rfl (fun ls hl => ?_)
  have L27_1 : ∀ (fu_2 k : Nat), k ≤ 4 → 4 - k < fu_2 → ∀ ls : Array Slot, lv_has ls 7 [(4, .int (nI k)), (3, .int (foI (lfN sa r w k))), (0, .ref (m9 0)), (1, .int (nI r)), (2, .int (nI w))] → W p l e rmX4_latest_v s m args below meth c H locs 0 0 Q (F0 m 27 ls []) := by
    intro fu_2
    induction fu_2 with
    | zero => intro k _ h9; exact absurd h9 (Nat.not_lt_zero _)
    | succ fu_2 ih_27 =>
      intro k hk_27 hf_27 ls hl
      have hlf := lfN_b sa r w k hk_27
      refine lv_iload hx hb dX4_latest_27 (lv_at hl 0 rfl) ?_
      refine lv_iconst (v := nI 4) hx hb dX4_latest_29 kc_iconst_4 ?_
      refine r_icmp_geN (tgt := 113) hx hb (by omega) (by omega) dX4_latest_30 (by decide) (fun c_30 => ?_) (fun c_30 => ?_)
      ·
        by_cases h4 : lfN sa r w k = 4
        ·
          have hl : lv_has ls 7 [(4, .int (nI k)), (3, .int (-1)), (0, .ref (m9 0)), (1, .int (nI r)), (2, .int (nI w))] := lv_rep hl 1 rfl (congrArg Value.int (show foI (lfN sa r w k) = (-1) from if_pos h4))
          refine lv_iload_n hx hb dX4_latest_113 rfl (lv_at hl 1 rfl) ?_
          refine lv_iconst (v := (-1)) hx hb dX4_latest_114 kc_iconst_m1 ?_
          refine lv_icmp_ne (tgt := 122) hx hb dX4_latest_115 (by decide) (fun h => absurd (rfl) h) (fun _ => ?_)
          refine lv_iconst (v := (-1)) hx hb dX4_latest_118 kc_iconst_m1 ?_
          refine lv_goto (tgt := 130) hx hb dX4_latest_119 (by decide) ?_
          exact hE () dX4_latest_130 (rfl) (Nat.le_of_ble_eq_true rfl) (Nat.le_of_ble_eq_true rfl) (hw.sub [0, 1, 2] [] (by decide) rfl rfl) (show (-1) = ltM sa r w from by first | exact ltM_1 (by omega) h4 | exact ltM_2 (by omega) h4)
        ·
          have hl : lv_has ls 7 [(4, .int (nI k)), (3, .int (nI (lfN sa r w k))), (0, .ref (m9 0)), (1, .int (nI r)), (2, .int (nI w))] := lv_rep hl 1 rfl (congrArg Value.int (show foI (lfN sa r w k) = nI (lfN sa r w k) from if_neg h4))
          refine lv_iload_n hx hb dX4_latest_113 rfl (lv_at hl 1 rfl) ?_
          refine lv_iconst (v := (-1)) hx hb dX4_latest_114 kc_iconst_m1 ?_
          refine lv_icmp_ne (tgt := 122) hx hb dX4_latest_115 (by decide) (fun _ => ?_) (fun h => absurd h (nI_m1 (by omega)))
          refine lv_aload_n hx hb dX4_latest_122 rfl (lv_at hl 2 rfl) ?_
          refine lv_iload_n hx hb dX4_latest_123 rfl (lv_at hl 3 rfl) ?_
          refine lv_iload_n hx hb dX4_latest_124 rfl (lv_at hl 4 rfl) ?_
          refine lv_iconst (v := nI 0) hx hb dX4_latest_125 kc_iconst_0 ?_
          refine lv_iload_n hx hb dX4_latest_126 rfl (lv_at hl 1 rfl) ?_
          refine cq_V (As := [.int (nI r), .int (nI w), .int (nI 0), .int (nI (lfN sa r w k))]) (rest := []) S (c_X4_value l D (cI := cI) (m9 := m9) (sa := sa) (tx := tx) (th := (nI 0)) (sv := sv) (ln := ln) (po := po) (lt := lt) (fi := fi) (sc := sc) (nu := nu) (ad := ad) (rv := rv) (r := r) (w := w) (c9 := 0) (k9 := lfN sa r w k) (hr := by omega) (hw5 := by omega) (hc := by omega) (hk9 := by omega)) (cwV 4 hts gX4_latest_X4_value rfl rfl rfl (by decide +kernel) ⟨Nat.le_of_ble_eq_true rfl, Nat.le_of_ble_eq_true rfl⟩) (hw.q.sub [0, 1, 2] [0] rfl rfl) 0 rfl rfl rfl hl.1 (Nat.le_of_ble_eq_true rfl) ⟨Nat.le_of_ble_eq_true rfl, Nat.le_of_ble_eq_true rfl⟩ rfl dX4_latest_127 (fun r_127 e_127 => ?_)
          have e_127 : r_127 = sa (408 + (4 * (4 * (6 * r + w) + 0) + (lfN sa r w k))) := e_127
          subst e_127
          exact hE () dX4_latest_130 (rfl) (Nat.le_of_ble_eq_true rfl) (Nat.le_of_ble_eq_true rfl) (hw.sub [0, 1, 2] [] (by decide) rfl rfl) (show sa (408 + (4 * (4 * (6 * r + w) + 0) + (lfN sa r w k))) = ltM sa r w from by first | exact ltM_1 (by omega) h4 | exact ltM_2 (by omega) h4)
      ·
        refine lv_aload_n hx hb dX4_latest_33 rfl (lv_at hl 2 rfl) ?_
        refine lv_iload_n hx hb dX4_latest_34 rfl (lv_at hl 3 rfl) ?_
        refine lv_iload_n hx hb dX4_latest_35 rfl (lv_at hl 4 rfl) ?_
        refine lv_iconst (v := nI 0) hx hb dX4_latest_36 kc_iconst_0 ?_
        refine lv_iload hx hb dX4_latest_37 (lv_at hl 0 rfl) ?_
        refine cq_V (As := [.int (nI r), .int (nI w), .int (nI 0), .int (nI k)]) (rest := []) S (c_X4_mark l D (cI := cI) (m9 := m9) (sa := sa) (tx := tx) (th := (nI 0)) (sv := sv) (ln := ln) (po := po) (lt := lt) (fi := fi) (sc := sc) (nu := nu) (ad := ad) (rv := rv) (r := r) (w := w) (c9 := 0) (k9 := k) (hr := by omega) (hw5 := by omega) (hc := by omega) (hk9 := by omega)) (cwV 4 hts gX4_latest_X4_mark rfl rfl rfl (by decide +kernel) ⟨Nat.le_of_ble_eq_true rfl, Nat.le_of_ble_eq_true rfl⟩) (hw.q.sub [0, 1, 2] [0] rfl rfl) 0 rfl rfl rfl hl.1 (Nat.le_of_ble_eq_true rfl) ⟨Nat.le_of_ble_eq_true rfl, Nat.le_of_ble_eq_true rfl⟩ rfl dX4_latest_39 (fun r_39 e_39 => ?_)
        have e_39 : r_39 = sa (24 + (4 * (4 * (6 * r + w) + 0) + k)) := e_39
        subst e_39
        have J50_3 : ∀ ls : Array Slot, lv_has ls 7 [(4, .int (nI k)), (3, .int (foI (lfN sa r w k))), (0, .ref (m9 0)), (1, .int (nI r)), (2, .int (nI w))] → W p l e rmX4_latest_v s m args below meth c H locs 0 0 Q (F0 m 50 ls [.int (b2 (¬ sa (24 + (4 * (4 * (6 * r + w) + 0) + k)) ≤ 0))]) := by
          intro ls hl
          refine lv_istore (lv' := [(5, .int (b2 (¬ sa (24 + (4 * (4 * (6 * r + w) + 0) + k)) ≤ 0))), (4, .int (nI k)), (3, .int (foI (lfN sa r w k))), (0, .ref (m9 0)), (1, .int (nI r)), (2, .int (nI w))]) hx hb dX4_latest_50 hl (by decide) rfl (fun ls hl => ?_)
          refine lv_iload hx hb dX4_latest_52 (lv_at hl 0 rfl) ?_
          have J93_4 : ∀ ls : Array Slot, lv_has ls 7 [(5, .int (b2 (¬ sa (24 + (4 * (4 * (6 * r + w) + 0) + k)) ≤ 0))), (4, .int (nI k)), (3, .int (foI (lfN sa r w k))), (0, .ref (m9 0)), (1, .int (nI r)), (2, .int (nI w))] → W p l e rmX4_latest_v s m args below meth c H locs 0 0 Q (F0 m 93 ls [.int (b2 (¬ sa (24 + (4 * (4 * (6 * r + w) + 0) + k)) ≤ 0 ∧ (lfN sa r w k = 4 ∨ ¬ sa (792 + 4 * (6 * r + w) + k) < sa (792 + 4 * (6 * r + w) + lfN sa r w k))))]) := by
            intro ls hl
            refine lv_istore (lv' := [(6, .int (b2 (¬ sa (24 + (4 * (4 * (6 * r + w) + 0) + k)) ≤ 0 ∧ (lfN sa r w k = 4 ∨ ¬ sa (792 + 4 * (6 * r + w) + k) < sa (792 + 4 * (6 * r + w) + lfN sa r w k))))), (5, .int (b2 (¬ sa (24 + (4 * (4 * (6 * r + w) + 0) + k)) ≤ 0))), (4, .int (nI k)), (3, .int (foI (lfN sa r w k))), (0, .ref (m9 0)), (1, .int (nI r)), (2, .int (nI w))]) hx hb dX4_latest_93 hl (by decide) rfl (fun ls hl => ?_)
            refine lv_iload hx hb dX4_latest_95 (lv_at hl 0 rfl) ?_
            have J106_5 : ∀ ls : Array Slot, lv_has ls 7 [(6, .int (b2 (¬ sa (24 + (4 * (4 * (6 * r + w) + 0) + k)) ≤ 0 ∧ (lfN sa r w k = 4 ∨ ¬ sa (792 + 4 * (6 * r + w) + k) < sa (792 + 4 * (6 * r + w) + lfN sa r w k))))), (5, .int (b2 (¬ sa (24 + (4 * (4 * (6 * r + w) + 0) + k)) ≤ 0))), (4, .int (nI k)), (3, .int (foI (lfN sa r w k))), (0, .ref (m9 0)), (1, .int (nI r)), (2, .int (nI w))] → W p l e rmX4_latest_v s m args below meth c H locs 0 0 Q (F0 m 106 ls [.int (foI (lfN sa r w (k + 1)))]) := by
              intro ls hl
              refine lv_istore_n (lv' := [(3, .int (foI (lfN sa r w (k + 1)))), (6, .int (b2 (¬ sa (24 + (4 * (4 * (6 * r + w) + 0) + k)) ≤ 0 ∧ (lfN sa r w k = 4 ∨ ¬ sa (792 + 4 * (6 * r + w) + k) < sa (792 + 4 * (6 * r + w) + lfN sa r w k))))), (5, .int (b2 (¬ sa (24 + (4 * (4 * (6 * r + w) + 0) + k)) ≤ 0))), (4, .int (nI k)), (0, .ref (m9 0)), (1, .int (nI r)), (2, .int (nI w))]) hx hb dX4_latest_106 rfl hl (by decide) rfl (fun ls hl => ?_)
              refine lv_iinc (v := nI (k + 1)) (lv' := [(4, .int (nI (k + 1))), (3, .int (foI (lfN sa r w (k + 1)))), (6, .int (b2 (¬ sa (24 + (4 * (4 * (6 * r + w) + 0) + k)) ≤ 0 ∧ (lfN sa r w k = 4 ∨ ¬ sa (792 + 4 * (6 * r + w) + k) < sa (792 + 4 * (6 * r + w) + lfN sa r w k))))), (5, .int (b2 (¬ sa (24 + (4 * (4 * (6 * r + w) + 0) + k)) ≤ 0))), (0, .ref (m9 0)), (1, .int (nI r)), (2, .int (nI w))]) hx hb dX4_latest_107 hl (k := 3) rfl (nI_add k 1) (by decide) rfl (fun ls hl => ?_)
              refine lv_goto (tgt := 27) hx hb dX4_latest_110 (by decide) ?_
              have hl : lv_has ls 7 [(4, .int (nI (k + 1))), (3, .int (foI (lfN sa r w (k + 1)))), (0, .ref (m9 0)), (1, .int (nI r)), (2, .int (nI w))] := lv_sub hl [0, 1, 4, 5, 6] rfl
              exact ih_27 (k + 1) (by omega) (by omega) ls hl
            refine r_if_eqB (tgt := 105) hx hb dX4_latest_97 (by decide) (fun c_97 => ?_) (fun c_97 => ?_)
            ·
              refine lv_iload_n hx hb dX4_latest_105 rfl (lv_at hl 3 rfl) ?_
              have hl : lv_has ls 7 [(6, .int (b2 (¬ sa (24 + (4 * (4 * (6 * r + w) + 0) + k)) ≤ 0 ∧ (lfN sa r w k = 4 ∨ ¬ sa (792 + 4 * (6 * r + w) + k) < sa (792 + 4 * (6 * r + w) + lfN sa r w k))))), (5, .int (b2 (¬ sa (24 + (4 * (4 * (6 * r + w) + 0) + k)) ≤ 0))), (4, .int (nI k)), (3, .int (foI (lfN sa r w k))), (0, .ref (m9 0)), (1, .int (nI r)), (2, .int (nI w))] := lv_sub hl [0, 1, 2, 3, 4, 5, 6] rfl
              refine r_top hx (show foI (lfN sa r w k) = foI (lfN sa r w (k + 1)) from by rw [lfN]; first | rw [if_pos c_97]; exact (if_neg (by omega)).symm | rw [if_neg c_97]) ?_
              exact J106_5 ls hl
            ·
              refine lv_iload hx hb dX4_latest_100 (lv_at hl 2 rfl) ?_
              refine lv_goto (tgt := 106) hx hb dX4_latest_102 (by decide) ?_
              have hl : lv_has ls 7 [(6, .int (b2 (¬ sa (24 + (4 * (4 * (6 * r + w) + 0) + k)) ≤ 0 ∧ (lfN sa r w k = 4 ∨ ¬ sa (792 + 4 * (6 * r + w) + k) < sa (792 + 4 * (6 * r + w) + lfN sa r w k))))), (5, .int (b2 (¬ sa (24 + (4 * (4 * (6 * r + w) + 0) + k)) ≤ 0))), (4, .int (nI k)), (3, .int (foI (lfN sa r w k))), (0, .ref (m9 0)), (1, .int (nI r)), (2, .int (nI w))] := lv_sub hl [0, 1, 2, 3, 4, 5, 6] rfl
              refine r_top hx (show nI k = foI (lfN sa r w (k + 1)) from by rw [lfN]; first | rw [if_pos c_97]; exact (if_neg (by omega)).symm | rw [if_neg c_97]) ?_
              exact J106_5 ls hl
          refine r_if_eqB (tgt := 92) hx hb dX4_latest_54 (by decide) (fun c_54 => ?_) (fun c_54 => ?_)
          ·
            refine lv_iconst (v := nI 0) hx hb dX4_latest_92 kc_iconst_0 ?_
            have hl : lv_has ls 7 [(5, .int (b2 (¬ sa (24 + (4 * (4 * (6 * r + w) + 0) + k)) ≤ 0))), (4, .int (nI k)), (3, .int (foI (lfN sa r w k))), (0, .ref (m9 0)), (1, .int (nI r)), (2, .int (nI w))] := lv_sub hl [0, 1, 2, 3, 4, 5] rfl
            refine r_top hx (show nI 0 = b2 (¬ sa (24 + (4 * (4 * (6 * r + w) + 0) + k)) ≤ 0 ∧ (lfN sa r w k = 4 ∨ ¬ sa (792 + 4 * (6 * r + w) + k) < sa (792 + 4 * (6 * r + w) + lfN sa r w k))) from by first | exact ret1 ⟨c_54, Or.inl h4⟩ | exact ret1 ⟨c_54, Or.inr c_85⟩ | exact ret0 (fun h => c_54 h.1) | exact ret0 (fun h => h.2.elim h4 (fun z => z c_85))) ?_
            exact J93_4 ls hl
          ·
            by_cases h4 : lfN sa r w k = 4
            ·
              have hl : lv_has ls 7 [(5, .int (b2 (¬ sa (24 + (4 * (4 * (6 * r + w) + 0) + k)) ≤ 0))), (4, .int (nI k)), (3, .int (-1)), (0, .ref (m9 0)), (1, .int (nI r)), (2, .int (nI w))] := lv_rep hl 2 rfl (congrArg Value.int (show foI (lfN sa r w k) = (-1) from if_pos h4))
              refine lv_iload_n hx hb dX4_latest_57 rfl (lv_at hl 2 rfl) ?_
              refine lv_iconst (v := (-1)) hx hb dX4_latest_58 kc_iconst_m1 ?_
              refine lv_icmp_eq (tgt := 88) hx hb dX4_latest_59 (by decide) (fun _ => ?_) (fun h => absurd (rfl) h)
              refine lv_iconst (v := nI 1) hx hb dX4_latest_88 kc_iconst_1 ?_
              refine lv_goto (tgt := 93) hx hb dX4_latest_89 (by decide) ?_
              have hl : lv_has ls 7 [(5, .int (b2 (¬ sa (24 + (4 * (4 * (6 * r + w) + 0) + k)) ≤ 0))), (4, .int (nI k)), (3, .int (-1)), (0, .ref (m9 0)), (1, .int (nI r)), (2, .int (nI w))] := lv_sub hl [0, 1, 2, 3, 4, 5] rfl
              have hl : lv_has ls 7 [(5, .int (b2 (¬ sa (24 + (4 * (4 * (6 * r + w) + 0) + k)) ≤ 0))), (4, .int (nI k)), (3, .int (foI (lfN sa r w k))), (0, .ref (m9 0)), (1, .int (nI r)), (2, .int (nI w))] := lv_rep hl 2 rfl (congrArg Value.int (show (-1) = foI (lfN sa r w k) from by first | exact (if_pos h4).symm | exact (if_neg h4).symm))
              refine r_top hx (show nI 1 = b2 (¬ sa (24 + (4 * (4 * (6 * r + w) + 0) + k)) ≤ 0 ∧ (lfN sa r w k = 4 ∨ ¬ sa (792 + 4 * (6 * r + w) + k) < sa (792 + 4 * (6 * r + w) + lfN sa r w k))) from by first | exact ret1 ⟨c_54, Or.inl h4⟩ | exact ret1 ⟨c_54, Or.inr c_85⟩ | exact ret0 (fun h => c_54 h.1) | exact ret0 (fun h => h.2.elim h4 (fun z => z c_85))) ?_
              exact J93_4 ls hl
            ·
              have hl : lv_has ls 7 [(5, .int (b2 (¬ sa (24 + (4 * (4 * (6 * r + w) + 0) + k)) ≤ 0))), (4, .int (nI k)), (3, .int (nI (lfN sa r w k))), (0, .ref (m9 0)), (1, .int (nI r)), (2, .int (nI w))] := lv_rep hl 2 rfl (congrArg Value.int (show foI (lfN sa r w k) = nI (lfN sa r w k) from if_neg h4))
              refine lv_iload_n hx hb dX4_latest_57 rfl (lv_at hl 2 rfl) ?_
              refine lv_iconst (v := (-1)) hx hb dX4_latest_58 kc_iconst_m1 ?_
              refine lv_icmp_eq (tgt := 88) hx hb dX4_latest_59 (by decide) (fun h => absurd h (nI_m1 (by omega))) (fun _ => ?_)
              refine lv_aload_n hx hb dX4_latest_62 rfl (lv_at hl 3 rfl) ?_
              refine r_get hx hb hts hown hw.q 0 1 hin4 rfl rfl (by decide) k7 rfl dX4_latest_63 ?_
              refine lv_iload_n hx hb dX4_latest_66 rfl (lv_at hl 4 rfl) ?_
              refine lv_iload_n hx hb dX4_latest_67 rfl (lv_at hl 5 rfl) ?_
              refine lv_iload hx hb dX4_latest_68 (lv_at hl 1 rfl) ?_
              refine cq_S (As := [.int (nI r), .int (nI w), .int (nI k)]) (rest := [.ref (m9 1)]) S (c_X4_stampPlace l D (r := r) (w := w) (k9 := k)) (va_cwS 3 hts gX4_latest_X4_stampPlace rfl rfl rfl (by decide +kernel) ⟨Nat.le_of_ble_eq_true rfl, Nat.le_of_ble_eq_true rfl⟩) (hw.q.sub [] [] rfl rfl) rfl hl.1 (Nat.le_of_ble_eq_true rfl) ⟨Nat.le_of_ble_eq_true rfl, Nat.le_of_ble_eq_true rfl⟩ rfl dX4_latest_70 (fun r_70 e_70 => ?_)
              have e_70 : r_70 = nI (792 + 4 * (6 * r + w) + k) := e_70
              subst e_70
              refine r_ald hx hb hw.q 1 0 rfl rfl (i := 792 + 4 * (6 * r + w) + k) (by omega) (by decide) dX4_latest_73 ?_
              refine lv_aload_n hx hb dX4_latest_74 rfl (lv_at hl 3 rfl) ?_
              refine r_get hx hb hts hown hw.q 0 1 hin4 rfl rfl (by decide) k7 rfl dX4_latest_75 ?_
              refine lv_iload_n hx hb dX4_latest_78 rfl (lv_at hl 4 rfl) ?_
              refine lv_iload_n hx hb dX4_latest_79 rfl (lv_at hl 5 rfl) ?_
              refine lv_iload_n hx hb dX4_latest_80 rfl (lv_at hl 2 rfl) ?_
              refine cq_S (As := [.int (nI r), .int (nI w), .int (nI (lfN sa r w k))]) (rest := [.ref (m9 1), .int (sa (792 + 4 * (6 * r + w) + k))]) S (c_X4_stampPlace l D (r := r) (w := w) (k9 := lfN sa r w k)) (va_cwS 3 hts gX4_latest_X4_stampPlace rfl rfl rfl (by decide +kernel) ⟨Nat.le_of_ble_eq_true rfl, Nat.le_of_ble_eq_true rfl⟩) (hw.q.sub [] [] rfl rfl) rfl hl.1 (Nat.le_of_ble_eq_true rfl) ⟨Nat.le_of_ble_eq_true rfl, Nat.le_of_ble_eq_true rfl⟩ rfl dX4_latest_81 (fun r_81 e_81 => ?_)
              have e_81 : r_81 = nI (792 + 4 * (6 * r + w) + (lfN sa r w k)) := e_81
              subst e_81
              refine r_ald hx hb hw.q 1 0 rfl rfl (i := 792 + 4 * (6 * r + w) + (lfN sa r w k)) (by omega) (by decide) dX4_latest_84 ?_
              refine lv_icmp_lt (tgt := 92) hx hb dX4_latest_85 (by decide) (fun c_85 => ?_) (fun c_85 => ?_)
              ·
                refine lv_iconst (v := nI 0) hx hb dX4_latest_92 kc_iconst_0 ?_
                have hl : lv_has ls 7 [(5, .int (b2 (¬ sa (24 + (4 * (4 * (6 * r + w) + 0) + k)) ≤ 0))), (4, .int (nI k)), (3, .int (nI (lfN sa r w k))), (0, .ref (m9 0)), (1, .int (nI r)), (2, .int (nI w))] := lv_sub hl [0, 1, 2, 3, 4, 5] rfl
                have hl : lv_has ls 7 [(5, .int (b2 (¬ sa (24 + (4 * (4 * (6 * r + w) + 0) + k)) ≤ 0))), (4, .int (nI k)), (3, .int (foI (lfN sa r w k))), (0, .ref (m9 0)), (1, .int (nI r)), (2, .int (nI w))] := lv_rep hl 2 rfl (congrArg Value.int (show nI (lfN sa r w k) = foI (lfN sa r w k) from by first | exact (if_pos h4).symm | exact (if_neg h4).symm))
                refine r_top hx (show nI 0 = b2 (¬ sa (24 + (4 * (4 * (6 * r + w) + 0) + k)) ≤ 0 ∧ (lfN sa r w k = 4 ∨ ¬ sa (792 + 4 * (6 * r + w) + k) < sa (792 + 4 * (6 * r + w) + lfN sa r w k))) from by first | exact ret1 ⟨c_54, Or.inl h4⟩ | exact ret1 ⟨c_54, Or.inr c_85⟩ | exact ret0 (fun h => c_54 h.1) | exact ret0 (fun h => h.2.elim h4 (fun z => z c_85))) ?_
                exact J93_4 ls hl
              ·
                refine lv_iconst (v := nI 1) hx hb dX4_latest_88 kc_iconst_1 ?_
                refine lv_goto (tgt := 93) hx hb dX4_latest_89 (by decide) ?_
                have hl : lv_has ls 7 [(5, .int (b2 (¬ sa (24 + (4 * (4 * (6 * r + w) + 0) + k)) ≤ 0))), (4, .int (nI k)), (3, .int (nI (lfN sa r w k))), (0, .ref (m9 0)), (1, .int (nI r)), (2, .int (nI w))] := lv_sub hl [0, 1, 2, 3, 4, 5] rfl
                have hl : lv_has ls 7 [(5, .int (b2 (¬ sa (24 + (4 * (4 * (6 * r + w) + 0) + k)) ≤ 0))), (4, .int (nI k)), (3, .int (foI (lfN sa r w k))), (0, .ref (m9 0)), (1, .int (nI r)), (2, .int (nI w))] := lv_rep hl 2 rfl (congrArg Value.int (show nI (lfN sa r w k) = foI (lfN sa r w k) from by first | exact (if_pos h4).symm | exact (if_neg h4).symm))
                refine r_top hx (show nI 1 = b2 (¬ sa (24 + (4 * (4 * (6 * r + w) + 0) + k)) ≤ 0 ∧ (lfN sa r w k = 4 ∨ ¬ sa (792 + 4 * (6 * r + w) + k) < sa (792 + 4 * (6 * r + w) + lfN sa r w k))) from by first | exact ret1 ⟨c_54, Or.inl h4⟩ | exact ret1 ⟨c_54, Or.inr c_85⟩ | exact ret0 (fun h => c_54 h.1) | exact ret0 (fun h => h.2.elim h4 (fun z => z c_85))) ?_
                exact J93_4 ls hl
        refine lv_if_le (tgt := 49) hx hb dX4_latest_42 (by decide) (fun c_42 => ?_) (fun c_42 => ?_)
        ·
          refine lv_iconst (v := nI 0) hx hb dX4_latest_49 kc_iconst_0 ?_
          have hl : lv_has ls 7 [(4, .int (nI k)), (3, .int (foI (lfN sa r w k))), (0, .ref (m9 0)), (1, .int (nI r)), (2, .int (nI w))] := lv_sub hl [0, 1, 2, 3, 4] rfl
          refine r_top hx (show nI 0 = b2 (¬ sa (24 + (4 * (4 * (6 * r + w) + 0) + k)) ≤ 0) from by first | exact ret1 c_42 | exact ret0 (fun h => h c_42)) ?_
          exact J50_3 ls hl
        ·
          refine lv_iconst (v := nI 1) hx hb dX4_latest_45 kc_iconst_1 ?_
          refine lv_goto (tgt := 50) hx hb dX4_latest_46 (by decide) ?_
          have hl : lv_has ls 7 [(4, .int (nI k)), (3, .int (foI (lfN sa r w k))), (0, .ref (m9 0)), (1, .int (nI r)), (2, .int (nI w))] := lv_sub hl [0, 1, 2, 3, 4] rfl
          refine r_top hx (show nI 1 = b2 (¬ sa (24 + (4 * (4 * (6 * r + w) + 0) + k)) ≤ 0) from by first | exact ret1 c_42 | exact ret0 (fun h => h c_42)) ?_
          exact J50_3 ls hl
  have hl : lv_has ls 7 [(4, .int (nI 0)), (3, .int (-1)), (0, .ref (m9 0)), (1, .int (nI r)), (2, .int (nI w))] := lv_sub hl [0, 1, 2, 3, 4] rfl
  have hl : lv_has ls 7 [(4, .int (nI 0)), (3, .int (foI (lfN sa r w 0))), (0, .ref (m9 0)), (1, .int (nI r)), (2, .int (nI w))] := lv_rep hl 1 rfl (congrArg Value.int (show (-1) = foI (lfN sa r w 0) from rfl))
  exact L27_1 (4 + 1) (0) (by omega) (by omega) ls hl
abbrev rmX4_latest_e1 : Room := { frames := 3, cells := 0, slots := 0, locals := 63 }
set_option maxHeartbeats 4000000 in
set_option maxRecDepth 100000 in
theorem c_X4_latest_e1 (l : Launch) (D : va_G) (sz : Nat) (cI : ClassId) (m9 : Nat → Nat) (sa : Nat → Int32) (tx : Nat → Nat) (th : Int32) (sv ln po : Nat) (lt fi sc nu : Int32) (ad rv : Nat) (p0 p1 : Int32) (hv : ¬ (inP p0 (nI 0) (nI 3) ∧ inP p1 (nI 0) (nI 5))) : MUi l yX4_latest wsX4_latest rmX4_latest_e1 [.ref (m9 0), .int p0, .int p1] D [(cI, .int)] (wM cI m9 sa tx th sv ln po lt fi sc nu ad rv) sz (fun rz (_ : Unit) => rz = nI 0) (fun _ => []) (fun _ => wM cI m9 sa tx (nI 1) sv ln po lt fi sc nu ad rv) 0 0 := by
  refine met_u (own := RX4) (cc := cX4_latest) (maxL := 7) (ty := .int) (by decide) rfl rfl (Nat.le_of_ble_eq_true rfl) ?_
  intro p e s m args below meth c Q A hsz S hw hA hE ls hl
  obtain ⟨hx, hb, hml, hown, hts⟩ := id S
  have hl : lv_has ls 7 [(0, .ref (m9 0)), (1, .int p0), (2, .int p1)] := hl
  refine lv_aload_n hx hb dX4_latest_0 rfl (lv_at hl 0 rfl) ?_
  refine lv_iload_n hx hb dX4_latest_1 rfl (lv_at hl 1 rfl) ?_
  refine lv_iload_n hx hb dX4_latest_2 rfl (lv_at hl 2 rfl) ?_
  refine cq_S (As := [.int p0, .int p1]) (rest := [.ref (m9 0)]) S (c_X4_isRow l D (x := p0) (y := p1)) (va_cwS 2 hts gX4_latest_X4_isRow rfl rfl rfl (by decide +kernel) ⟨Nat.le_of_ble_eq_true rfl, Nat.le_of_ble_eq_true rfl⟩) (hw.q.sub [] [] rfl rfl) rfl hl.1 (Nat.le_of_ble_eq_true rfl) ⟨Nat.le_of_ble_eq_true rfl, Nat.le_of_ble_eq_true rfl⟩ rfl dX4_latest_3 (fun r_3 e_3 => ?_)
  have e_3 : r_3 = b2 (inP p0 (nI 0) (nI 3) ∧ inP p1 (nI 0) (nI 5)) := e_3
  subst e_3
  refine r_if_eqB (tgt := 13) hx hb dX4_latest_6 (by decide) (fun _ => ?_) (fun h => absurd h (hv))
  refine lv_iconst (v := nI 1) hx hb dX4_latest_13 kc_iconst_1 ?_
  refine cu_Vi (As := [.int (nI 1)]) (rest := []) (wc := wM cI m9 sa tx th sv ln po lt fi sc nu ad rv) (wr := []) S (c_X4_holds l D (sz := s.heap.size) (cI := cI) (m9 := m9) (sa := sa) (tx := tx) (th := th) (sv := sv) (ln := ln) (po := po) (lt := lt) (fi := fi) (sc := sc) (nu := nu) (ad := ad) (rv := rv) (x := nI 1)) (cwV 1 hts gX4_latest_X4_holds rfl rfl rfl (by decide +kernel) ⟨Nat.le_of_ble_eq_true rfl, Nat.le_of_ble_eq_true rfl⟩) hw hA [0, 1, 2] [] [0] rfl rfl rfl (by decide) (by decide) (by decide) 0 rfl rfl rfl hl.1 (Nat.le_of_ble_eq_true rfl) ⟨Nat.le_of_ble_eq_true rfl, Nat.le_of_ble_eq_true rfl⟩ rfl dX4_latest_14 (fun r_14 u_14 H locs e_14 hw => ?_)
  have hw : Wd D A [(cI, .int)] (wM cI m9 sa tx (nI 1) sv ln po lt fi sc nu ad rv) s s.heap H locs := hw
  have e_14 : r_14 = b2 ((nI 1) = 0) := e_14
  subst e_14
  refine r_if_neB (tgt := 22) hx hb dX4_latest_17 (by decide) (fun h => absurd h (by decide)) (fun _ => ?_)
  refine lv_iconst (v := nI 0) hx hb dX4_latest_20 kc_iconst_0 ?_
  exact hE () dX4_latest_21 (rfl) (Nat.le_of_ble_eq_true rfl) (Nat.le_of_ble_eq_true rfl) (hw.sub [0, 1, 2] [] (by decide) rfl rfl) (show nI 0 = nI 0 from rfl)
abbrev rmX4_greatest_e1 : Room := { frames := 3, cells := 0, slots := 0, locals := 63 }
set_option maxHeartbeats 4000000 in
set_option maxRecDepth 100000 in
theorem c_X4_greatest_e1 (l : Launch) (D : va_G) (sz : Nat) (cI : ClassId) (m9 : Nat → Nat) (sa : Nat → Int32) (tx : Nat → Nat) (th : Int32) (sv ln po : Nat) (lt fi sc nu : Int32) (ad rv : Nat) (p0 p1 : Int32) (hv : ¬ (inP p0 (nI 0) (nI 3) ∧ inP p1 (nI 0) (nI 5))) : MUi l yX4_greatest wsX4_greatest rmX4_greatest_e1 [.ref (m9 0), .int p0, .int p1] D [(cI, .int)] (wM cI m9 sa tx th sv ln po lt fi sc nu ad rv) sz (fun rz (_ : Unit) => rz = nI 0) (fun _ => []) (fun _ => wM cI m9 sa tx (nI 1) sv ln po lt fi sc nu ad rv) 0 0 := by
  refine met_u (own := RX4) (cc := cX4_greatest) (maxL := 3) (ty := .int) (by decide) rfl rfl (Nat.le_of_ble_eq_true rfl) ?_
  intro p e s m args below meth c Q A hsz S hw hA hE ls hl
  obtain ⟨hx, hb, hml, hown, hts⟩ := id S
  have hl : lv_has ls 3 [(0, .ref (m9 0)), (1, .int p0), (2, .int p1)] := hl
  refine lv_aload_n hx hb dX4_greatest_0 rfl (lv_at hl 0 rfl) ?_
  refine lv_iload_n hx hb dX4_greatest_1 rfl (lv_at hl 1 rfl) ?_
  refine lv_iload_n hx hb dX4_greatest_2 rfl (lv_at hl 2 rfl) ?_
  refine cq_S (As := [.int p0, .int p1]) (rest := [.ref (m9 0)]) S (c_X4_isRow l D (x := p0) (y := p1)) (va_cwS 2 hts gX4_greatest_X4_isRow rfl rfl rfl (by decide +kernel) ⟨Nat.le_of_ble_eq_true rfl, Nat.le_of_ble_eq_true rfl⟩) (hw.q.sub [] [] rfl rfl) rfl hl.1 (Nat.le_of_ble_eq_true rfl) ⟨Nat.le_of_ble_eq_true rfl, Nat.le_of_ble_eq_true rfl⟩ rfl dX4_greatest_3 (fun r_3 e_3 => ?_)
  have e_3 : r_3 = b2 (inP p0 (nI 0) (nI 3) ∧ inP p1 (nI 0) (nI 5)) := e_3
  subst e_3
  refine r_if_eqB (tgt := 13) hx hb dX4_greatest_6 (by decide) (fun _ => ?_) (fun h => absurd h (hv))
  refine lv_iconst (v := nI 1) hx hb dX4_greatest_13 kc_iconst_1 ?_
  refine cu_Vi (As := [.int (nI 1)]) (rest := []) (wc := wM cI m9 sa tx th sv ln po lt fi sc nu ad rv) (wr := []) S (c_X4_holds l D (sz := s.heap.size) (cI := cI) (m9 := m9) (sa := sa) (tx := tx) (th := th) (sv := sv) (ln := ln) (po := po) (lt := lt) (fi := fi) (sc := sc) (nu := nu) (ad := ad) (rv := rv) (x := nI 1)) (cwV 1 hts gX4_greatest_X4_holds rfl rfl rfl (by decide +kernel) ⟨Nat.le_of_ble_eq_true rfl, Nat.le_of_ble_eq_true rfl⟩) hw hA [0, 1, 2] [] [0] rfl rfl rfl (by decide) (by decide) (by decide) 0 rfl rfl rfl hl.1 (Nat.le_of_ble_eq_true rfl) ⟨Nat.le_of_ble_eq_true rfl, Nat.le_of_ble_eq_true rfl⟩ rfl dX4_greatest_14 (fun r_14 u_14 H locs e_14 hw => ?_)
  have hw : Wd D A [(cI, .int)] (wM cI m9 sa tx (nI 1) sv ln po lt fi sc nu ad rv) s s.heap H locs := hw
  have e_14 : r_14 = b2 ((nI 1) = 0) := e_14
  subst e_14
  refine r_if_eqB (tgt := 29) hx hb dX4_greatest_17 (by decide) (fun _ => ?_) (fun h => absurd h (by decide))
  refine lv_iconst (v := nI 0) hx hb dX4_greatest_29 kc_iconst_0 ?_
  exact hE () dX4_greatest_30 (rfl) (Nat.le_of_ble_eq_true rfl) (Nat.le_of_ble_eq_true rfl) (hw.sub [0, 1, 2] [] (by decide) rfl rfl) (show nI 0 = nI 0 from rfl)
abbrev rmX4_counter_e1 : Room := { frames := 3, cells := 0, slots := 0, locals := 63 }
set_option maxHeartbeats 4000000 in
set_option maxRecDepth 100000 in
theorem c_X4_counter_e1 (l : Launch) (D : va_G) (sz : Nat) (cI : ClassId) (m9 : Nat → Nat) (sa : Nat → Int32) (tx : Nat → Nat) (th : Int32) (sv ln po : Nat) (lt fi sc nu : Int32) (ad rv : Nat) (p0 p1 : Int32) (hv : ¬ (inP p0 (nI 0) (nI 3) ∧ inP p1 (nI 0) (nI 5))) : MUi l yX4_counter wsX4_counter rmX4_counter_e1 [.ref (m9 0), .int p0, .int p1] D [(cI, .int)] (wM cI m9 sa tx th sv ln po lt fi sc nu ad rv) sz (fun rz (_ : Unit) => rz = nI 0) (fun _ => []) (fun _ => wM cI m9 sa tx (nI 1) sv ln po lt fi sc nu ad rv) 0 0 := by
  refine met_u (own := RX4) (cc := cX4_counter) (maxL := 3) (ty := .int) (by decide) rfl rfl (Nat.le_of_ble_eq_true rfl) ?_
  intro p e s m args below meth c Q A hsz S hw hA hE ls hl
  obtain ⟨hx, hb, hml, hown, hts⟩ := id S
  have hl : lv_has ls 3 [(0, .ref (m9 0)), (1, .int p0), (2, .int p1)] := hl
  refine lv_aload_n hx hb dX4_counter_0 rfl (lv_at hl 0 rfl) ?_
  refine lv_iload_n hx hb dX4_counter_1 rfl (lv_at hl 1 rfl) ?_
  refine lv_iload_n hx hb dX4_counter_2 rfl (lv_at hl 2 rfl) ?_
  refine cq_S (As := [.int p0, .int p1]) (rest := [.ref (m9 0)]) S (c_X4_isRow l D (x := p0) (y := p1)) (va_cwS 2 hts gX4_counter_X4_isRow rfl rfl rfl (by decide +kernel) ⟨Nat.le_of_ble_eq_true rfl, Nat.le_of_ble_eq_true rfl⟩) (hw.q.sub [] [] rfl rfl) rfl hl.1 (Nat.le_of_ble_eq_true rfl) ⟨Nat.le_of_ble_eq_true rfl, Nat.le_of_ble_eq_true rfl⟩ rfl dX4_counter_3 (fun r_3 e_3 => ?_)
  have e_3 : r_3 = b2 (inP p0 (nI 0) (nI 3) ∧ inP p1 (nI 0) (nI 5)) := e_3
  subst e_3
  refine r_if_eqB (tgt := 13) hx hb dX4_counter_6 (by decide) (fun _ => ?_) (fun h => absurd h (hv))
  refine lv_iconst (v := nI 1) hx hb dX4_counter_13 kc_iconst_1 ?_
  refine cu_Vi (As := [.int (nI 1)]) (rest := []) (wc := wM cI m9 sa tx th sv ln po lt fi sc nu ad rv) (wr := []) S (c_X4_holds l D (sz := s.heap.size) (cI := cI) (m9 := m9) (sa := sa) (tx := tx) (th := th) (sv := sv) (ln := ln) (po := po) (lt := lt) (fi := fi) (sc := sc) (nu := nu) (ad := ad) (rv := rv) (x := nI 1)) (cwV 1 hts gX4_counter_X4_holds rfl rfl rfl (by decide +kernel) ⟨Nat.le_of_ble_eq_true rfl, Nat.le_of_ble_eq_true rfl⟩) hw hA [0, 1, 2] [] [0] rfl rfl rfl (by decide) (by decide) (by decide) 0 rfl rfl rfl hl.1 (Nat.le_of_ble_eq_true rfl) ⟨Nat.le_of_ble_eq_true rfl, Nat.le_of_ble_eq_true rfl⟩ rfl dX4_counter_14 (fun r_14 u_14 H locs e_14 hw => ?_)
  have hw : Wd D A [(cI, .int)] (wM cI m9 sa tx (nI 1) sv ln po lt fi sc nu ad rv) s s.heap H locs := hw
  have e_14 : r_14 = b2 ((nI 1) = 0) := e_14
  subst e_14
  refine r_if_eqB (tgt := 30) hx hb dX4_counter_17 (by decide) (fun _ => ?_) (fun h => absurd h (by decide))
  refine lv_iconst (v := nI 0) hx hb dX4_counter_30 kc_iconst_0 ?_
  exact hE () dX4_counter_31 (rfl) (Nat.le_of_ble_eq_true rfl) (Nat.le_of_ble_eq_true rfl) (hw.sub [0, 1, 2] [] (by decide) rfl rfl) (show nI 0 = nI 0 from rfl)
abbrev rmX4_elements_e1 : Room := { frames := 3, cells := 0, slots := 0, locals := 63 }
set_option maxHeartbeats 4000000 in
set_option maxRecDepth 100000 in
theorem c_X4_elements_e1 (l : Launch) (D : va_G) (sz : Nat) (cI : ClassId) (m9 : Nat → Nat) (sa : Nat → Int32) (tx : Nat → Nat) (th : Int32) (sv ln po : Nat) (lt fi sc nu : Int32) (ad rv : Nat) (p0 p1 : Int32) (hv : ¬ (inP p0 (nI 0) (nI 3) ∧ inP p1 (nI 0) (nI 5))) : MUi l yX4_elements wsX4_elements rmX4_elements_e1 [.ref (m9 0), .int p0, .int p1] D [(cI, .int)] (wM cI m9 sa tx th sv ln po lt fi sc nu ad rv) sz (fun rz (_ : Unit) => rz = nI 0) (fun _ => []) (fun _ => wM cI m9 sa tx (nI 1) sv ln po lt fi sc nu ad rv) 0 0 := by
  refine met_u (own := RX4) (cc := cX4_elements) (maxL := 5) (ty := .int) (by decide) rfl rfl (Nat.le_of_ble_eq_true rfl) ?_
  intro p e s m args below meth c Q A hsz S hw hA hE ls hl
  obtain ⟨hx, hb, hml, hown, hts⟩ := id S
  have hl : lv_has ls 5 [(0, .ref (m9 0)), (1, .int p0), (2, .int p1)] := hl
  refine lv_aload_n hx hb dX4_elements_0 rfl (lv_at hl 0 rfl) ?_
  refine lv_iload_n hx hb dX4_elements_1 rfl (lv_at hl 1 rfl) ?_
  refine lv_iload_n hx hb dX4_elements_2 rfl (lv_at hl 2 rfl) ?_
  refine cq_S (As := [.int p0, .int p1]) (rest := [.ref (m9 0)]) S (c_X4_isRow l D (x := p0) (y := p1)) (va_cwS 2 hts gX4_elements_X4_isRow rfl rfl rfl (by decide +kernel) ⟨Nat.le_of_ble_eq_true rfl, Nat.le_of_ble_eq_true rfl⟩) (hw.q.sub [] [] rfl rfl) rfl hl.1 (Nat.le_of_ble_eq_true rfl) ⟨Nat.le_of_ble_eq_true rfl, Nat.le_of_ble_eq_true rfl⟩ rfl dX4_elements_3 (fun r_3 e_3 => ?_)
  have e_3 : r_3 = b2 (inP p0 (nI 0) (nI 3) ∧ inP p1 (nI 0) (nI 5)) := e_3
  subst e_3
  refine r_if_eqB (tgt := 13) hx hb dX4_elements_6 (by decide) (fun _ => ?_) (fun h => absurd h (hv))
  refine lv_iconst (v := nI 1) hx hb dX4_elements_13 kc_iconst_1 ?_
  refine cu_Vi (As := [.int (nI 1)]) (rest := []) (wc := wM cI m9 sa tx th sv ln po lt fi sc nu ad rv) (wr := []) S (c_X4_holds l D (sz := s.heap.size) (cI := cI) (m9 := m9) (sa := sa) (tx := tx) (th := th) (sv := sv) (ln := ln) (po := po) (lt := lt) (fi := fi) (sc := sc) (nu := nu) (ad := ad) (rv := rv) (x := nI 1)) (cwV 1 hts gX4_elements_X4_holds rfl rfl rfl (by decide +kernel) ⟨Nat.le_of_ble_eq_true rfl, Nat.le_of_ble_eq_true rfl⟩) hw hA [0, 1, 2] [] [0] rfl rfl rfl (by decide) (by decide) (by decide) 0 rfl rfl rfl hl.1 (Nat.le_of_ble_eq_true rfl) ⟨Nat.le_of_ble_eq_true rfl, Nat.le_of_ble_eq_true rfl⟩ rfl dX4_elements_14 (fun r_14 u_14 H locs e_14 hw => ?_)
  have hw : Wd D A [(cI, .int)] (wM cI m9 sa tx (nI 1) sv ln po lt fi sc nu ad rv) s s.heap H locs := hw
  have e_14 : r_14 = b2 ((nI 1) = 0) := e_14
  subst e_14
  refine r_if_neB (tgt := 22) hx hb dX4_elements_17 (by decide) (fun h => absurd h (by decide)) (fun _ => ?_)
  refine lv_iconst (v := nI 0) hx hb dX4_elements_20 kc_iconst_0 ?_
  exact hE () dX4_elements_21 (rfl) (Nat.le_of_ble_eq_true rfl) (Nat.le_of_ble_eq_true rfl) (hw.sub [0, 1, 2] [] (by decide) rfl rfl) (show nI 0 = nI 0 from rfl)
abbrev rmX4_sibling_v : Room := { frames := 3, cells := 0, slots := 0, locals := 63 }
set_option maxHeartbeats 4000000 in
set_option maxRecDepth 100000 in
theorem c_X4_sibling_v (l : Launch) (D : va_G) (sz : Nat) (cI : ClassId) (m9 : Nat → Nat) (sa : Nat → Int32) (tx : Nat → Nat) (th : Int32) (sv ln po : Nat) (lt fi sc nu : Int32) (ad rv : Nat) (r w : Nat) (x : Int32) (hr : r < 4) (hw5 : w < 6) (hx0 : ¬ x < 0) : MUi l yX4_sibling wsX4_sibling rmX4_sibling_v [.ref (m9 0), .int (nI r), .int (nI w), .int x] D [(cI, .int)] (wM cI m9 sa tx th sv ln po lt fi sc nu ad rv) sz (fun rz (_ : Unit) => rz = sbM sa r w x 4 0) (fun _ => []) (fun _ => wM cI m9 sa tx (nI 0) sv ln po lt fi sc nu ad rv) 0 0 := by
  refine met_u (own := RX4) (cc := cX4_sibling) (maxL := 10) (ty := .int) (by decide) rfl rfl (Nat.le_of_ble_eq_true rfl) ?_
  intro p e s m args below meth c Q A hsz S hw hA hE ls hl
  obtain ⟨hx, hb, hml, hown, hts⟩ := id S
  have hl : lv_has ls 10 [(0, .ref (m9 0)), (1, .int (nI r)), (2, .int (nI w)), (3, .int x)] := hl
  refine lv_aload_n hx hb dX4_sibling_0 rfl (lv_at hl 0 rfl) ?_
  refine lv_iload_n hx hb dX4_sibling_1 rfl (lv_at hl 1 rfl) ?_
  refine lv_iload_n hx hb dX4_sibling_2 rfl (lv_at hl 2 rfl) ?_
  refine cq_S (As := [.int (nI r), .int (nI w)]) (rest := [.ref (m9 0)]) S (c_X4_isRow l D (x := nI r) (y := nI w)) (va_cwS 2 hts gX4_sibling_X4_isRow rfl rfl rfl (by decide +kernel) ⟨Nat.le_of_ble_eq_true rfl, Nat.le_of_ble_eq_true rfl⟩) (hw.q.sub [] [] rfl rfl) rfl hl.1 (Nat.le_of_ble_eq_true rfl) ⟨Nat.le_of_ble_eq_true rfl, Nat.le_of_ble_eq_true rfl⟩ rfl dX4_sibling_3 (fun r_3 e_3 => ?_)
  have e_3 : r_3 = b2 (inP (nI r) (nI 0) (nI 3) ∧ inP (nI w) (nI 0) (nI 5)) := e_3
  subst e_3
  refine r_if_eqB (tgt := 17) hx hb dX4_sibling_6 (by decide) (fun h => absurd (rowP_n hr hw5) h) (fun _ => ?_)
  refine lv_iload_n hx hb dX4_sibling_9 rfl (lv_at hl 3 rfl) ?_
  refine lv_if_lt (tgt := 17) hx hb dX4_sibling_10 (by decide) (fun h => absurd h (hx0)) (fun _ => ?_)
  refine lv_iconst (v := nI 0) hx hb dX4_sibling_13 kc_iconst_0 ?_
  refine lv_goto (tgt := 18) hx hb dX4_sibling_14 (by decide) ?_
  refine cu_Vi (As := [.int (nI 0)]) (rest := []) (wc := wM cI m9 sa tx th sv ln po lt fi sc nu ad rv) (wr := []) S (c_X4_holds l D (sz := s.heap.size) (cI := cI) (m9 := m9) (sa := sa) (tx := tx) (th := th) (sv := sv) (ln := ln) (po := po) (lt := lt) (fi := fi) (sc := sc) (nu := nu) (ad := ad) (rv := rv) (x := nI 0)) (cwV 1 hts gX4_sibling_X4_holds rfl rfl rfl (by decide +kernel) ⟨Nat.le_of_ble_eq_true rfl, Nat.le_of_ble_eq_true rfl⟩) hw hA [0, 1, 2] [] [0] rfl rfl rfl (by decide) (by decide) (by decide) 0 rfl rfl rfl hl.1 (Nat.le_of_ble_eq_true rfl) ⟨Nat.le_of_ble_eq_true rfl, Nat.le_of_ble_eq_true rfl⟩ rfl dX4_sibling_18 (fun r_18 u_18 H locs e_18 hw => ?_)
  have hw : Wd D A [(cI, .int)] (wM cI m9 sa tx (nI 0) sv ln po lt fi sc nu ad rv) s s.heap H locs := hw
  have e_18 : r_18 = b2 ((nI 0) = 0) := e_18
  subst e_18
  refine r_if_neB (tgt := 26) hx hb dX4_sibling_21 (by decide) (fun _ => ?_) (fun h => absurd (rfl) h)
  refine lv_iconst (v := nI 0) hx hb dX4_sibling_26 kc_iconst_0 ?_
  refine lv_istore (lv' := [(4, .int (nI 0)), (0, .ref (m9 0)), (1, .int (nI r)), (2, .int (nI w)), (3, .int x)]) hx hb dX4_sibling_27 hl (by decide) rfl (fun ls hl => ?_)
  have L29_1 : ∀ (fu_2 k : Nat), k ≤ 4 → 4 - k < fu_2 → (sbM sa r w x 4 0 = sbM sa r w x (4 - k) k) → ∀ ls : Array Slot, lv_has ls 10 [(4, .int (nI k)), (0, .ref (m9 0)), (1, .int (nI r)), (2, .int (nI w)), (3, .int x)] → W p l e rmX4_sibling_v s m args below meth c H locs 0 0 Q (F0 m 29 ls []) := by
    intro fu_2
    induction fu_2 with
    | zero => intro k _ h9; exact absurd h9 (Nat.not_lt_zero _)
    | succ fu_2 ih_29 =>
      intro k hk_29 hf_29 hs ls hl
      refine lv_iload hx hb dX4_sibling_29 (lv_at hl 0 rfl) ?_
      refine lv_iconst (v := nI 4) hx hb dX4_sibling_31 kc_iconst_4 ?_
      refine r_icmp_geN (tgt := 157) hx hb (by omega) (by omega) dX4_sibling_32 (by decide) (fun c_32 => ?_) (fun c_32 => ?_)
      ·
        refine lv_iconst (v := (-1)) hx hb dX4_sibling_157 kc_iconst_m1 ?_
        exact hE () dX4_sibling_158 (rfl) (Nat.le_of_ble_eq_true rfl) (Nat.le_of_ble_eq_true rfl) (hw.sub [0, 1, 2] [] (by decide) rfl rfl) (show (-1) = sbM sa r w x 4 0 from by rw [hs, show 4 - k = 0 by omega]; rfl)
      ·
        refine lv_iconst (v := nI 0) hx hb dX4_sibling_35 kc_iconst_0 ?_
        refine lv_istore (lv' := [(5, .int (nI 0)), (4, .int (nI k)), (0, .ref (m9 0)), (1, .int (nI r)), (2, .int (nI w)), (3, .int x)]) hx hb dX4_sibling_36 hl (by decide) rfl (fun ls hl => ?_)
        refine lv_aload_n hx hb dX4_sibling_38 rfl (lv_at hl 2 rfl) ?_
        refine lv_iload_n hx hb dX4_sibling_39 rfl (lv_at hl 3 rfl) ?_
        refine lv_iload_n hx hb dX4_sibling_40 rfl (lv_at hl 4 rfl) ?_
        refine lv_iconst (v := nI 1) hx hb dX4_sibling_41 kc_iconst_1 ?_
        refine lv_iload hx hb dX4_sibling_42 (lv_at hl 1 rfl) ?_
        refine cq_V (As := [.int (nI r), .int (nI w), .int (nI 1), .int (nI k)]) (rest := []) S (c_X4_value l D (cI := cI) (m9 := m9) (sa := sa) (tx := tx) (th := (nI 0)) (sv := sv) (ln := ln) (po := po) (lt := lt) (fi := fi) (sc := sc) (nu := nu) (ad := ad) (rv := rv) (r := r) (w := w) (c9 := 1) (k9 := k) (hr := by omega) (hw5 := by omega) (hc := by omega) (hk9 := by omega)) (cwV 4 hts gX4_sibling_X4_value rfl rfl rfl (by decide +kernel) ⟨Nat.le_of_ble_eq_true rfl, Nat.le_of_ble_eq_true rfl⟩) (hw.q.sub [0, 1, 2] [0] rfl rfl) 0 rfl rfl rfl hl.1 (Nat.le_of_ble_eq_true rfl) ⟨Nat.le_of_ble_eq_true rfl, Nat.le_of_ble_eq_true rfl⟩ rfl dX4_sibling_44 (fun r_44 e_44 => ?_)
        have e_44 : r_44 = sa (408 + (4 * (4 * (6 * r + w) + 1) + k)) := e_44
        subst e_44
        refine lv_istore (lv' := [(6, .int (sa (408 + (4 * (4 * (6 * r + w) + 1) + k)))), (5, .int (nI 0)), (4, .int (nI k)), (0, .ref (m9 0)), (1, .int (nI r)), (2, .int (nI w)), (3, .int x)]) hx hb dX4_sibling_47 hl (by decide) rfl (fun ls hl => ?_)
        refine lv_iconst (v := nI 0) hx hb dX4_sibling_49 kc_iconst_0 ?_
        refine lv_istore (lv' := [(7, .int (nI 0)), (6, .int (sa (408 + (4 * (4 * (6 * r + w) + 1) + k)))), (5, .int (nI 0)), (4, .int (nI k)), (0, .ref (m9 0)), (1, .int (nI r)), (2, .int (nI w)), (3, .int x)]) hx hb dX4_sibling_50 hl (by decide) rfl (fun ls hl => ?_)
        have L52_3 : ∀ (fu_4 j : Nat), j ≤ 4 → 4 - j < fu_4 → ∀ ls : Array Slot, lv_has ls 10 [(7, .int (nI j)), (6, .int (sa (408 + (4 * (4 * (6 * r + w) + 1) + k)))), (5, .int (nI (ahM sa r w k j))), (4, .int (nI k)), (0, .ref (m9 0)), (1, .int (nI r)), (2, .int (nI w)), (3, .int x)] → W p l e rmX4_sibling_v s m args below meth c H locs 0 0 Q (F0 m 52 ls []) := by
          intro fu_4
          induction fu_4 with
          | zero => intro j _ h9; exact absurd h9 (Nat.not_lt_zero _)
          | succ fu_4 ih_52 =>
            intro j hk_52 hf_52 ls hl
            refine lv_iload hx hb dX4_sibling_52 (lv_at hl 0 rfl) ?_
            refine lv_iconst (v := nI 4) hx hb dX4_sibling_54 kc_iconst_4 ?_
            refine r_icmp_geN (tgt := 130) hx hb (by omega) (by omega) dX4_sibling_55 (by decide) (fun c_55 => ?_) (fun c_55 => ?_)
            ·
              refine lv_aload_n hx hb dX4_sibling_130 rfl (lv_at hl 4 rfl) ?_
              refine lv_iload_n hx hb dX4_sibling_131 rfl (lv_at hl 5 rfl) ?_
              refine lv_iload_n hx hb dX4_sibling_132 rfl (lv_at hl 6 rfl) ?_
              refine lv_iconst (v := nI 1) hx hb dX4_sibling_133 kc_iconst_1 ?_
              refine lv_iload hx hb dX4_sibling_134 (lv_at hl 3 rfl) ?_
              refine cq_V (As := [.int (nI r), .int (nI w), .int (nI 1), .int (nI k)]) (rest := []) S (c_X4_mark l D (cI := cI) (m9 := m9) (sa := sa) (tx := tx) (th := (nI 0)) (sv := sv) (ln := ln) (po := po) (lt := lt) (fi := fi) (sc := sc) (nu := nu) (ad := ad) (rv := rv) (r := r) (w := w) (c9 := 1) (k9 := k) (hr := by omega) (hw5 := by omega) (hc := by omega) (hk9 := by omega)) (cwV 4 hts gX4_sibling_X4_mark rfl rfl rfl (by decide +kernel) ⟨Nat.le_of_ble_eq_true rfl, Nat.le_of_ble_eq_true rfl⟩) (hw.q.sub [0, 1, 2] [0] rfl rfl) 0 rfl rfl rfl hl.1 (Nat.le_of_ble_eq_true rfl) ⟨Nat.le_of_ble_eq_true rfl, Nat.le_of_ble_eq_true rfl⟩ rfl dX4_sibling_136 (fun r_136 e_136 => ?_)
              have e_136 : r_136 = sa (24 + (4 * (4 * (6 * r + w) + 1) + k)) := e_136
              subst e_136
              refine lv_if_le (tgt := 151) hx hb dX4_sibling_139 (by decide) (fun c_139 => ?_) (fun c_139 => ?_)
              ·
                refine lv_iinc (v := nI (k + 1)) (lv' := [(4, .int (nI (k + 1))), (7, .int (nI j)), (6, .int (sa (408 + (4 * (4 * (6 * r + w) + 1) + k)))), (5, .int (nI (ahM sa r w k j))), (0, .ref (m9 0)), (1, .int (nI r)), (2, .int (nI w)), (3, .int x)]) hx hb dX4_sibling_151 hl (k := 3) rfl (nI_add k 1) (by decide) rfl (fun ls hl => ?_)
                refine lv_goto (tgt := 29) hx hb dX4_sibling_154 (by decide) ?_
                have hl : lv_has ls 10 [(4, .int (nI (k + 1))), (0, .ref (m9 0)), (1, .int (nI r)), (2, .int (nI w)), (3, .int x)] := lv_sub hl [0, 4, 5, 6, 7] rfl
                exact ih_29 (k + 1) (by omega) (by omega) (by rw [hs, show 4 - k = (4 - (k + 1)) + 1 by omega]; first | exact sbM_n (j := j) (by omega) (fun h => h.1 c_139) | exact sbM_n (j := j) (by omega) (fun h => c_145 h.2)) ls hl
              ·
                refine lv_iload hx hb dX4_sibling_142 (lv_at hl 2 rfl) ?_
                refine lv_iload_n hx hb dX4_sibling_144 rfl (lv_at hl 7 rfl) ?_
                refine lv_icmp_ne (tgt := 151) hx hb dX4_sibling_145 (by decide) (fun c_145 => ?_) (fun c_145 => ?_)
                ·
                  refine lv_iinc (v := nI (k + 1)) (lv' := [(4, .int (nI (k + 1))), (7, .int (nI j)), (6, .int (sa (408 + (4 * (4 * (6 * r + w) + 1) + k)))), (5, .int (nI (ahM sa r w k j))), (0, .ref (m9 0)), (1, .int (nI r)), (2, .int (nI w)), (3, .int x)]) hx hb dX4_sibling_151 hl (k := 3) rfl (nI_add k 1) (by decide) rfl (fun ls hl => ?_)
                  refine lv_goto (tgt := 29) hx hb dX4_sibling_154 (by decide) ?_
                  have hl : lv_has ls 10 [(4, .int (nI (k + 1))), (0, .ref (m9 0)), (1, .int (nI r)), (2, .int (nI w)), (3, .int x)] := lv_sub hl [0, 4, 5, 6, 7] rfl
                  exact ih_29 (k + 1) (by omega) (by omega) (by rw [hs, show 4 - k = (4 - (k + 1)) + 1 by omega]; first | exact sbM_n (j := j) (by omega) (fun h => h.1 c_139) | exact sbM_n (j := j) (by omega) (fun h => c_145 h.2)) ls hl
                ·
                  refine lv_iload hx hb dX4_sibling_148 (lv_at hl 1 rfl) ?_
                  exact hE () dX4_sibling_150 (rfl) (Nat.le_of_ble_eq_true rfl) (Nat.le_of_ble_eq_true rfl) (hw.sub [0, 1, 2] [] (by decide) rfl rfl) (show sa (408 + (4 * (4 * (6 * r + w) + 1) + k)) = sbM sa r w x 4 0 from by rw [hs, show 4 - k = (4 - (k + 1)) + 1 by omega]; exact (sbM_p (j := j) (by omega) c_139 c_145).symm)
            ·
              refine lv_aload_n hx hb dX4_sibling_58 rfl (lv_at hl 4 rfl) ?_
              refine lv_iload_n hx hb dX4_sibling_59 rfl (lv_at hl 5 rfl) ?_
              refine lv_iload_n hx hb dX4_sibling_60 rfl (lv_at hl 6 rfl) ?_
              refine lv_iconst (v := nI 1) hx hb dX4_sibling_61 kc_iconst_1 ?_
              refine lv_iload hx hb dX4_sibling_62 (lv_at hl 0 rfl) ?_
              refine cq_V (As := [.int (nI r), .int (nI w), .int (nI 1), .int (nI j)]) (rest := []) S (c_X4_value l D (cI := cI) (m9 := m9) (sa := sa) (tx := tx) (th := (nI 0)) (sv := sv) (ln := ln) (po := po) (lt := lt) (fi := fi) (sc := sc) (nu := nu) (ad := ad) (rv := rv) (r := r) (w := w) (c9 := 1) (k9 := j) (hr := by omega) (hw5 := by omega) (hc := by omega) (hk9 := by omega)) (cwV 4 hts gX4_sibling_X4_value rfl rfl rfl (by decide +kernel) ⟨Nat.le_of_ble_eq_true rfl, Nat.le_of_ble_eq_true rfl⟩) (hw.q.sub [0, 1, 2] [0] rfl rfl) 0 rfl rfl rfl hl.1 (Nat.le_of_ble_eq_true rfl) ⟨Nat.le_of_ble_eq_true rfl, Nat.le_of_ble_eq_true rfl⟩ rfl dX4_sibling_64 (fun r_64 e_64 => ?_)
              have e_64 : r_64 = sa (408 + (4 * (4 * (6 * r + w) + 1) + j)) := e_64
              subst e_64
              refine lv_istore (lv' := [(8, .int (sa (408 + (4 * (4 * (6 * r + w) + 1) + j)))), (7, .int (nI j)), (6, .int (sa (408 + (4 * (4 * (6 * r + w) + 1) + k)))), (5, .int (nI (ahM sa r w k j))), (4, .int (nI k)), (0, .ref (m9 0)), (1, .int (nI r)), (2, .int (nI w)), (3, .int x)]) hx hb dX4_sibling_67 hl (by decide) rfl (fun ls hl => ?_)
              refine lv_aload_n hx hb dX4_sibling_69 rfl (lv_at hl 5 rfl) ?_
              refine lv_iload_n hx hb dX4_sibling_70 rfl (lv_at hl 6 rfl) ?_
              refine lv_iload_n hx hb dX4_sibling_71 rfl (lv_at hl 7 rfl) ?_
              refine lv_iconst (v := nI 1) hx hb dX4_sibling_72 kc_iconst_1 ?_
              refine lv_iload hx hb dX4_sibling_73 (lv_at hl 1 rfl) ?_
              refine cq_V (As := [.int (nI r), .int (nI w), .int (nI 1), .int (nI j)]) (rest := []) S (c_X4_mark l D (cI := cI) (m9 := m9) (sa := sa) (tx := tx) (th := (nI 0)) (sv := sv) (ln := ln) (po := po) (lt := lt) (fi := fi) (sc := sc) (nu := nu) (ad := ad) (rv := rv) (r := r) (w := w) (c9 := 1) (k9 := j) (hr := by omega) (hw5 := by omega) (hc := by omega) (hk9 := by omega)) (cwV 4 hts gX4_sibling_X4_mark rfl rfl rfl (by decide +kernel) ⟨Nat.le_of_ble_eq_true rfl, Nat.le_of_ble_eq_true rfl⟩) (hw.q.sub [0, 1, 2] [0] rfl rfl) 0 rfl rfl rfl hl.1 (Nat.le_of_ble_eq_true rfl) ⟨Nat.le_of_ble_eq_true rfl, Nat.le_of_ble_eq_true rfl⟩ rfl dX4_sibling_75 (fun r_75 e_75 => ?_)
              have e_75 : r_75 = sa (24 + (4 * (4 * (6 * r + w) + 1) + j)) := e_75
              subst e_75
              have J86_5 : ∀ ls : Array Slot, lv_has ls 10 [(8, .int (sa (408 + (4 * (4 * (6 * r + w) + 1) + j)))), (7, .int (nI j)), (6, .int (sa (408 + (4 * (4 * (6 * r + w) + 1) + k)))), (5, .int (nI (ahM sa r w k j))), (4, .int (nI k)), (0, .ref (m9 0)), (1, .int (nI r)), (2, .int (nI w)), (3, .int x)] → W p l e rmX4_sibling_v s m args below meth c H locs 0 0 Q (F0 m 86 ls [.int (b2 (¬ sa (24 + (4 * (4 * (6 * r + w) + 1) + j)) ≤ 0))]) := by
                intro ls hl
                refine lv_istore (lv' := [(9, .int (b2 (¬ sa (24 + (4 * (4 * (6 * r + w) + 1) + j)) ≤ 0))), (8, .int (sa (408 + (4 * (4 * (6 * r + w) + 1) + j)))), (7, .int (nI j)), (6, .int (sa (408 + (4 * (4 * (6 * r + w) + 1) + k)))), (5, .int (nI (ahM sa r w k j))), (4, .int (nI k)), (0, .ref (m9 0)), (1, .int (nI r)), (2, .int (nI w)), (3, .int x)]) hx hb dX4_sibling_86 hl (by decide) rfl (fun ls hl => ?_)
                refine lv_iload hx hb dX4_sibling_88 (lv_at hl 4 rfl) ?_
                refine lv_iload hx hb dX4_sibling_90 (lv_at hl 0 rfl) ?_
                have J121_6 : ∀ ls : Array Slot, lv_has ls 10 [(9, .int (b2 (¬ sa (24 + (4 * (4 * (6 * r + w) + 1) + j)) ≤ 0))), (8, .int (sa (408 + (4 * (4 * (6 * r + w) + 1) + j)))), (7, .int (nI j)), (6, .int (sa (408 + (4 * (4 * (6 * r + w) + 1) + k)))), (5, .int (nI (ahM sa r w k j))), (4, .int (nI k)), (0, .ref (m9 0)), (1, .int (nI r)), (2, .int (nI w)), (3, .int x)] → W p l e rmX4_sibling_v s m args below meth c H locs 0 0 Q (F0 m 121 ls [.int (nI (if ahP sa r w k j then 1 else 0)), .int (nI (ahM sa r w k j))]) := by
                  intro ls hl
                  refine r_addN hx hb dX4_sibling_121 ?_
                  refine lv_istore (lv' := [(5, .int (nI ((ahM sa r w k j) + (if ahP sa r w k j then 1 else 0)))), (9, .int (b2 (¬ sa (24 + (4 * (4 * (6 * r + w) + 1) + j)) ≤ 0))), (8, .int (sa (408 + (4 * (4 * (6 * r + w) + 1) + j)))), (7, .int (nI j)), (6, .int (sa (408 + (4 * (4 * (6 * r + w) + 1) + k)))), (4, .int (nI k)), (0, .ref (m9 0)), (1, .int (nI r)), (2, .int (nI w)), (3, .int x)]) hx hb dX4_sibling_122 hl (by decide) rfl (fun ls hl => ?_)
                  refine lv_iinc (v := nI (j + 1)) (lv' := [(7, .int (nI (j + 1))), (5, .int (nI ((ahM sa r w k j) + (if ahP sa r w k j then 1 else 0)))), (9, .int (b2 (¬ sa (24 + (4 * (4 * (6 * r + w) + 1) + j)) ≤ 0))), (8, .int (sa (408 + (4 * (4 * (6 * r + w) + 1) + j)))), (6, .int (sa (408 + (4 * (4 * (6 * r + w) + 1) + k)))), (4, .int (nI k)), (0, .ref (m9 0)), (1, .int (nI r)), (2, .int (nI w)), (3, .int x)]) hx hb dX4_sibling_124 hl (k := 3) rfl (nI_add j 1) (by decide) rfl (fun ls hl => ?_)
                  refine lv_goto (tgt := 52) hx hb dX4_sibling_127 (by decide) ?_
                  have hl : lv_has ls 10 [(7, .int (nI (j + 1))), (6, .int (sa (408 + (4 * (4 * (6 * r + w) + 1) + k)))), (5, .int (nI ((ahM sa r w k j) + (if ahP sa r w k j then 1 else 0)))), (4, .int (nI k)), (0, .ref (m9 0)), (1, .int (nI r)), (2, .int (nI w)), (3, .int x)] := lv_sub hl [0, 4, 1, 5, 6, 7, 8, 9] rfl
                  have hl : lv_has ls 10 [(7, .int (nI (j + 1))), (6, .int (sa (408 + (4 * (4 * (6 * r + w) + 1) + k)))), (5, .int (nI (ahM sa r w k (j + 1)))), (4, .int (nI k)), (0, .ref (m9 0)), (1, .int (nI r)), (2, .int (nI w)), (3, .int x)] := lv_rep hl 2 rfl (congrArg (fun z => Value.int (nI z)) (show (ahM sa r w k j) + (if ahP sa r w k j then 1 else 0) = ahM sa r w k (j + 1) from rfl))
                  exact ih_52 (j + 1) (by omega) (by omega) ls hl
                refine r_if_eqB (tgt := 120) hx hb dX4_sibling_92 (by decide) (fun c_92 => ?_) (fun c_92 => ?_)
                ·
                  refine lv_iconst (v := nI 0) hx hb dX4_sibling_120 kc_iconst_0 ?_
                  have hl : lv_has ls 10 [(9, .int (b2 (¬ sa (24 + (4 * (4 * (6 * r + w) + 1) + j)) ≤ 0))), (8, .int (sa (408 + (4 * (4 * (6 * r + w) + 1) + j)))), (7, .int (nI j)), (6, .int (sa (408 + (4 * (4 * (6 * r + w) + 1) + k)))), (5, .int (nI (ahM sa r w k j))), (4, .int (nI k)), (0, .ref (m9 0)), (1, .int (nI r)), (2, .int (nI w)), (3, .int x)] := lv_sub hl [0, 1, 2, 3, 4, 5, 6, 7, 8, 9] rfl
                  refine r_top hx (congrArg nI (show 0 = if ahP sa r w k j then 1 else 0 from by first | exact ah_p ⟨c_92, Or.inl c_99⟩ | exact ah_p ⟨c_92, Or.inr ⟨c_106, c_113⟩⟩ | exact ah_n (fun h => c_92 h.1) | exact ah_n (fun h => h.2.elim c_99 (fun z => c_106 z.1)) | exact ah_n (fun h => h.2.elim c_99 (fun z => absurd z.2 (Nat.not_lt.mpr c_113))))) ?_
                  exact J121_6 ls hl
                ·
                  refine lv_iload hx hb dX4_sibling_95 (lv_at hl 1 rfl) ?_
                  refine lv_iload hx hb dX4_sibling_97 (lv_at hl 3 rfl) ?_
                  refine lv_icmp_lt (tgt := 116) hx hb dX4_sibling_99 (by decide) (fun c_99 => ?_) (fun c_99 => ?_)
                  ·
                    refine lv_iconst (v := nI 1) hx hb dX4_sibling_116 kc_iconst_1 ?_
                    refine lv_goto (tgt := 121) hx hb dX4_sibling_117 (by decide) ?_
                    have hl : lv_has ls 10 [(9, .int (b2 (¬ sa (24 + (4 * (4 * (6 * r + w) + 1) + j)) ≤ 0))), (8, .int (sa (408 + (4 * (4 * (6 * r + w) + 1) + j)))), (7, .int (nI j)), (6, .int (sa (408 + (4 * (4 * (6 * r + w) + 1) + k)))), (5, .int (nI (ahM sa r w k j))), (4, .int (nI k)), (0, .ref (m9 0)), (1, .int (nI r)), (2, .int (nI w)), (3, .int x)] := lv_sub hl [0, 1, 2, 3, 4, 5, 6, 7, 8, 9] rfl
                    refine r_top hx (congrArg nI (show 1 = if ahP sa r w k j then 1 else 0 from by first | exact ah_p ⟨c_92, Or.inl c_99⟩ | exact ah_p ⟨c_92, Or.inr ⟨c_106, c_113⟩⟩ | exact ah_n (fun h => c_92 h.1) | exact ah_n (fun h => h.2.elim c_99 (fun z => c_106 z.1)) | exact ah_n (fun h => h.2.elim c_99 (fun z => absurd z.2 (Nat.not_lt.mpr c_113))))) ?_
                    exact J121_6 ls hl
                  ·
                    refine lv_iload hx hb dX4_sibling_102 (lv_at hl 1 rfl) ?_
                    refine lv_iload hx hb dX4_sibling_104 (lv_at hl 3 rfl) ?_
                    refine lv_icmp_ne (tgt := 120) hx hb dX4_sibling_106 (by decide) (fun c_106 => ?_) (fun c_106 => ?_)
                    ·
                      refine lv_iconst (v := nI 0) hx hb dX4_sibling_120 kc_iconst_0 ?_
                      have hl : lv_has ls 10 [(9, .int (b2 (¬ sa (24 + (4 * (4 * (6 * r + w) + 1) + j)) ≤ 0))), (8, .int (sa (408 + (4 * (4 * (6 * r + w) + 1) + j)))), (7, .int (nI j)), (6, .int (sa (408 + (4 * (4 * (6 * r + w) + 1) + k)))), (5, .int (nI (ahM sa r w k j))), (4, .int (nI k)), (0, .ref (m9 0)), (1, .int (nI r)), (2, .int (nI w)), (3, .int x)] := lv_sub hl [0, 1, 2, 3, 4, 5, 6, 7, 8, 9] rfl
                      refine r_top hx (congrArg nI (show 0 = if ahP sa r w k j then 1 else 0 from by first | exact ah_p ⟨c_92, Or.inl c_99⟩ | exact ah_p ⟨c_92, Or.inr ⟨c_106, c_113⟩⟩ | exact ah_n (fun h => c_92 h.1) | exact ah_n (fun h => h.2.elim c_99 (fun z => c_106 z.1)) | exact ah_n (fun h => h.2.elim c_99 (fun z => absurd z.2 (Nat.not_lt.mpr c_113))))) ?_
                      exact J121_6 ls hl
                    ·
                      refine lv_iload hx hb dX4_sibling_109 (lv_at hl 2 rfl) ?_
                      refine lv_iload hx hb dX4_sibling_111 (lv_at hl 5 rfl) ?_
                      refine r_icmp_geN (tgt := 120) hx hb (by omega) (by omega) dX4_sibling_113 (by decide) (fun c_113 => ?_) (fun c_113 => ?_)
                      ·
                        refine lv_iconst (v := nI 0) hx hb dX4_sibling_120 kc_iconst_0 ?_
                        have hl : lv_has ls 10 [(9, .int (b2 (¬ sa (24 + (4 * (4 * (6 * r + w) + 1) + j)) ≤ 0))), (8, .int (sa (408 + (4 * (4 * (6 * r + w) + 1) + j)))), (7, .int (nI j)), (6, .int (sa (408 + (4 * (4 * (6 * r + w) + 1) + k)))), (5, .int (nI (ahM sa r w k j))), (4, .int (nI k)), (0, .ref (m9 0)), (1, .int (nI r)), (2, .int (nI w)), (3, .int x)] := lv_sub hl [0, 1, 2, 3, 4, 5, 6, 7, 8, 9] rfl
                        refine r_top hx (congrArg nI (show 0 = if ahP sa r w k j then 1 else 0 from by first | exact ah_p ⟨c_92, Or.inl c_99⟩ | exact ah_p ⟨c_92, Or.inr ⟨c_106, c_113⟩⟩ | exact ah_n (fun h => c_92 h.1) | exact ah_n (fun h => h.2.elim c_99 (fun z => c_106 z.1)) | exact ah_n (fun h => h.2.elim c_99 (fun z => absurd z.2 (Nat.not_lt.mpr c_113))))) ?_
                        exact J121_6 ls hl
                      ·
                        refine lv_iconst (v := nI 1) hx hb dX4_sibling_116 kc_iconst_1 ?_
                        refine lv_goto (tgt := 121) hx hb dX4_sibling_117 (by decide) ?_
                        have hl : lv_has ls 10 [(9, .int (b2 (¬ sa (24 + (4 * (4 * (6 * r + w) + 1) + j)) ≤ 0))), (8, .int (sa (408 + (4 * (4 * (6 * r + w) + 1) + j)))), (7, .int (nI j)), (6, .int (sa (408 + (4 * (4 * (6 * r + w) + 1) + k)))), (5, .int (nI (ahM sa r w k j))), (4, .int (nI k)), (0, .ref (m9 0)), (1, .int (nI r)), (2, .int (nI w)), (3, .int x)] := lv_sub hl [0, 1, 2, 3, 4, 5, 6, 7, 8, 9] rfl
                        refine r_top hx (congrArg nI (show 1 = if ahP sa r w k j then 1 else 0 from by first | exact ah_p ⟨c_92, Or.inl c_99⟩ | exact ah_p ⟨c_92, Or.inr ⟨c_106, c_113⟩⟩ | exact ah_n (fun h => c_92 h.1) | exact ah_n (fun h => h.2.elim c_99 (fun z => c_106 z.1)) | exact ah_n (fun h => h.2.elim c_99 (fun z => absurd z.2 (Nat.not_lt.mpr c_113))))) ?_
                        exact J121_6 ls hl
              refine lv_if_le (tgt := 85) hx hb dX4_sibling_78 (by decide) (fun c_78 => ?_) (fun c_78 => ?_)
              ·
                refine lv_iconst (v := nI 0) hx hb dX4_sibling_85 kc_iconst_0 ?_
                have hl : lv_has ls 10 [(8, .int (sa (408 + (4 * (4 * (6 * r + w) + 1) + j)))), (7, .int (nI j)), (6, .int (sa (408 + (4 * (4 * (6 * r + w) + 1) + k)))), (5, .int (nI (ahM sa r w k j))), (4, .int (nI k)), (0, .ref (m9 0)), (1, .int (nI r)), (2, .int (nI w)), (3, .int x)] := lv_sub hl [0, 1, 2, 3, 4, 5, 6, 7, 8] rfl
                refine r_top hx (show nI 0 = b2 (¬ sa (24 + (4 * (4 * (6 * r + w) + 1) + j)) ≤ 0) from by first | exact ret1 c_78 | exact ret0 (fun h => h c_78)) ?_
                exact J86_5 ls hl
              ·
                refine lv_iconst (v := nI 1) hx hb dX4_sibling_81 kc_iconst_1 ?_
                refine lv_goto (tgt := 86) hx hb dX4_sibling_82 (by decide) ?_
                have hl : lv_has ls 10 [(8, .int (sa (408 + (4 * (4 * (6 * r + w) + 1) + j)))), (7, .int (nI j)), (6, .int (sa (408 + (4 * (4 * (6 * r + w) + 1) + k)))), (5, .int (nI (ahM sa r w k j))), (4, .int (nI k)), (0, .ref (m9 0)), (1, .int (nI r)), (2, .int (nI w)), (3, .int x)] := lv_sub hl [0, 1, 2, 3, 4, 5, 6, 7, 8] rfl
                refine r_top hx (show nI 1 = b2 (¬ sa (24 + (4 * (4 * (6 * r + w) + 1) + j)) ≤ 0) from by first | exact ret1 c_78 | exact ret0 (fun h => h c_78)) ?_
                exact J86_5 ls hl
        have hl : lv_has ls 10 [(7, .int (nI 0)), (6, .int (sa (408 + (4 * (4 * (6 * r + w) + 1) + k)))), (5, .int (nI 0)), (4, .int (nI k)), (0, .ref (m9 0)), (1, .int (nI r)), (2, .int (nI w)), (3, .int x)] := lv_sub hl [0, 1, 2, 3, 4, 5, 6, 7] rfl
        have hl : lv_has ls 10 [(7, .int (nI 0)), (6, .int (sa (408 + (4 * (4 * (6 * r + w) + 1) + k)))), (5, .int (nI (ahM sa r w k 0))), (4, .int (nI k)), (0, .ref (m9 0)), (1, .int (nI r)), (2, .int (nI w)), (3, .int x)] := lv_rep hl 2 rfl (congrArg (fun z => Value.int (nI z)) (show 0 = ahM sa r w k 0 from rfl))
        exact L52_3 (4 + 1) (0) (by omega) (by omega) ls hl
  have hl : lv_has ls 10 [(4, .int (nI 0)), (0, .ref (m9 0)), (1, .int (nI r)), (2, .int (nI w)), (3, .int x)] := lv_sub hl [0, 1, 2, 3, 4] rfl
  exact L29_1 (4 + 1) (0) (by omega) (by omega) (rfl) ls hl
abbrev rmX4_sibling_e1 : Room := { frames := 3, cells := 0, slots := 0, locals := 63 }
set_option maxHeartbeats 4000000 in
set_option maxRecDepth 100000 in
theorem c_X4_sibling_e1 (l : Launch) (D : va_G) (sz : Nat) (cI : ClassId) (m9 : Nat → Nat) (sa : Nat → Int32) (tx : Nat → Nat) (th : Int32) (sv ln po : Nat) (lt fi sc nu : Int32) (ad rv : Nat) (p0 p1 p2 : Int32) (hv : ¬ ((inP p0 (nI 0) (nI 3) ∧ inP p1 (nI 0) (nI 5)) ∧ ¬ p2 < 0)) : MUi l yX4_sibling wsX4_sibling rmX4_sibling_e1 [.ref (m9 0), .int p0, .int p1, .int p2] D [(cI, .int)] (wM cI m9 sa tx th sv ln po lt fi sc nu ad rv) sz (fun rz (_ : Unit) => rz = nI 0) (fun _ => []) (fun _ => wM cI m9 sa tx (nI 1) sv ln po lt fi sc nu ad rv) 0 0 := by
  refine met_u (own := RX4) (cc := cX4_sibling) (maxL := 10) (ty := .int) (by decide) rfl rfl (Nat.le_of_ble_eq_true rfl) ?_
  intro p e s m args below meth c Q A hsz S hw hA hE ls hl
  obtain ⟨hx, hb, hml, hown, hts⟩ := id S
  have hl : lv_has ls 10 [(0, .ref (m9 0)), (1, .int p0), (2, .int p1), (3, .int p2)] := hl
  refine lv_aload_n hx hb dX4_sibling_0 rfl (lv_at hl 0 rfl) ?_
  refine lv_iload_n hx hb dX4_sibling_1 rfl (lv_at hl 1 rfl) ?_
  refine lv_iload_n hx hb dX4_sibling_2 rfl (lv_at hl 2 rfl) ?_
  refine cq_S (As := [.int p0, .int p1]) (rest := [.ref (m9 0)]) S (c_X4_isRow l D (x := p0) (y := p1)) (va_cwS 2 hts gX4_sibling_X4_isRow rfl rfl rfl (by decide +kernel) ⟨Nat.le_of_ble_eq_true rfl, Nat.le_of_ble_eq_true rfl⟩) (hw.q.sub [] [] rfl rfl) rfl hl.1 (Nat.le_of_ble_eq_true rfl) ⟨Nat.le_of_ble_eq_true rfl, Nat.le_of_ble_eq_true rfl⟩ rfl dX4_sibling_3 (fun r_3 e_3 => ?_)
  have e_3 : r_3 = b2 (inP p0 (nI 0) (nI 3) ∧ inP p1 (nI 0) (nI 5)) := e_3
  subst e_3
  refine r_if_eqB (tgt := 17) hx hb dX4_sibling_6 (by decide) (fun c_6 => ?_) (fun c_6 => ?_)
  ·
    refine lv_iconst (v := nI 1) hx hb dX4_sibling_17 kc_iconst_1 ?_
    refine cu_Vi (As := [.int (nI 1)]) (rest := []) (wc := wM cI m9 sa tx th sv ln po lt fi sc nu ad rv) (wr := []) S (c_X4_holds l D (sz := s.heap.size) (cI := cI) (m9 := m9) (sa := sa) (tx := tx) (th := th) (sv := sv) (ln := ln) (po := po) (lt := lt) (fi := fi) (sc := sc) (nu := nu) (ad := ad) (rv := rv) (x := nI 1)) (cwV 1 hts gX4_sibling_X4_holds rfl rfl rfl (by decide +kernel) ⟨Nat.le_of_ble_eq_true rfl, Nat.le_of_ble_eq_true rfl⟩) hw hA [0, 1, 2] [] [0] rfl rfl rfl (by decide) (by decide) (by decide) 0 rfl rfl rfl hl.1 (Nat.le_of_ble_eq_true rfl) ⟨Nat.le_of_ble_eq_true rfl, Nat.le_of_ble_eq_true rfl⟩ rfl dX4_sibling_18 (fun r_18 u_18 H locs e_18 hw => ?_)
    have hw : Wd D A [(cI, .int)] (wM cI m9 sa tx (nI 1) sv ln po lt fi sc nu ad rv) s s.heap H locs := hw
    have e_18 : r_18 = b2 ((nI 1) = 0) := e_18
    subst e_18
    refine r_if_neB (tgt := 26) hx hb dX4_sibling_21 (by decide) (fun h => absurd h (by decide)) (fun _ => ?_)
    refine lv_iconst (v := nI 0) hx hb dX4_sibling_24 kc_iconst_0 ?_
    exact hE () dX4_sibling_25 (rfl) (Nat.le_of_ble_eq_true rfl) (Nat.le_of_ble_eq_true rfl) (hw.sub [0, 1, 2] [] (by decide) rfl rfl) (show nI 0 = nI 0 from rfl)
  ·
    refine lv_iload_n hx hb dX4_sibling_9 rfl (lv_at hl 3 rfl) ?_
    refine lv_if_lt (tgt := 17) hx hb dX4_sibling_10 (by decide) (fun c_10 => ?_) (fun c_10 => ?_)
    ·
      refine lv_iconst (v := nI 1) hx hb dX4_sibling_17 kc_iconst_1 ?_
      refine cu_Vi (As := [.int (nI 1)]) (rest := []) (wc := wM cI m9 sa tx th sv ln po lt fi sc nu ad rv) (wr := []) S (c_X4_holds l D (sz := s.heap.size) (cI := cI) (m9 := m9) (sa := sa) (tx := tx) (th := th) (sv := sv) (ln := ln) (po := po) (lt := lt) (fi := fi) (sc := sc) (nu := nu) (ad := ad) (rv := rv) (x := nI 1)) (cwV 1 hts gX4_sibling_X4_holds rfl rfl rfl (by decide +kernel) ⟨Nat.le_of_ble_eq_true rfl, Nat.le_of_ble_eq_true rfl⟩) hw hA [0, 1, 2] [] [0] rfl rfl rfl (by decide) (by decide) (by decide) 0 rfl rfl rfl hl.1 (Nat.le_of_ble_eq_true rfl) ⟨Nat.le_of_ble_eq_true rfl, Nat.le_of_ble_eq_true rfl⟩ rfl dX4_sibling_18 (fun r_18 u_18 H locs e_18 hw => ?_)
      have hw : Wd D A [(cI, .int)] (wM cI m9 sa tx (nI 1) sv ln po lt fi sc nu ad rv) s s.heap H locs := hw
      have e_18 : r_18 = b2 ((nI 1) = 0) := e_18
      subst e_18
      refine r_if_neB (tgt := 26) hx hb dX4_sibling_21 (by decide) (fun h => absurd h (by decide)) (fun _ => ?_)
      refine lv_iconst (v := nI 0) hx hb dX4_sibling_24 kc_iconst_0 ?_
      exact hE () dX4_sibling_25 (rfl) (Nat.le_of_ble_eq_true rfl) (Nat.le_of_ble_eq_true rfl) (hw.sub [0, 1, 2] [] (by decide) rfl rfl) (show nI 0 = nI 0 from rfl)
    ·
      exact absurd ⟨c_6, c_10⟩ hv
abbrev rmX4_greatest_v : Room := { frames := 3, cells := 0, slots := 0, locals := 72 }
set_option maxHeartbeats 4000000 in
set_option maxRecDepth 100000 in
theorem c_X4_greatest_v (l : Launch) (D : va_G) (sz : Nat) (cI : ClassId) (m9 : Nat → Nat) (sa : Nat → Int32) (tx : Nat → Nat) (th : Int32) (sv ln po : Nat) (lt fi sc nu : Int32) (ad rv : Nat) (r w : Nat) (hr : r < 4) (hw5 : w < 6) : MUi l yX4_greatest wsX4_greatest rmX4_greatest_v [.ref (m9 0), .int (nI r), .int (nI w)] D [(cI, .int)] (wM cI m9 sa tx th sv ln po lt fi sc nu ad rv) sz (fun rz (_ : Unit) => rz = goM sa r w 4) (fun _ => []) (fun _ => wM cI m9 sa tx (nI 0) sv ln po lt fi sc nu ad rv) 0 0 := by
  refine met_u (own := RX4) (cc := cX4_greatest) (maxL := 3) (ty := .int) (by decide) rfl rfl (Nat.le_of_ble_eq_true rfl) ?_
  intro p e s m args below meth c Q A hsz S hw hA hE ls hl
  obtain ⟨hx, hb, hml, hown, hts⟩ := id S
  have hl : lv_has ls 3 [(0, .ref (m9 0)), (1, .int (nI r)), (2, .int (nI w))] := hl
  refine lv_aload_n hx hb dX4_greatest_0 rfl (lv_at hl 0 rfl) ?_
  refine lv_iload_n hx hb dX4_greatest_1 rfl (lv_at hl 1 rfl) ?_
  refine lv_iload_n hx hb dX4_greatest_2 rfl (lv_at hl 2 rfl) ?_
  refine cq_S (As := [.int (nI r), .int (nI w)]) (rest := [.ref (m9 0)]) S (c_X4_isRow l D (x := nI r) (y := nI w)) (va_cwS 2 hts gX4_greatest_X4_isRow rfl rfl rfl (by decide +kernel) ⟨Nat.le_of_ble_eq_true rfl, Nat.le_of_ble_eq_true rfl⟩) (hw.q.sub [] [] rfl rfl) rfl hl.1 (Nat.le_of_ble_eq_true rfl) ⟨Nat.le_of_ble_eq_true rfl, Nat.le_of_ble_eq_true rfl⟩ rfl dX4_greatest_3 (fun r_3 e_3 => ?_)
  have e_3 : r_3 = b2 (inP (nI r) (nI 0) (nI 3) ∧ inP (nI w) (nI 0) (nI 5)) := e_3
  subst e_3
  refine r_if_eqB (tgt := 13) hx hb dX4_greatest_6 (by decide) (fun h => absurd (rowP_n hr hw5) h) (fun _ => ?_)
  refine lv_iconst (v := nI 0) hx hb dX4_greatest_9 kc_iconst_0 ?_
  refine lv_goto (tgt := 14) hx hb dX4_greatest_10 (by decide) ?_
  refine cu_Vi (As := [.int (nI 0)]) (rest := []) (wc := wM cI m9 sa tx th sv ln po lt fi sc nu ad rv) (wr := []) S (c_X4_holds l D (sz := s.heap.size) (cI := cI) (m9 := m9) (sa := sa) (tx := tx) (th := th) (sv := sv) (ln := ln) (po := po) (lt := lt) (fi := fi) (sc := sc) (nu := nu) (ad := ad) (rv := rv) (x := nI 0)) (cwV 1 hts gX4_greatest_X4_holds rfl rfl rfl (by decide +kernel) ⟨Nat.le_of_ble_eq_true rfl, Nat.le_of_ble_eq_true rfl⟩) hw hA [0, 1, 2] [] [0] rfl rfl rfl (by decide) (by decide) (by decide) 0 rfl rfl rfl hl.1 (Nat.le_of_ble_eq_true rfl) ⟨Nat.le_of_ble_eq_true rfl, Nat.le_of_ble_eq_true rfl⟩ rfl dX4_greatest_14 (fun r_14 u_14 H locs e_14 hw => ?_)
  have hw : Wd D A [(cI, .int)] (wM cI m9 sa tx (nI 0) sv ln po lt fi sc nu ad rv) s s.heap H locs := hw
  have e_14 : r_14 = b2 ((nI 0) = 0) := e_14
  subst e_14
  refine r_if_eqB (tgt := 29) hx hb dX4_greatest_17 (by decide) (fun h => absurd (rfl) h) (fun _ => ?_)
  refine lv_aload_n hx hb dX4_greatest_20 rfl (lv_at hl 0 rfl) ?_
  refine lv_iload_n hx hb dX4_greatest_21 rfl (lv_at hl 1 rfl) ?_
  refine lv_iload_n hx hb dX4_greatest_22 rfl (lv_at hl 2 rfl) ?_
  refine cq_V (As := [.int (nI r), .int (nI w)]) (rest := []) S (c_X4_greatestOf l D (cI := cI) (m9 := m9) (sa := sa) (tx := tx) (th := (nI 0)) (sv := sv) (ln := ln) (po := po) (lt := lt) (fi := fi) (sc := sc) (nu := nu) (ad := ad) (rv := rv) (r := r) (w := w) (hr := by omega) (hw5 := by omega)) (cwV 2 hts gX4_greatest_X4_greatestOf rfl rfl rfl (by decide +kernel) ⟨Nat.le_of_ble_eq_true rfl, Nat.le_of_ble_eq_true rfl⟩) (hw.q.sub [0, 1, 2] [0] rfl rfl) 0 rfl rfl rfl hl.1 (Nat.le_of_ble_eq_true rfl) ⟨Nat.le_of_ble_eq_true rfl, Nat.le_of_ble_eq_true rfl⟩ rfl dX4_greatest_23 (fun r_23 e_23 => ?_)
  have e_23 : r_23 = goM sa r w 4 := e_23
  subst e_23
  refine lv_goto (tgt := 30) hx hb dX4_greatest_26 (by decide) ?_
  exact hE () dX4_greatest_30 (rfl) (Nat.le_of_ble_eq_true rfl) (Nat.le_of_ble_eq_true rfl) (hw.sub [0, 1, 2] [] (by decide) rfl rfl) (show goM sa r w 4 = goM sa r w 4 from rfl)
abbrev rmX4_counter_v : Room := { frames := 3, cells := 0, slots := 0, locals := 72 }
set_option maxHeartbeats 4000000 in
set_option maxRecDepth 100000 in
theorem c_X4_counter_v (l : Launch) (D : va_G) (sz : Nat) (cI : ClassId) (m9 : Nat → Nat) (sa : Nat → Int32) (tx : Nat → Nat) (th : Int32) (sv ln po : Nat) (lt fi sc nu : Int32) (ad rv : Nat) (r w : Nat) (hr : r < 4) (hw5 : w < 6) : MUi l yX4_counter wsX4_counter rmX4_counter_v [.ref (m9 0), .int (nI r), .int (nI w)] D [(cI, .int)] (wM cI m9 sa tx th sv ln po lt fi sc nu ad rv) sz (fun rz (_ : Unit) => rz = smM sa r w 3 4) (fun _ => []) (fun _ => wM cI m9 sa tx (nI 0) sv ln po lt fi sc nu ad rv) 0 0 := by
  refine met_u (own := RX4) (cc := cX4_counter) (maxL := 3) (ty := .int) (by decide) rfl rfl (Nat.le_of_ble_eq_true rfl) ?_
  intro p e s m args below meth c Q A hsz S hw hA hE ls hl
  obtain ⟨hx, hb, hml, hown, hts⟩ := id S
  have hl : lv_has ls 3 [(0, .ref (m9 0)), (1, .int (nI r)), (2, .int (nI w))] := hl
  refine lv_aload_n hx hb dX4_counter_0 rfl (lv_at hl 0 rfl) ?_
  refine lv_iload_n hx hb dX4_counter_1 rfl (lv_at hl 1 rfl) ?_
  refine lv_iload_n hx hb dX4_counter_2 rfl (lv_at hl 2 rfl) ?_
  refine cq_S (As := [.int (nI r), .int (nI w)]) (rest := [.ref (m9 0)]) S (c_X4_isRow l D (x := nI r) (y := nI w)) (va_cwS 2 hts gX4_counter_X4_isRow rfl rfl rfl (by decide +kernel) ⟨Nat.le_of_ble_eq_true rfl, Nat.le_of_ble_eq_true rfl⟩) (hw.q.sub [] [] rfl rfl) rfl hl.1 (Nat.le_of_ble_eq_true rfl) ⟨Nat.le_of_ble_eq_true rfl, Nat.le_of_ble_eq_true rfl⟩ rfl dX4_counter_3 (fun r_3 e_3 => ?_)
  have e_3 : r_3 = b2 (inP (nI r) (nI 0) (nI 3) ∧ inP (nI w) (nI 0) (nI 5)) := e_3
  subst e_3
  refine r_if_eqB (tgt := 13) hx hb dX4_counter_6 (by decide) (fun h => absurd (rowP_n hr hw5) h) (fun _ => ?_)
  refine lv_iconst (v := nI 0) hx hb dX4_counter_9 kc_iconst_0 ?_
  refine lv_goto (tgt := 14) hx hb dX4_counter_10 (by decide) ?_
  refine cu_Vi (As := [.int (nI 0)]) (rest := []) (wc := wM cI m9 sa tx th sv ln po lt fi sc nu ad rv) (wr := []) S (c_X4_holds l D (sz := s.heap.size) (cI := cI) (m9 := m9) (sa := sa) (tx := tx) (th := th) (sv := sv) (ln := ln) (po := po) (lt := lt) (fi := fi) (sc := sc) (nu := nu) (ad := ad) (rv := rv) (x := nI 0)) (cwV 1 hts gX4_counter_X4_holds rfl rfl rfl (by decide +kernel) ⟨Nat.le_of_ble_eq_true rfl, Nat.le_of_ble_eq_true rfl⟩) hw hA [0, 1, 2] [] [0] rfl rfl rfl (by decide) (by decide) (by decide) 0 rfl rfl rfl hl.1 (Nat.le_of_ble_eq_true rfl) ⟨Nat.le_of_ble_eq_true rfl, Nat.le_of_ble_eq_true rfl⟩ rfl dX4_counter_14 (fun r_14 u_14 H locs e_14 hw => ?_)
  have hw : Wd D A [(cI, .int)] (wM cI m9 sa tx (nI 0) sv ln po lt fi sc nu ad rv) s s.heap H locs := hw
  have e_14 : r_14 = b2 ((nI 0) = 0) := e_14
  subst e_14
  refine r_if_eqB (tgt := 30) hx hb dX4_counter_17 (by decide) (fun h => absurd (rfl) h) (fun _ => ?_)
  refine lv_aload_n hx hb dX4_counter_20 rfl (lv_at hl 0 rfl) ?_
  refine lv_iload_n hx hb dX4_counter_21 rfl (lv_at hl 1 rfl) ?_
  refine lv_iload_n hx hb dX4_counter_22 rfl (lv_at hl 2 rfl) ?_
  refine lv_iconst (v := nI 3) hx hb dX4_counter_23 kc_iconst_3 ?_
  refine cq_V (As := [.int (nI r), .int (nI w), .int (nI 3)]) (rest := []) S (c_X4_sumOf l D (cI := cI) (m9 := m9) (sa := sa) (tx := tx) (th := (nI 0)) (sv := sv) (ln := ln) (po := po) (lt := lt) (fi := fi) (sc := sc) (nu := nu) (ad := ad) (rv := rv) (r := r) (w := w) (c9 := 3) (hr := by omega) (hw5 := by omega) (hc := by omega)) (cwV 3 hts gX4_counter_X4_sumOf rfl rfl rfl (by decide +kernel) ⟨Nat.le_of_ble_eq_true rfl, Nat.le_of_ble_eq_true rfl⟩) (hw.q.sub [0, 1, 2] [0] rfl rfl) 0 rfl rfl rfl hl.1 (Nat.le_of_ble_eq_true rfl) ⟨Nat.le_of_ble_eq_true rfl, Nat.le_of_ble_eq_true rfl⟩ rfl dX4_counter_24 (fun r_24 e_24 => ?_)
  have e_24 : r_24 = smM sa r w 3 4 := e_24
  subst e_24
  refine lv_goto (tgt := 31) hx hb dX4_counter_27 (by decide) ?_
  exact hE () dX4_counter_31 (rfl) (Nat.le_of_ble_eq_true rfl) (Nat.le_of_ble_eq_true rfl) (hw.sub [0, 1, 2] [] (by decide) rfl rfl) (show smM sa r w 3 4 = smM sa r w 3 4 from rfl)
abbrev rmX4_elements_v : Room := { frames := 3, cells := 0, slots := 0, locals := 63 }
set_option maxHeartbeats 4000000 in
set_option maxRecDepth 100000 in
theorem c_X4_elements_v (l : Launch) (D : va_G) (sz : Nat) (cI : ClassId) (m9 : Nat → Nat) (sa : Nat → Int32) (tx : Nat → Nat) (th : Int32) (sv ln po : Nat) (lt fi sc nu : Int32) (ad rv : Nat) (r w : Nat) (hr : r < 4) (hw5 : w < 6) : MUi l yX4_elements wsX4_elements rmX4_elements_v [.ref (m9 0), .int (nI r), .int (nI w)] D [(cI, .int)] (wM cI m9 sa tx th sv ln po lt fi sc nu ad rv) sz (fun rz (_ : Unit) => rz = elM sa r w 64) (fun _ => []) (fun _ => wM cI m9 sa tx (nI 0) sv ln po lt fi sc nu ad rv) 0 0 := by
  refine met_u (own := RX4) (cc := cX4_elements) (maxL := 5) (ty := .int) (by decide) rfl rfl (Nat.le_of_ble_eq_true rfl) ?_
  intro p e s m args below meth c Q A hsz S hw hA hE ls hl
  obtain ⟨hx, hb, hml, hown, hts⟩ := id S
  have k7 := hts (.fieldLink RX4 7 "CausalTableModel" "s" "[I") (by decide +kernel)
  have hin4 := (show ∀ w ∈ wsX40, w ∈ wsX4_elements by decide +kernel)
  have hl : lv_has ls 5 [(0, .ref (m9 0)), (1, .int (nI r)), (2, .int (nI w))] := hl
  refine lv_aload_n hx hb dX4_elements_0 rfl (lv_at hl 0 rfl) ?_
  refine lv_iload_n hx hb dX4_elements_1 rfl (lv_at hl 1 rfl) ?_
  refine lv_iload_n hx hb dX4_elements_2 rfl (lv_at hl 2 rfl) ?_
  refine cq_S (As := [.int (nI r), .int (nI w)]) (rest := [.ref (m9 0)]) S (c_X4_isRow l D (x := nI r) (y := nI w)) (va_cwS 2 hts gX4_elements_X4_isRow rfl rfl rfl (by decide +kernel) ⟨Nat.le_of_ble_eq_true rfl, Nat.le_of_ble_eq_true rfl⟩) (hw.q.sub [] [] rfl rfl) rfl hl.1 (Nat.le_of_ble_eq_true rfl) ⟨Nat.le_of_ble_eq_true rfl, Nat.le_of_ble_eq_true rfl⟩ rfl dX4_elements_3 (fun r_3 e_3 => ?_)
  have e_3 : r_3 = b2 (inP (nI r) (nI 0) (nI 3) ∧ inP (nI w) (nI 0) (nI 5)) := e_3
  subst e_3
  refine r_if_eqB (tgt := 13) hx hb dX4_elements_6 (by decide) (fun h => absurd (rowP_n hr hw5) h) (fun _ => ?_)
  refine lv_iconst (v := nI 0) hx hb dX4_elements_9 kc_iconst_0 ?_
  refine lv_goto (tgt := 14) hx hb dX4_elements_10 (by decide) ?_
  refine cu_Vi (As := [.int (nI 0)]) (rest := []) (wc := wM cI m9 sa tx th sv ln po lt fi sc nu ad rv) (wr := []) S (c_X4_holds l D (sz := s.heap.size) (cI := cI) (m9 := m9) (sa := sa) (tx := tx) (th := th) (sv := sv) (ln := ln) (po := po) (lt := lt) (fi := fi) (sc := sc) (nu := nu) (ad := ad) (rv := rv) (x := nI 0)) (cwV 1 hts gX4_elements_X4_holds rfl rfl rfl (by decide +kernel) ⟨Nat.le_of_ble_eq_true rfl, Nat.le_of_ble_eq_true rfl⟩) hw hA [0, 1, 2] [] [0] rfl rfl rfl (by decide) (by decide) (by decide) 0 rfl rfl rfl hl.1 (Nat.le_of_ble_eq_true rfl) ⟨Nat.le_of_ble_eq_true rfl, Nat.le_of_ble_eq_true rfl⟩ rfl dX4_elements_14 (fun r_14 u_14 H locs e_14 hw => ?_)
  have hw : Wd D A [(cI, .int)] (wM cI m9 sa tx (nI 0) sv ln po lt fi sc nu ad rv) s s.heap H locs := hw
  have e_14 : r_14 = b2 ((nI 0) = 0) := e_14
  subst e_14
  refine r_if_neB (tgt := 22) hx hb dX4_elements_17 (by decide) (fun _ => ?_) (fun h => absurd (rfl) h)
  refine lv_iconst (v := nI 0) hx hb dX4_elements_22 kc_iconst_0 ?_
  refine lv_istore_n (lv' := [(3, .int (nI 0)), (0, .ref (m9 0)), (1, .int (nI r)), (2, .int (nI w))]) hx hb dX4_elements_23 rfl hl (by decide) rfl (fun ls hl => ?_)
  refine lv_iconst (v := nI 0) hx hb dX4_elements_24 kc_iconst_0 ?_
  refine lv_istore (lv' := [(4, .int (nI 0)), (3, .int (nI 0)), (0, .ref (m9 0)), (1, .int (nI r)), (2, .int (nI w))]) hx hb dX4_elements_25 hl (by decide) rfl (fun ls hl => ?_)
  have L27_1 : ∀ (fu_2 k : Nat), k ≤ 64 → 64 - k < fu_2 → ∀ ls : Array Slot, lv_has ls 5 [(4, .int (nI k)), (3, .int (elM sa r w k)), (0, .ref (m9 0)), (1, .int (nI r)), (2, .int (nI w))] → W p l e rmX4_elements_v s m args below meth c H locs 0 0 Q (F0 m 27 ls []) := by
    intro fu_2
    induction fu_2 with
    | zero => intro k _ h9; exact absurd h9 (Nat.not_lt_zero _)
    | succ fu_2 ih_27 =>
      intro k hk_27 hf_27 ls hl
      refine lv_iload hx hb dX4_elements_27 (lv_at hl 0 rfl) ?_
      refine lv_bipush (v := nI 64) hx hb dX4_elements_29 kc_bipush_64 ?_
      refine r_icmp_geN (tgt := 74) hx hb (by omega) (by omega) dX4_elements_31 (by decide) (fun c_31 => ?_) (fun c_31 => ?_)
      ·
        refine lv_iload_n hx hb dX4_elements_74 rfl (lv_at hl 1 rfl) ?_
        exact hE () dX4_elements_75 (rfl) (Nat.le_of_ble_eq_true rfl) (Nat.le_of_ble_eq_true rfl) (hw.sub [0, 1, 2] [] (by decide) rfl rfl) (show elM sa r w k = elM sa r w 64 from by rw [show k = 64 by omega])
      ·
        refine lv_iload_n hx hb dX4_elements_34 rfl (lv_at hl 1 rfl) ?_
        refine lv_aload_n hx hb dX4_elements_35 rfl (lv_at hl 2 rfl) ?_
        refine r_get hx hb hts hown hw.q 0 1 hin4 rfl rfl (by decide) k7 rfl dX4_elements_36 ?_
        refine lv_iload_n hx hb dX4_elements_39 rfl (lv_at hl 3 rfl) ?_
        refine lv_iload_n hx hb dX4_elements_40 rfl (lv_at hl 4 rfl) ?_
        refine lv_iload hx hb dX4_elements_41 (lv_at hl 0 rfl) ?_
        refine lv_iconst (v := nI 4) hx hb dX4_elements_43 kc_iconst_4 ?_
        refine r_divN hx hb (by omega) (by omega) (by omega) dX4_elements_44 ?_
        refine lv_iload hx hb dX4_elements_45 (lv_at hl 0 rfl) ?_
        refine lv_iconst (v := nI 4) hx hb dX4_elements_47 kc_iconst_4 ?_
        refine r_remN hx hb (by omega) (by omega) (by omega) dX4_elements_48 ?_
        refine cq_S (As := [.int (nI r), .int (nI w), .int (nI (k / 4)), .int (nI (k % 4))]) (rest := [.ref (m9 1), .int (elM sa r w k)]) S (c_X4_elementPlace l D (r := r) (w := w) (c9 := k / 4) (k9 := k % 4)) (va_cwS 4 hts gX4_elements_X4_elementPlace rfl rfl rfl (by decide +kernel) ⟨Nat.le_of_ble_eq_true rfl, Nat.le_of_ble_eq_true rfl⟩) (hw.q.sub [] [] rfl rfl) rfl hl.1 (Nat.le_of_ble_eq_true rfl) ⟨Nat.le_of_ble_eq_true rfl, Nat.le_of_ble_eq_true rfl⟩ rfl dX4_elements_49 (fun r_49 e_49 => ?_)
        have e_49 : r_49 = nI (888 + 4 * (16 * (6 * r + w) + (k / 4)) + (k % 4)) := e_49
        subst e_49
        refine r_ald hx hb hw.q 1 0 rfl rfl (i := 888 + 4 * (16 * (6 * r + w) + (k / 4)) + (k % 4)) (by omega) (by decide) dX4_elements_52 ?_
        have J66_3 : ∀ ls : Array Slot, lv_has ls 5 [(4, .int (nI k)), (3, .int (elM sa r w k)), (0, .ref (m9 0)), (1, .int (nI r)), (2, .int (nI w))] → W p l e rmX4_elements_v s m args below meth c H locs 0 0 Q (F0 m 66 ls [.int (if sa (888 + 4 * (16 * (6 * r + w) + k / 4) + (k % 4)) ≤ 0 then nI 0 else nI 1 <<< (nI (k / 4) &&& 31)), .int (elM sa r w k)]) := by
          intro ls hl
          refine lv_ior hx hb dX4_elements_66 ?_
          refine lv_istore_n (lv' := [(3, .int ((elM sa r w k) ||| (if sa (888 + 4 * (16 * (6 * r + w) + k / 4) + (k % 4)) ≤ 0 then nI 0 else nI 1 <<< (nI (k / 4) &&& 31)))), (4, .int (nI k)), (0, .ref (m9 0)), (1, .int (nI r)), (2, .int (nI w))]) hx hb dX4_elements_67 rfl hl (by decide) rfl (fun ls hl => ?_)
          refine lv_iinc (v := nI (k + 1)) (lv' := [(4, .int (nI (k + 1))), (3, .int ((elM sa r w k) ||| (if sa (888 + 4 * (16 * (6 * r + w) + k / 4) + (k % 4)) ≤ 0 then nI 0 else nI 1 <<< (nI (k / 4) &&& 31)))), (0, .ref (m9 0)), (1, .int (nI r)), (2, .int (nI w))]) hx hb dX4_elements_68 hl (k := 1) rfl (nI_add k 1) (by decide) rfl (fun ls hl => ?_)
          refine lv_goto (tgt := 27) hx hb dX4_elements_71 (by decide) ?_
          have hl : lv_has ls 5 [(4, .int (nI (k + 1))), (3, .int ((elM sa r w k) ||| (if sa (888 + 4 * (16 * (6 * r + w) + k / 4) + (k % 4)) ≤ 0 then nI 0 else nI 1 <<< (nI (k / 4) &&& 31)))), (0, .ref (m9 0)), (1, .int (nI r)), (2, .int (nI w))] := lv_sub hl [0, 1, 2, 3, 4] rfl
          have hl : lv_has ls 5 [(4, .int (nI (k + 1))), (3, .int (elM sa r w (k + 1))), (0, .ref (m9 0)), (1, .int (nI r)), (2, .int (nI w))] := lv_rep hl 1 rfl (congrArg Value.int (show (elM sa r w k) ||| (if sa (888 + 4 * (16 * (6 * r + w) + k / 4) + (k % 4)) ≤ 0 then nI 0 else nI 1 <<< (nI (k / 4) &&& 31)) = elM sa r w (k + 1) from rfl))
          exact ih_27 (k + 1) (by omega) (by omega) ls hl
        refine lv_if_le (tgt := 65) hx hb dX4_elements_53 (by decide) (fun c_53 => ?_) (fun c_53 => ?_)
        ·
          refine lv_iconst (v := nI 0) hx hb dX4_elements_65 kc_iconst_0 ?_
          have hl : lv_has ls 5 [(4, .int (nI k)), (3, .int (elM sa r w k)), (0, .ref (m9 0)), (1, .int (nI r)), (2, .int (nI w))] := lv_sub hl [0, 1, 2, 3, 4] rfl
          refine r_top hx (show nI 0 = if sa (888 + 4 * (16 * (6 * r + w) + k / 4) + (k % 4)) ≤ 0 then nI 0 else nI 1 <<< (nI (k / 4) &&& 31) from by first | exact (if_pos c_53).symm | exact (if_neg c_53).symm) ?_
          exact J66_3 ls hl
        ·
          refine lv_iconst (v := nI 1) hx hb dX4_elements_56 kc_iconst_1 ?_
          refine lv_iload hx hb dX4_elements_57 (lv_at hl 0 rfl) ?_
          refine lv_iconst (v := nI 4) hx hb dX4_elements_59 kc_iconst_4 ?_
          refine r_divN hx hb (by omega) (by omega) (by omega) dX4_elements_60 ?_
          refine lv_ishl hx hb dX4_elements_61 ?_
          refine lv_goto (tgt := 66) hx hb dX4_elements_62 (by decide) ?_
          have hl : lv_has ls 5 [(4, .int (nI k)), (3, .int (elM sa r w k)), (0, .ref (m9 0)), (1, .int (nI r)), (2, .int (nI w))] := lv_sub hl [0, 1, 2, 3, 4] rfl
          refine r_top hx (show (nI 1) <<< ((nI (k / 4)) &&& 31) = if sa (888 + 4 * (16 * (6 * r + w) + k / 4) + (k % 4)) ≤ 0 then nI 0 else nI 1 <<< (nI (k / 4) &&& 31) from by first | exact (if_pos c_53).symm | exact (if_neg c_53).symm) ?_
          exact J66_3 ls hl
  have hl : lv_has ls 5 [(4, .int (nI 0)), (3, .int (nI 0)), (0, .ref (m9 0)), (1, .int (nI r)), (2, .int (nI w))] := lv_sub hl [0, 1, 2, 3, 4] rfl
  have hl : lv_has ls 5 [(4, .int (nI 0)), (3, .int (elM sa r w 0)), (0, .ref (m9 0)), (1, .int (nI r)), (2, .int (nI w))] := lv_rep hl 1 rfl (congrArg Value.int (show nI 0 = elM sa r w 0 from rfl))
  exact L27_1 (64 + 1) (0) (by omega) (by omega) ls hl
abbrev rmX4_entries_v : Room := { frames := 3, cells := 0, slots := 0, locals := 73 }
set_option maxHeartbeats 4000000 in
set_option maxRecDepth 100000 in
theorem c_X4_entries_v (l : Launch) (D : va_G) (sz : Nat) (cI : ClassId) (m9 : Nat → Nat) (sa : Nat → Int32) (tx : Nat → Nat) (th : Int32) (sv ln po : Nat) (lt fi sc nu : Int32) (ad rv : Nat) (r w c9 : Nat) (hr : r < 4) (hw5 : w < 6) (hc : c9 < 5) : MUi l yX4_entries wsX4_entries rmX4_entries_v [.ref (m9 0), .int (nI r), .int (nI w), .int (nI c9)] D [(cI, .int)] (wM cI m9 sa tx th sv ln po lt fi sc nu ad rv) sz (fun rz (_ : Unit) => rz = nI (enM sa r w c9 4)) (fun _ => []) (fun _ => wM cI m9 sa tx (nI 0) sv ln po lt fi sc nu ad rv) 0 0 := by
  refine met_u (own := RX4) (cc := cX4_entries) (maxL := 4) (ty := .int) (by decide) rfl rfl (Nat.le_of_ble_eq_true rfl) ?_
  intro p e s m args below meth c Q A hsz S hw hA hE ls hl
  obtain ⟨hx, hb, hml, hown, hts⟩ := id S
  have hl : lv_has ls 4 [(0, .ref (m9 0)), (1, .int (nI r)), (2, .int (nI w)), (3, .int (nI c9))] := hl
  refine lv_aload_n hx hb dX4_entries_0 rfl (lv_at hl 0 rfl) ?_
  refine lv_iload_n hx hb dX4_entries_1 rfl (lv_at hl 1 rfl) ?_
  refine lv_iload_n hx hb dX4_entries_2 rfl (lv_at hl 2 rfl) ?_
  refine cq_S (As := [.int (nI r), .int (nI w)]) (rest := [.ref (m9 0)]) S (c_X4_isRow l D (x := nI r) (y := nI w)) (va_cwS 2 hts gX4_entries_X4_isRow rfl rfl rfl (by decide +kernel) ⟨Nat.le_of_ble_eq_true rfl, Nat.le_of_ble_eq_true rfl⟩) (hw.q.sub [] [] rfl rfl) rfl hl.1 (Nat.le_of_ble_eq_true rfl) ⟨Nat.le_of_ble_eq_true rfl, Nat.le_of_ble_eq_true rfl⟩ rfl dX4_entries_3 (fun r_3 e_3 => ?_)
  have e_3 : r_3 = b2 (inP (nI r) (nI 0) (nI 3) ∧ inP (nI w) (nI 0) (nI 5)) := e_3
  subst e_3
  refine r_if_eqB (tgt := 22) hx hb dX4_entries_6 (by decide) (fun h => absurd (rowP_n hr hw5) h) (fun _ => ?_)
  refine lv_iload_n hx hb dX4_entries_9 rfl (lv_at hl 3 rfl) ?_
  refine lv_iconst (v := nI 0) hx hb dX4_entries_10 kc_iconst_0 ?_
  refine lv_iconst (v := nI 4) hx hb dX4_entries_11 kc_iconst_4 ?_
  refine cq_S (As := [.int (nI c9), .int (nI 0), .int (nI 4)]) (rest := [.ref (m9 0)]) S (c_X4_in l D (x := nI c9) (lo := nI 0) (hi := nI 4)) (va_cwS 3 hts gX4_entries_X4_in rfl rfl rfl (by decide +kernel) ⟨Nat.le_of_ble_eq_true rfl, Nat.le_of_ble_eq_true rfl⟩) (hw.q.sub [] [] rfl rfl) rfl hl.1 (Nat.le_of_ble_eq_true rfl) ⟨Nat.le_of_ble_eq_true rfl, Nat.le_of_ble_eq_true rfl⟩ rfl dX4_entries_12 (fun r_12 e_12 => ?_)
  have e_12 : r_12 = b2 (inP (nI c9) (nI 0) (nI 4)) := e_12
  subst e_12
  refine r_if_eqB (tgt := 22) hx hb dX4_entries_15 (by decide) (fun h => absurd (inP_n (Nat.zero_le _) (by omega) (by decide)) h) (fun _ => ?_)
  refine lv_iconst (v := nI 0) hx hb dX4_entries_18 kc_iconst_0 ?_
  refine lv_goto (tgt := 23) hx hb dX4_entries_19 (by decide) ?_
  refine cu_Vi (As := [.int (nI 0)]) (rest := []) (wc := wM cI m9 sa tx th sv ln po lt fi sc nu ad rv) (wr := []) S (c_X4_holds l D (sz := s.heap.size) (cI := cI) (m9 := m9) (sa := sa) (tx := tx) (th := th) (sv := sv) (ln := ln) (po := po) (lt := lt) (fi := fi) (sc := sc) (nu := nu) (ad := ad) (rv := rv) (x := nI 0)) (cwV 1 hts gX4_entries_X4_holds rfl rfl rfl (by decide +kernel) ⟨Nat.le_of_ble_eq_true rfl, Nat.le_of_ble_eq_true rfl⟩) hw hA [0, 1, 2] [] [0] rfl rfl rfl (by decide) (by decide) (by decide) 0 rfl rfl rfl hl.1 (Nat.le_of_ble_eq_true rfl) ⟨Nat.le_of_ble_eq_true rfl, Nat.le_of_ble_eq_true rfl⟩ rfl dX4_entries_23 (fun r_23 u_23 H locs e_23 hw => ?_)
  have hw : Wd D A [(cI, .int)] (wM cI m9 sa tx (nI 0) sv ln po lt fi sc nu ad rv) s s.heap H locs := hw
  have e_23 : r_23 = b2 ((nI 0) = 0) := e_23
  subst e_23
  refine r_if_eqB (tgt := 39) hx hb dX4_entries_26 (by decide) (fun h => absurd (rfl) h) (fun _ => ?_)
  refine lv_aload_n hx hb dX4_entries_29 rfl (lv_at hl 0 rfl) ?_
  refine lv_iload_n hx hb dX4_entries_30 rfl (lv_at hl 1 rfl) ?_
  refine lv_iload_n hx hb dX4_entries_31 rfl (lv_at hl 2 rfl) ?_
  refine lv_iload_n hx hb dX4_entries_32 rfl (lv_at hl 3 rfl) ?_
  refine cq_V (As := [.int (nI r), .int (nI w), .int (nI c9)]) (rest := []) S (c_X4_entriesOf l D (cI := cI) (m9 := m9) (sa := sa) (tx := tx) (th := (nI 0)) (sv := sv) (ln := ln) (po := po) (lt := lt) (fi := fi) (sc := sc) (nu := nu) (ad := ad) (rv := rv) (r := r) (w := w) (c9 := c9) (hr := by omega) (hw5 := by omega) (hc := by omega)) (cwV 3 hts gX4_entries_X4_entriesOf rfl rfl rfl (by decide +kernel) ⟨Nat.le_of_ble_eq_true rfl, Nat.le_of_ble_eq_true rfl⟩) (hw.q.sub [0, 1, 2] [0] rfl rfl) 0 rfl rfl rfl hl.1 (Nat.le_of_ble_eq_true rfl) ⟨Nat.le_of_ble_eq_true rfl, Nat.le_of_ble_eq_true rfl⟩ rfl dX4_entries_33 (fun r_33 e_33 => ?_)
  have e_33 : r_33 = nI (enM sa r w c9 4) := e_33
  subst e_33
  refine lv_goto (tgt := 40) hx hb dX4_entries_36 (by decide) ?_
  exact hE () dX4_entries_40 (rfl) (Nat.le_of_ble_eq_true rfl) (Nat.le_of_ble_eq_true rfl) (hw.sub [0, 1, 2] [] (by decide) rfl rfl) (show nI (enM sa r w c9 4) = nI (enM sa r w c9 4) from rfl)
abbrev rmX4_entries_e1 : Room := { frames := 3, cells := 0, slots := 0, locals := 63 }
set_option maxHeartbeats 4000000 in
set_option maxRecDepth 100000 in
theorem c_X4_entries_e1 (l : Launch) (D : va_G) (sz : Nat) (cI : ClassId) (m9 : Nat → Nat) (sa : Nat → Int32) (tx : Nat → Nat) (th : Int32) (sv ln po : Nat) (lt fi sc nu : Int32) (ad rv : Nat) (p0 p1 p2 : Int32) (hv : ¬ ((inP p0 (nI 0) (nI 3) ∧ inP p1 (nI 0) (nI 5)) ∧ inP p2 (nI 0) (nI 4))) : MUi l yX4_entries wsX4_entries rmX4_entries_e1 [.ref (m9 0), .int p0, .int p1, .int p2] D [(cI, .int)] (wM cI m9 sa tx th sv ln po lt fi sc nu ad rv) sz (fun rz (_ : Unit) => rz = nI 0) (fun _ => []) (fun _ => wM cI m9 sa tx (nI 1) sv ln po lt fi sc nu ad rv) 0 0 := by
  refine met_u (own := RX4) (cc := cX4_entries) (maxL := 4) (ty := .int) (by decide) rfl rfl (Nat.le_of_ble_eq_true rfl) ?_
  intro p e s m args below meth c Q A hsz S hw hA hE ls hl
  obtain ⟨hx, hb, hml, hown, hts⟩ := id S
  have hl : lv_has ls 4 [(0, .ref (m9 0)), (1, .int p0), (2, .int p1), (3, .int p2)] := hl
  refine lv_aload_n hx hb dX4_entries_0 rfl (lv_at hl 0 rfl) ?_
  refine lv_iload_n hx hb dX4_entries_1 rfl (lv_at hl 1 rfl) ?_
  refine lv_iload_n hx hb dX4_entries_2 rfl (lv_at hl 2 rfl) ?_
  refine cq_S (As := [.int p0, .int p1]) (rest := [.ref (m9 0)]) S (c_X4_isRow l D (x := p0) (y := p1)) (va_cwS 2 hts gX4_entries_X4_isRow rfl rfl rfl (by decide +kernel) ⟨Nat.le_of_ble_eq_true rfl, Nat.le_of_ble_eq_true rfl⟩) (hw.q.sub [] [] rfl rfl) rfl hl.1 (Nat.le_of_ble_eq_true rfl) ⟨Nat.le_of_ble_eq_true rfl, Nat.le_of_ble_eq_true rfl⟩ rfl dX4_entries_3 (fun r_3 e_3 => ?_)
  have e_3 : r_3 = b2 (inP p0 (nI 0) (nI 3) ∧ inP p1 (nI 0) (nI 5)) := e_3
  subst e_3
  refine r_if_eqB (tgt := 22) hx hb dX4_entries_6 (by decide) (fun c_6 => ?_) (fun c_6 => ?_)
  ·
    refine lv_iconst (v := nI 1) hx hb dX4_entries_22 kc_iconst_1 ?_
    refine cu_Vi (As := [.int (nI 1)]) (rest := []) (wc := wM cI m9 sa tx th sv ln po lt fi sc nu ad rv) (wr := []) S (c_X4_holds l D (sz := s.heap.size) (cI := cI) (m9 := m9) (sa := sa) (tx := tx) (th := th) (sv := sv) (ln := ln) (po := po) (lt := lt) (fi := fi) (sc := sc) (nu := nu) (ad := ad) (rv := rv) (x := nI 1)) (cwV 1 hts gX4_entries_X4_holds rfl rfl rfl (by decide +kernel) ⟨Nat.le_of_ble_eq_true rfl, Nat.le_of_ble_eq_true rfl⟩) hw hA [0, 1, 2] [] [0] rfl rfl rfl (by decide) (by decide) (by decide) 0 rfl rfl rfl hl.1 (Nat.le_of_ble_eq_true rfl) ⟨Nat.le_of_ble_eq_true rfl, Nat.le_of_ble_eq_true rfl⟩ rfl dX4_entries_23 (fun r_23 u_23 H locs e_23 hw => ?_)
    have hw : Wd D A [(cI, .int)] (wM cI m9 sa tx (nI 1) sv ln po lt fi sc nu ad rv) s s.heap H locs := hw
    have e_23 : r_23 = b2 ((nI 1) = 0) := e_23
    subst e_23
    refine r_if_eqB (tgt := 39) hx hb dX4_entries_26 (by decide) (fun _ => ?_) (fun h => absurd h (by decide))
    refine lv_iconst (v := nI 0) hx hb dX4_entries_39 kc_iconst_0 ?_
    exact hE () dX4_entries_40 (rfl) (Nat.le_of_ble_eq_true rfl) (Nat.le_of_ble_eq_true rfl) (hw.sub [0, 1, 2] [] (by decide) rfl rfl) (show nI 0 = nI 0 from rfl)
  ·
    refine lv_iload_n hx hb dX4_entries_9 rfl (lv_at hl 3 rfl) ?_
    refine lv_iconst (v := nI 0) hx hb dX4_entries_10 kc_iconst_0 ?_
    refine lv_iconst (v := nI 4) hx hb dX4_entries_11 kc_iconst_4 ?_
    refine cq_S (As := [.int p2, .int (nI 0), .int (nI 4)]) (rest := [.ref (m9 0)]) S (c_X4_in l D (x := p2) (lo := nI 0) (hi := nI 4)) (va_cwS 3 hts gX4_entries_X4_in rfl rfl rfl (by decide +kernel) ⟨Nat.le_of_ble_eq_true rfl, Nat.le_of_ble_eq_true rfl⟩) (hw.q.sub [] [] rfl rfl) rfl hl.1 (Nat.le_of_ble_eq_true rfl) ⟨Nat.le_of_ble_eq_true rfl, Nat.le_of_ble_eq_true rfl⟩ rfl dX4_entries_12 (fun r_12 e_12 => ?_)
    have e_12 : r_12 = b2 (inP p2 (nI 0) (nI 4)) := e_12
    subst e_12
    refine r_if_eqB (tgt := 22) hx hb dX4_entries_15 (by decide) (fun c_15 => ?_) (fun c_15 => ?_)
    ·
      refine lv_iconst (v := nI 1) hx hb dX4_entries_22 kc_iconst_1 ?_
      refine cu_Vi (As := [.int (nI 1)]) (rest := []) (wc := wM cI m9 sa tx th sv ln po lt fi sc nu ad rv) (wr := []) S (c_X4_holds l D (sz := s.heap.size) (cI := cI) (m9 := m9) (sa := sa) (tx := tx) (th := th) (sv := sv) (ln := ln) (po := po) (lt := lt) (fi := fi) (sc := sc) (nu := nu) (ad := ad) (rv := rv) (x := nI 1)) (cwV 1 hts gX4_entries_X4_holds rfl rfl rfl (by decide +kernel) ⟨Nat.le_of_ble_eq_true rfl, Nat.le_of_ble_eq_true rfl⟩) hw hA [0, 1, 2] [] [0] rfl rfl rfl (by decide) (by decide) (by decide) 0 rfl rfl rfl hl.1 (Nat.le_of_ble_eq_true rfl) ⟨Nat.le_of_ble_eq_true rfl, Nat.le_of_ble_eq_true rfl⟩ rfl dX4_entries_23 (fun r_23 u_23 H locs e_23 hw => ?_)
      have hw : Wd D A [(cI, .int)] (wM cI m9 sa tx (nI 1) sv ln po lt fi sc nu ad rv) s s.heap H locs := hw
      have e_23 : r_23 = b2 ((nI 1) = 0) := e_23
      subst e_23
      refine r_if_eqB (tgt := 39) hx hb dX4_entries_26 (by decide) (fun _ => ?_) (fun h => absurd h (by decide))
      refine lv_iconst (v := nI 0) hx hb dX4_entries_39 kc_iconst_0 ?_
      exact hE () dX4_entries_40 (rfl) (Nat.le_of_ble_eq_true rfl) (Nat.le_of_ble_eq_true rfl) (hw.sub [0, 1, 2] [] (by decide) rfl rfl) (show nI 0 = nI 0 from rfl)
    ·
      exact absurd ⟨c_6, c_15⟩ hv
abbrev rmX4_exists_v : Room := { frames := 3, cells := 0, slots := 0, locals := 73 }
set_option maxHeartbeats 4000000 in
set_option maxRecDepth 100000 in
theorem c_X4_exists_v (l : Launch) (D : va_G) (sz : Nat) (cI : ClassId) (m9 : Nat → Nat) (sa : Nat → Int32) (tx : Nat → Nat) (th : Int32) (sv ln po : Nat) (lt fi sc nu : Int32) (ad rv : Nat) (r w : Nat) (hr : r < 4) (hw5 : w < 6) : MUi l yX4_exists wsX4_exists rmX4_exists_v [.ref (m9 0), .int (nI r), .int (nI w)] D [(cI, .int)] (wM cI m9 sa tx th sv ln po lt fi sc nu ad rv) sz (fun rz (_ : Unit) => rz = b2 (0 < exS sa r w 5)) (fun _ => []) (fun _ => wM cI m9 sa tx (nI 0) sv ln po lt fi sc nu ad rv) 0 0 := by
  refine met_u (own := RX4) (cc := cX4_exists) (maxL := 5) (ty := .boolean) (by decide) rfl rfl (Nat.le_of_ble_eq_true rfl) ?_
  intro p e s m args below meth c Q A hsz S hw hA hE ls hl
  obtain ⟨hx, hb, hml, hown, hts⟩ := id S
  have hl : lv_has ls 5 [(0, .ref (m9 0)), (1, .int (nI r)), (2, .int (nI w))] := hl
  refine lv_aload_n hx hb dX4_exists_0 rfl (lv_at hl 0 rfl) ?_
  refine lv_iload_n hx hb dX4_exists_1 rfl (lv_at hl 1 rfl) ?_
  refine lv_iload_n hx hb dX4_exists_2 rfl (lv_at hl 2 rfl) ?_
  refine cq_S (As := [.int (nI r), .int (nI w)]) (rest := [.ref (m9 0)]) S (c_X4_isRow l D (x := nI r) (y := nI w)) (va_cwS 2 hts gX4_exists_X4_isRow rfl rfl rfl (by decide +kernel) ⟨Nat.le_of_ble_eq_true rfl, Nat.le_of_ble_eq_true rfl⟩) (hw.q.sub [] [] rfl rfl) rfl hl.1 (Nat.le_of_ble_eq_true rfl) ⟨Nat.le_of_ble_eq_true rfl, Nat.le_of_ble_eq_true rfl⟩ rfl dX4_exists_3 (fun r_3 e_3 => ?_)
  have e_3 : r_3 = b2 (inP (nI r) (nI 0) (nI 3) ∧ inP (nI w) (nI 0) (nI 5)) := e_3
  subst e_3
  refine r_if_eqB (tgt := 13) hx hb dX4_exists_6 (by decide) (fun h => absurd (rowP_n hr hw5) h) (fun _ => ?_)
  refine lv_iconst (v := nI 0) hx hb dX4_exists_9 kc_iconst_0 ?_
  refine lv_goto (tgt := 14) hx hb dX4_exists_10 (by decide) ?_
  refine cu_Vi (As := [.int (nI 0)]) (rest := []) (wc := wM cI m9 sa tx th sv ln po lt fi sc nu ad rv) (wr := []) S (c_X4_holds l D (sz := s.heap.size) (cI := cI) (m9 := m9) (sa := sa) (tx := tx) (th := th) (sv := sv) (ln := ln) (po := po) (lt := lt) (fi := fi) (sc := sc) (nu := nu) (ad := ad) (rv := rv) (x := nI 0)) (cwV 1 hts gX4_exists_X4_holds rfl rfl rfl (by decide +kernel) ⟨Nat.le_of_ble_eq_true rfl, Nat.le_of_ble_eq_true rfl⟩) hw hA [0, 1, 2] [] [0] rfl rfl rfl (by decide) (by decide) (by decide) 0 rfl rfl rfl hl.1 (Nat.le_of_ble_eq_true rfl) ⟨Nat.le_of_ble_eq_true rfl, Nat.le_of_ble_eq_true rfl⟩ rfl dX4_exists_14 (fun r_14 u_14 H locs e_14 hw => ?_)
  have hw : Wd D A [(cI, .int)] (wM cI m9 sa tx (nI 0) sv ln po lt fi sc nu ad rv) s s.heap H locs := hw
  have e_14 : r_14 = b2 ((nI 0) = 0) := e_14
  subst e_14
  refine r_if_neB (tgt := 22) hx hb dX4_exists_17 (by decide) (fun _ => ?_) (fun h => absurd (rfl) h)
  refine lv_iconst (v := nI 0) hx hb dX4_exists_22 kc_iconst_0 ?_
  refine lv_istore_n (lv' := [(3, .int (nI 0)), (0, .ref (m9 0)), (1, .int (nI r)), (2, .int (nI w))]) hx hb dX4_exists_23 rfl hl (by decide) rfl (fun ls hl => ?_)
  refine lv_iconst (v := nI 0) hx hb dX4_exists_24 kc_iconst_0 ?_
  refine lv_istore (lv' := [(4, .int (nI 0)), (3, .int (nI 0)), (0, .ref (m9 0)), (1, .int (nI r)), (2, .int (nI w))]) hx hb dX4_exists_25 hl (by decide) rfl (fun ls hl => ?_)
  have L27_1 : ∀ (fu_2 k : Nat), k ≤ 5 → 5 - k < fu_2 → ∀ ls : Array Slot, lv_has ls 5 [(4, .int (nI k)), (3, .int (b2 (0 < exS sa r w k))), (0, .ref (m9 0)), (1, .int (nI r)), (2, .int (nI w))] → W p l e rmX4_exists_v s m args below meth c H locs 0 0 Q (F0 m 27 ls []) := by
    intro fu_2
    induction fu_2 with
    | zero => intro k _ h9; exact absurd h9 (Nat.not_lt_zero _)
    | succ fu_2 ih_27 =>
      intro k hk_27 hf_27 ls hl
      have hen := enM_le sa r w k 4
      refine lv_iload hx hb dX4_exists_27 (lv_at hl 0 rfl) ?_
      refine lv_iconst (v := nI 5) hx hb dX4_exists_29 kc_iconst_5 ?_
      refine r_icmp_geN (tgt := 60) hx hb (by omega) (by omega) dX4_exists_30 (by decide) (fun c_30 => ?_) (fun c_30 => ?_)
      ·
        refine lv_iload_n hx hb dX4_exists_60 rfl (lv_at hl 1 rfl) ?_
        exact hE () dX4_exists_61 (by first | rfl | exact b2_nz) (Nat.le_of_ble_eq_true rfl) (Nat.le_of_ble_eq_true rfl) (hw.sub [0, 1, 2] [] (by decide) rfl rfl) (show b2 (0 < exS sa r w k) = b2 (0 < exS sa r w 5) from by rw [show k = 5 by omega])
      ·
        refine lv_iload_n hx hb dX4_exists_33 rfl (lv_at hl 1 rfl) ?_
        have J53_3 : ∀ ls : Array Slot, lv_has ls 5 [(4, .int (nI k)), (3, .int (b2 (0 < exS sa r w k))), (0, .ref (m9 0)), (1, .int (nI r)), (2, .int (nI w))] → W p l e rmX4_exists_v s m args below meth c H locs 0 0 Q (F0 m 53 ls [.int (b2 (0 < exS sa r w (k + 1)))]) := by
          intro ls hl
          refine lv_istore_n (lv' := [(3, .int (b2 (0 < exS sa r w (k + 1)))), (4, .int (nI k)), (0, .ref (m9 0)), (1, .int (nI r)), (2, .int (nI w))]) hx hb dX4_exists_53 rfl hl (by decide) rfl (fun ls hl => ?_)
          refine lv_iinc (v := nI (k + 1)) (lv' := [(4, .int (nI (k + 1))), (3, .int (b2 (0 < exS sa r w (k + 1)))), (0, .ref (m9 0)), (1, .int (nI r)), (2, .int (nI w))]) hx hb dX4_exists_54 hl (k := 1) rfl (nI_add k 1) (by decide) rfl (fun ls hl => ?_)
          refine lv_goto (tgt := 27) hx hb dX4_exists_57 (by decide) ?_
          have hl : lv_has ls 5 [(4, .int (nI (k + 1))), (3, .int (b2 (0 < exS sa r w (k + 1)))), (0, .ref (m9 0)), (1, .int (nI r)), (2, .int (nI w))] := lv_sub hl [0, 1, 2, 3, 4] rfl
          exact ih_27 (k + 1) (by omega) (by omega) ls hl
        refine r_if_neB (tgt := 48) hx hb dX4_exists_34 (by decide) (fun c_34 => ?_) (fun c_34 => ?_)
        ·
          refine lv_iconst (v := nI 1) hx hb dX4_exists_48 kc_iconst_1 ?_
          refine lv_goto (tgt := 53) hx hb dX4_exists_49 (by decide) ?_
          have hl : lv_has ls 5 [(4, .int (nI k)), (3, .int (b2 (0 < exS sa r w k))), (0, .ref (m9 0)), (1, .int (nI r)), (2, .int (nI w))] := lv_sub hl [0, 1, 2, 3, 4] rfl
          refine r_top hx (show nI 1 = b2 (0 < exS sa r w (k + 1)) from by rw [exS]; first | exact ret1 (by omega) | exact ret0 (by omega)) ?_
          exact J53_3 ls hl
        ·
          refine lv_aload_n hx hb dX4_exists_37 rfl (lv_at hl 2 rfl) ?_
          refine lv_iload_n hx hb dX4_exists_38 rfl (lv_at hl 3 rfl) ?_
          refine lv_iload_n hx hb dX4_exists_39 rfl (lv_at hl 4 rfl) ?_
          refine lv_iload hx hb dX4_exists_40 (lv_at hl 0 rfl) ?_
          refine cq_V (As := [.int (nI r), .int (nI w), .int (nI k)]) (rest := []) S (c_X4_entriesOf l D (cI := cI) (m9 := m9) (sa := sa) (tx := tx) (th := (nI 0)) (sv := sv) (ln := ln) (po := po) (lt := lt) (fi := fi) (sc := sc) (nu := nu) (ad := ad) (rv := rv) (r := r) (w := w) (c9 := k) (hr := by omega) (hw5 := by omega) (hc := by omega)) (cwV 3 hts gX4_exists_X4_entriesOf rfl rfl rfl (by decide +kernel) ⟨Nat.le_of_ble_eq_true rfl, Nat.le_of_ble_eq_true rfl⟩) (hw.q.sub [0, 1, 2] [0] rfl rfl) 0 rfl rfl rfl hl.1 (Nat.le_of_ble_eq_true rfl) ⟨Nat.le_of_ble_eq_true rfl, Nat.le_of_ble_eq_true rfl⟩ rfl dX4_exists_42 (fun r_42 e_42 => ?_)
          have e_42 : r_42 = nI (enM sa r w k 4) := e_42
          subst e_42
          refine r_if_leN (tgt := 52) hx hb (by omega) dX4_exists_45 (by decide) (fun c_45 => ?_) (fun c_45 => ?_)
          ·
            refine lv_iconst (v := nI 0) hx hb dX4_exists_52 kc_iconst_0 ?_
            have hl : lv_has ls 5 [(4, .int (nI k)), (3, .int (b2 (0 < exS sa r w k))), (0, .ref (m9 0)), (1, .int (nI r)), (2, .int (nI w))] := lv_sub hl [0, 1, 2, 3, 4] rfl
            refine r_top hx (show nI 0 = b2 (0 < exS sa r w (k + 1)) from by rw [exS]; first | exact ret1 (by omega) | exact ret0 (by omega)) ?_
            exact J53_3 ls hl
          ·
            refine lv_iconst (v := nI 1) hx hb dX4_exists_48 kc_iconst_1 ?_
            refine lv_goto (tgt := 53) hx hb dX4_exists_49 (by decide) ?_
            have hl : lv_has ls 5 [(4, .int (nI k)), (3, .int (b2 (0 < exS sa r w k))), (0, .ref (m9 0)), (1, .int (nI r)), (2, .int (nI w))] := lv_sub hl [0, 1, 2, 3, 4] rfl
            refine r_top hx (show nI 1 = b2 (0 < exS sa r w (k + 1)) from by rw [exS]; first | exact ret1 (by omega) | exact ret0 (by omega)) ?_
            exact J53_3 ls hl
  have hl : lv_has ls 5 [(4, .int (nI 0)), (3, .int (nI 0)), (0, .ref (m9 0)), (1, .int (nI r)), (2, .int (nI w))] := lv_sub hl [0, 1, 2, 3, 4] rfl
  have hl : lv_has ls 5 [(4, .int (nI 0)), (3, .int (b2 (0 < exS sa r w 0))), (0, .ref (m9 0)), (1, .int (nI r)), (2, .int (nI w))] := lv_rep hl 1 rfl (congrArg Value.int (show nI 0 = b2 (0 < exS sa r w 0) from ret0 (Nat.lt_irrefl 0)))
  exact L27_1 (5 + 1) (0) (by omega) (by omega) ls hl
abbrev rmX4_exists_e1 : Room := { frames := 3, cells := 0, slots := 0, locals := 63 }
set_option maxHeartbeats 4000000 in
set_option maxRecDepth 100000 in
theorem c_X4_exists_e1 (l : Launch) (D : va_G) (sz : Nat) (cI : ClassId) (m9 : Nat → Nat) (sa : Nat → Int32) (tx : Nat → Nat) (th : Int32) (sv ln po : Nat) (lt fi sc nu : Int32) (ad rv : Nat) (p0 p1 : Int32) (hv : ¬ (inP p0 (nI 0) (nI 3) ∧ inP p1 (nI 0) (nI 5))) : MUi l yX4_exists wsX4_exists rmX4_exists_e1 [.ref (m9 0), .int p0, .int p1] D [(cI, .int)] (wM cI m9 sa tx th sv ln po lt fi sc nu ad rv) sz (fun rz (_ : Unit) => rz = nI 0) (fun _ => []) (fun _ => wM cI m9 sa tx (nI 1) sv ln po lt fi sc nu ad rv) 0 0 := by
  refine met_u (own := RX4) (cc := cX4_exists) (maxL := 5) (ty := .boolean) (by decide) rfl rfl (Nat.le_of_ble_eq_true rfl) ?_
  intro p e s m args below meth c Q A hsz S hw hA hE ls hl
  obtain ⟨hx, hb, hml, hown, hts⟩ := id S
  have hl : lv_has ls 5 [(0, .ref (m9 0)), (1, .int p0), (2, .int p1)] := hl
  refine lv_aload_n hx hb dX4_exists_0 rfl (lv_at hl 0 rfl) ?_
  refine lv_iload_n hx hb dX4_exists_1 rfl (lv_at hl 1 rfl) ?_
  refine lv_iload_n hx hb dX4_exists_2 rfl (lv_at hl 2 rfl) ?_
  refine cq_S (As := [.int p0, .int p1]) (rest := [.ref (m9 0)]) S (c_X4_isRow l D (x := p0) (y := p1)) (va_cwS 2 hts gX4_exists_X4_isRow rfl rfl rfl (by decide +kernel) ⟨Nat.le_of_ble_eq_true rfl, Nat.le_of_ble_eq_true rfl⟩) (hw.q.sub [] [] rfl rfl) rfl hl.1 (Nat.le_of_ble_eq_true rfl) ⟨Nat.le_of_ble_eq_true rfl, Nat.le_of_ble_eq_true rfl⟩ rfl dX4_exists_3 (fun r_3 e_3 => ?_)
  have e_3 : r_3 = b2 (inP p0 (nI 0) (nI 3) ∧ inP p1 (nI 0) (nI 5)) := e_3
  subst e_3
  refine r_if_eqB (tgt := 13) hx hb dX4_exists_6 (by decide) (fun _ => ?_) (fun h => absurd h (hv))
  refine lv_iconst (v := nI 1) hx hb dX4_exists_13 kc_iconst_1 ?_
  refine cu_Vi (As := [.int (nI 1)]) (rest := []) (wc := wM cI m9 sa tx th sv ln po lt fi sc nu ad rv) (wr := []) S (c_X4_holds l D (sz := s.heap.size) (cI := cI) (m9 := m9) (sa := sa) (tx := tx) (th := th) (sv := sv) (ln := ln) (po := po) (lt := lt) (fi := fi) (sc := sc) (nu := nu) (ad := ad) (rv := rv) (x := nI 1)) (cwV 1 hts gX4_exists_X4_holds rfl rfl rfl (by decide +kernel) ⟨Nat.le_of_ble_eq_true rfl, Nat.le_of_ble_eq_true rfl⟩) hw hA [0, 1, 2] [] [0] rfl rfl rfl (by decide) (by decide) (by decide) 0 rfl rfl rfl hl.1 (Nat.le_of_ble_eq_true rfl) ⟨Nat.le_of_ble_eq_true rfl, Nat.le_of_ble_eq_true rfl⟩ rfl dX4_exists_14 (fun r_14 u_14 H locs e_14 hw => ?_)
  have hw : Wd D A [(cI, .int)] (wM cI m9 sa tx (nI 1) sv ln po lt fi sc nu ad rv) s s.heap H locs := hw
  have e_14 : r_14 = b2 ((nI 1) = 0) := e_14
  subst e_14
  refine r_if_neB (tgt := 22) hx hb dX4_exists_17 (by decide) (fun h => absurd h (by decide)) (fun _ => ?_)
  refine lv_iconst (v := nI 0) hx hb dX4_exists_20 kc_iconst_0 ?_
  exact hE () dX4_exists_21 (by first | rfl | exact b2_nz) (Nat.le_of_ble_eq_true rfl) (Nat.le_of_ble_eq_true rfl) (hw.sub [0, 1, 2] [] (by decide) rfl rfl) (show nI 0 = nI 0 from rfl)
abbrev rmX4_seen_v : Room := { frames := 2, cells := 0, slots := 0, locals := 42 }
set_option maxHeartbeats 4000000 in
set_option maxRecDepth 100000 in
theorem c_X4_seen_v (l : Launch) (D : va_G) (sz : Nat) (cI : ClassId) (m9 : Nat → Nat) (sa : Nat → Int32) (tx : Nat → Nat) (th : Int32) (sv ln po : Nat) (lt fi sc nu : Int32) (ad rv : Nat) (a9 b9 : Nat) (ha9 : a9 < 4) (hb9 : b9 < 4) : MUi l yX4_seen wsX4_seen rmX4_seen_v [.ref (m9 0), .int (nI a9), .int (nI b9)] D [(cI, .int)] (wM cI m9 sa tx th sv ln po lt fi sc nu ad rv) sz (fun rz (_ : Unit) => rz = sa (0 + 4 * a9 + b9)) (fun _ => []) (fun _ => wM cI m9 sa tx (nI 0) sv ln po lt fi sc nu ad rv) 0 0 := by
  refine met_u (own := RX4) (cc := cX4_seen) (maxL := 3) (ty := .int) (by decide) rfl rfl (Nat.le_of_ble_eq_true rfl) ?_
  intro p e s m args below meth c Q A hsz S hw hA hE ls hl
  obtain ⟨hx, hb, hml, hown, hts⟩ := id S
  have hl : lv_has ls 3 [(0, .ref (m9 0)), (1, .int (nI a9)), (2, .int (nI b9))] := hl
  refine lv_aload_n hx hb dX4_seen_0 rfl (lv_at hl 0 rfl) ?_
  refine lv_iload_n hx hb dX4_seen_1 rfl (lv_at hl 1 rfl) ?_
  refine cq_S (As := [.int (nI a9)]) (rest := [.ref (m9 0)]) S (c_X4_isReplica l D (x := nI a9)) (va_cwS 1 hts gX4_seen_X4_isReplica rfl rfl rfl (by decide +kernel) ⟨Nat.le_of_ble_eq_true rfl, Nat.le_of_ble_eq_true rfl⟩) (hw.q.sub [] [] rfl rfl) rfl hl.1 (Nat.le_of_ble_eq_true rfl) ⟨Nat.le_of_ble_eq_true rfl, Nat.le_of_ble_eq_true rfl⟩ rfl dX4_seen_2 (fun r_2 e_2 => ?_)
  have e_2 : r_2 = b2 (inP (nI a9) (nI 0) (nI 3)) := e_2
  subst e_2
  refine r_if_eqB (tgt := 19) hx hb dX4_seen_5 (by decide) (fun h => absurd (repP_n ha9) h) (fun _ => ?_)
  refine lv_iload_n hx hb dX4_seen_8 rfl (lv_at hl 2 rfl) ?_
  refine cq_S (As := [.int (nI b9)]) (rest := [.ref (m9 0)]) S (c_X4_isReplica l D (x := nI b9)) (va_cwS 1 hts gX4_seen_X4_isReplica rfl rfl rfl (by decide +kernel) ⟨Nat.le_of_ble_eq_true rfl, Nat.le_of_ble_eq_true rfl⟩) (hw.q.sub [] [] rfl rfl) rfl hl.1 (Nat.le_of_ble_eq_true rfl) ⟨Nat.le_of_ble_eq_true rfl, Nat.le_of_ble_eq_true rfl⟩ rfl dX4_seen_9 (fun r_9 e_9 => ?_)
  have e_9 : r_9 = b2 (inP (nI b9) (nI 0) (nI 3)) := e_9
  subst e_9
  refine r_if_eqB (tgt := 19) hx hb dX4_seen_12 (by decide) (fun h => absurd (repP_n hb9) h) (fun _ => ?_)
  refine lv_iconst (v := nI 0) hx hb dX4_seen_15 kc_iconst_0 ?_
  refine lv_goto (tgt := 20) hx hb dX4_seen_16 (by decide) ?_
  refine cu_Vi (As := [.int (nI 0)]) (rest := []) (wc := wM cI m9 sa tx th sv ln po lt fi sc nu ad rv) (wr := []) S (c_X4_holds l D (sz := s.heap.size) (cI := cI) (m9 := m9) (sa := sa) (tx := tx) (th := th) (sv := sv) (ln := ln) (po := po) (lt := lt) (fi := fi) (sc := sc) (nu := nu) (ad := ad) (rv := rv) (x := nI 0)) (cwV 1 hts gX4_seen_X4_holds rfl rfl rfl (by decide +kernel) ⟨Nat.le_of_ble_eq_true rfl, Nat.le_of_ble_eq_true rfl⟩) hw hA [0, 1, 2] [] [0] rfl rfl rfl (by decide) (by decide) (by decide) 0 rfl rfl rfl hl.1 (Nat.le_of_ble_eq_true rfl) ⟨Nat.le_of_ble_eq_true rfl, Nat.le_of_ble_eq_true rfl⟩ rfl dX4_seen_20 (fun r_20 u_20 H locs e_20 hw => ?_)
  have hw : Wd D A [(cI, .int)] (wM cI m9 sa tx (nI 0) sv ln po lt fi sc nu ad rv) s s.heap H locs := hw
  have e_20 : r_20 = b2 ((nI 0) = 0) := e_20
  subst e_20
  refine r_if_eqB (tgt := 35) hx hb dX4_seen_23 (by decide) (fun h => absurd (rfl) h) (fun _ => ?_)
  refine lv_aload_n hx hb dX4_seen_26 rfl (lv_at hl 0 rfl) ?_
  refine lv_iload_n hx hb dX4_seen_27 rfl (lv_at hl 1 rfl) ?_
  refine lv_iload_n hx hb dX4_seen_28 rfl (lv_at hl 2 rfl) ?_
  refine cq_V (As := [.int (nI a9), .int (nI b9)]) (rest := []) S (c_X4_seenBy l D (cI := cI) (m9 := m9) (sa := sa) (tx := tx) (th := (nI 0)) (sv := sv) (ln := ln) (po := po) (lt := lt) (fi := fi) (sc := sc) (nu := nu) (ad := ad) (rv := rv) (a9 := a9) (b9 := b9) (ha9 := by omega) (hb9 := by omega)) (cwV 2 hts gX4_seen_X4_seenBy rfl rfl rfl (by decide +kernel) ⟨Nat.le_of_ble_eq_true rfl, Nat.le_of_ble_eq_true rfl⟩) (hw.q.sub [0, 1, 2] [0] rfl rfl) 0 rfl rfl rfl hl.1 (Nat.le_of_ble_eq_true rfl) ⟨Nat.le_of_ble_eq_true rfl, Nat.le_of_ble_eq_true rfl⟩ rfl dX4_seen_29 (fun r_29 e_29 => ?_)
  have e_29 : r_29 = sa (0 + 4 * a9 + b9) := e_29
  subst e_29
  refine lv_goto (tgt := 36) hx hb dX4_seen_32 (by decide) ?_
  exact hE () dX4_seen_36 (rfl) (Nat.le_of_ble_eq_true rfl) (Nat.le_of_ble_eq_true rfl) (hw.sub [0, 1, 2] [] (by decide) rfl rfl) (show sa (0 + 4 * a9 + b9) = sa (0 + 4 * a9 + b9) from rfl)
abbrev rmX4_seen_e1 : Room := { frames := 2, cells := 0, slots := 0, locals := 42 }
set_option maxHeartbeats 4000000 in
set_option maxRecDepth 100000 in
theorem c_X4_seen_e1 (l : Launch) (D : va_G) (sz : Nat) (cI : ClassId) (m9 : Nat → Nat) (sa : Nat → Int32) (tx : Nat → Nat) (th : Int32) (sv ln po : Nat) (lt fi sc nu : Int32) (ad rv : Nat) (p0 p1 : Int32) (hv : ¬ (inP p0 (nI 0) (nI 3) ∧ inP p1 (nI 0) (nI 3))) : MUi l yX4_seen wsX4_seen rmX4_seen_e1 [.ref (m9 0), .int p0, .int p1] D [(cI, .int)] (wM cI m9 sa tx th sv ln po lt fi sc nu ad rv) sz (fun rz (_ : Unit) => rz = nI 0) (fun _ => []) (fun _ => wM cI m9 sa tx (nI 1) sv ln po lt fi sc nu ad rv) 0 0 := by
  refine met_u (own := RX4) (cc := cX4_seen) (maxL := 3) (ty := .int) (by decide) rfl rfl (Nat.le_of_ble_eq_true rfl) ?_
  intro p e s m args below meth c Q A hsz S hw hA hE ls hl
  obtain ⟨hx, hb, hml, hown, hts⟩ := id S
  have hl : lv_has ls 3 [(0, .ref (m9 0)), (1, .int p0), (2, .int p1)] := hl
  refine lv_aload_n hx hb dX4_seen_0 rfl (lv_at hl 0 rfl) ?_
  refine lv_iload_n hx hb dX4_seen_1 rfl (lv_at hl 1 rfl) ?_
  refine cq_S (As := [.int p0]) (rest := [.ref (m9 0)]) S (c_X4_isReplica l D (x := p0)) (va_cwS 1 hts gX4_seen_X4_isReplica rfl rfl rfl (by decide +kernel) ⟨Nat.le_of_ble_eq_true rfl, Nat.le_of_ble_eq_true rfl⟩) (hw.q.sub [] [] rfl rfl) rfl hl.1 (Nat.le_of_ble_eq_true rfl) ⟨Nat.le_of_ble_eq_true rfl, Nat.le_of_ble_eq_true rfl⟩ rfl dX4_seen_2 (fun r_2 e_2 => ?_)
  have e_2 : r_2 = b2 (inP p0 (nI 0) (nI 3)) := e_2
  subst e_2
  refine r_if_eqB (tgt := 19) hx hb dX4_seen_5 (by decide) (fun c_5 => ?_) (fun c_5 => ?_)
  ·
    refine lv_iconst (v := nI 1) hx hb dX4_seen_19 kc_iconst_1 ?_
    refine cu_Vi (As := [.int (nI 1)]) (rest := []) (wc := wM cI m9 sa tx th sv ln po lt fi sc nu ad rv) (wr := []) S (c_X4_holds l D (sz := s.heap.size) (cI := cI) (m9 := m9) (sa := sa) (tx := tx) (th := th) (sv := sv) (ln := ln) (po := po) (lt := lt) (fi := fi) (sc := sc) (nu := nu) (ad := ad) (rv := rv) (x := nI 1)) (cwV 1 hts gX4_seen_X4_holds rfl rfl rfl (by decide +kernel) ⟨Nat.le_of_ble_eq_true rfl, Nat.le_of_ble_eq_true rfl⟩) hw hA [0, 1, 2] [] [0] rfl rfl rfl (by decide) (by decide) (by decide) 0 rfl rfl rfl hl.1 (Nat.le_of_ble_eq_true rfl) ⟨Nat.le_of_ble_eq_true rfl, Nat.le_of_ble_eq_true rfl⟩ rfl dX4_seen_20 (fun r_20 u_20 H locs e_20 hw => ?_)
    have hw : Wd D A [(cI, .int)] (wM cI m9 sa tx (nI 1) sv ln po lt fi sc nu ad rv) s s.heap H locs := hw
    have e_20 : r_20 = b2 ((nI 1) = 0) := e_20
    subst e_20
    refine r_if_eqB (tgt := 35) hx hb dX4_seen_23 (by decide) (fun _ => ?_) (fun h => absurd h (by decide))
    refine lv_iconst (v := nI 0) hx hb dX4_seen_35 kc_iconst_0 ?_
    exact hE () dX4_seen_36 (rfl) (Nat.le_of_ble_eq_true rfl) (Nat.le_of_ble_eq_true rfl) (hw.sub [0, 1, 2] [] (by decide) rfl rfl) (show nI 0 = nI 0 from rfl)
  ·
    refine lv_iload_n hx hb dX4_seen_8 rfl (lv_at hl 2 rfl) ?_
    refine cq_S (As := [.int p1]) (rest := [.ref (m9 0)]) S (c_X4_isReplica l D (x := p1)) (va_cwS 1 hts gX4_seen_X4_isReplica rfl rfl rfl (by decide +kernel) ⟨Nat.le_of_ble_eq_true rfl, Nat.le_of_ble_eq_true rfl⟩) (hw.q.sub [] [] rfl rfl) rfl hl.1 (Nat.le_of_ble_eq_true rfl) ⟨Nat.le_of_ble_eq_true rfl, Nat.le_of_ble_eq_true rfl⟩ rfl dX4_seen_9 (fun r_9 e_9 => ?_)
    have e_9 : r_9 = b2 (inP p1 (nI 0) (nI 3)) := e_9
    subst e_9
    refine r_if_eqB (tgt := 19) hx hb dX4_seen_12 (by decide) (fun c_12 => ?_) (fun c_12 => ?_)
    ·
      refine lv_iconst (v := nI 1) hx hb dX4_seen_19 kc_iconst_1 ?_
      refine cu_Vi (As := [.int (nI 1)]) (rest := []) (wc := wM cI m9 sa tx th sv ln po lt fi sc nu ad rv) (wr := []) S (c_X4_holds l D (sz := s.heap.size) (cI := cI) (m9 := m9) (sa := sa) (tx := tx) (th := th) (sv := sv) (ln := ln) (po := po) (lt := lt) (fi := fi) (sc := sc) (nu := nu) (ad := ad) (rv := rv) (x := nI 1)) (cwV 1 hts gX4_seen_X4_holds rfl rfl rfl (by decide +kernel) ⟨Nat.le_of_ble_eq_true rfl, Nat.le_of_ble_eq_true rfl⟩) hw hA [0, 1, 2] [] [0] rfl rfl rfl (by decide) (by decide) (by decide) 0 rfl rfl rfl hl.1 (Nat.le_of_ble_eq_true rfl) ⟨Nat.le_of_ble_eq_true rfl, Nat.le_of_ble_eq_true rfl⟩ rfl dX4_seen_20 (fun r_20 u_20 H locs e_20 hw => ?_)
      have hw : Wd D A [(cI, .int)] (wM cI m9 sa tx (nI 1) sv ln po lt fi sc nu ad rv) s s.heap H locs := hw
      have e_20 : r_20 = b2 ((nI 1) = 0) := e_20
      subst e_20
      refine r_if_eqB (tgt := 35) hx hb dX4_seen_23 (by decide) (fun _ => ?_) (fun h => absurd h (by decide))
      refine lv_iconst (v := nI 0) hx hb dX4_seen_35 kc_iconst_0 ?_
      exact hE () dX4_seen_36 (rfl) (Nat.le_of_ble_eq_true rfl) (Nat.le_of_ble_eq_true rfl) (hw.sub [0, 1, 2] [] (by decide) rfl rfl) (show nI 0 = nI 0 from rfl)
    ·
      exact absurd ⟨c_5, c_12⟩ hv
abbrev rmX4_clock_v : Room := { frames := 2, cells := 0, slots := 0, locals := 42 }
set_option maxHeartbeats 4000000 in
set_option maxRecDepth 100000 in
theorem c_X4_clock_v (l : Launch) (D : va_G) (sz : Nat) (cI : ClassId) (m9 : Nat → Nat) (sa : Nat → Int32) (tx : Nat → Nat) (th : Int32) (sv ln po : Nat) (lt fi sc nu : Int32) (ad rv : Nat) (r : Nat) (hr : r < 4) : MUi l yX4_clock wsX4_clock rmX4_clock_v [.ref (m9 0), .int (nI r)] D [(cI, .int)] (wM cI m9 sa tx th sv ln po lt fi sc nu ad rv) sz (fun rz (_ : Unit) => rz = sa (16 + r)) (fun _ => []) (fun _ => wM cI m9 sa tx (nI 0) sv ln po lt fi sc nu ad rv) 0 0 := by
  refine met_u (own := RX4) (cc := cX4_clock) (maxL := 2) (ty := .int) (by decide) rfl rfl (Nat.le_of_ble_eq_true rfl) ?_
  intro p e s m args below meth c Q A hsz S hw hA hE ls hl
  obtain ⟨hx, hb, hml, hown, hts⟩ := id S
  have k7 := hts (.fieldLink RX4 7 "CausalTableModel" "s" "[I") (by decide +kernel)
  have hin4 := (show ∀ w ∈ wsX40, w ∈ wsX4_clock by decide +kernel)
  have hl : lv_has ls 2 [(0, .ref (m9 0)), (1, .int (nI r))] := hl
  refine lv_aload_n hx hb dX4_clock_0 rfl (lv_at hl 0 rfl) ?_
  refine lv_iload_n hx hb dX4_clock_1 rfl (lv_at hl 1 rfl) ?_
  refine cq_S (As := [.int (nI r)]) (rest := [.ref (m9 0)]) S (c_X4_isReplica l D (x := nI r)) (va_cwS 1 hts gX4_clock_X4_isReplica rfl rfl rfl (by decide +kernel) ⟨Nat.le_of_ble_eq_true rfl, Nat.le_of_ble_eq_true rfl⟩) (hw.q.sub [] [] rfl rfl) rfl hl.1 (Nat.le_of_ble_eq_true rfl) ⟨Nat.le_of_ble_eq_true rfl, Nat.le_of_ble_eq_true rfl⟩ rfl dX4_clock_2 (fun r_2 e_2 => ?_)
  have e_2 : r_2 = b2 (inP (nI r) (nI 0) (nI 3)) := e_2
  subst e_2
  refine r_if_eqB (tgt := 12) hx hb dX4_clock_5 (by decide) (fun h => absurd (repP_n hr) h) (fun _ => ?_)
  refine lv_iconst (v := nI 0) hx hb dX4_clock_8 kc_iconst_0 ?_
  refine lv_goto (tgt := 13) hx hb dX4_clock_9 (by decide) ?_
  refine cu_Vi (As := [.int (nI 0)]) (rest := []) (wc := wM cI m9 sa tx th sv ln po lt fi sc nu ad rv) (wr := []) S (c_X4_holds l D (sz := s.heap.size) (cI := cI) (m9 := m9) (sa := sa) (tx := tx) (th := th) (sv := sv) (ln := ln) (po := po) (lt := lt) (fi := fi) (sc := sc) (nu := nu) (ad := ad) (rv := rv) (x := nI 0)) (cwV 1 hts gX4_clock_X4_holds rfl rfl rfl (by decide +kernel) ⟨Nat.le_of_ble_eq_true rfl, Nat.le_of_ble_eq_true rfl⟩) hw hA [0, 1, 2] [] [0] rfl rfl rfl (by decide) (by decide) (by decide) 0 rfl rfl rfl hl.1 (Nat.le_of_ble_eq_true rfl) ⟨Nat.le_of_ble_eq_true rfl, Nat.le_of_ble_eq_true rfl⟩ rfl dX4_clock_13 (fun r_13 u_13 H locs e_13 hw => ?_)
  have hw : Wd D A [(cI, .int)] (wM cI m9 sa tx (nI 0) sv ln po lt fi sc nu ad rv) s s.heap H locs := hw
  have e_13 : r_13 = b2 ((nI 0) = 0) := e_13
  subst e_13
  refine r_if_eqB (tgt := 31) hx hb dX4_clock_16 (by decide) (fun h => absurd (rfl) h) (fun _ => ?_)
  refine lv_aload_n hx hb dX4_clock_19 rfl (lv_at hl 0 rfl) ?_
  refine r_get hx hb hts hown hw.q 0 1 hin4 rfl rfl (by decide) k7 rfl dX4_clock_20 ?_
  refine lv_bipush (v := nI 16) hx hb dX4_clock_23 kc_bipush_16 ?_
  refine lv_iload_n hx hb dX4_clock_25 rfl (lv_at hl 1 rfl) ?_
  refine r_addN hx hb dX4_clock_26 ?_
  refine r_ald hx hb hw.q 1 0 rfl rfl (i := 16 + r) (by omega) (by decide) dX4_clock_27 ?_
  refine lv_goto (tgt := 32) hx hb dX4_clock_28 (by decide) ?_
  exact hE () dX4_clock_32 (rfl) (Nat.le_of_ble_eq_true rfl) (Nat.le_of_ble_eq_true rfl) (hw.sub [0, 1, 2] [] (by decide) rfl rfl) (show sa (16 + r) = sa (16 + r) from rfl)
abbrev rmX4_clock_e1 : Room := { frames := 2, cells := 0, slots := 0, locals := 42 }
set_option maxHeartbeats 4000000 in
set_option maxRecDepth 100000 in
theorem c_X4_clock_e1 (l : Launch) (D : va_G) (sz : Nat) (cI : ClassId) (m9 : Nat → Nat) (sa : Nat → Int32) (tx : Nat → Nat) (th : Int32) (sv ln po : Nat) (lt fi sc nu : Int32) (ad rv : Nat) (p0 : Int32) (hv : ¬ inP p0 (nI 0) (nI 3)) : MUi l yX4_clock wsX4_clock rmX4_clock_e1 [.ref (m9 0), .int p0] D [(cI, .int)] (wM cI m9 sa tx th sv ln po lt fi sc nu ad rv) sz (fun rz (_ : Unit) => rz = nI 0) (fun _ => []) (fun _ => wM cI m9 sa tx (nI 1) sv ln po lt fi sc nu ad rv) 0 0 := by
  refine met_u (own := RX4) (cc := cX4_clock) (maxL := 2) (ty := .int) (by decide) rfl rfl (Nat.le_of_ble_eq_true rfl) ?_
  intro p e s m args below meth c Q A hsz S hw hA hE ls hl
  obtain ⟨hx, hb, hml, hown, hts⟩ := id S
  have hl : lv_has ls 2 [(0, .ref (m9 0)), (1, .int p0)] := hl
  refine lv_aload_n hx hb dX4_clock_0 rfl (lv_at hl 0 rfl) ?_
  refine lv_iload_n hx hb dX4_clock_1 rfl (lv_at hl 1 rfl) ?_
  refine cq_S (As := [.int p0]) (rest := [.ref (m9 0)]) S (c_X4_isReplica l D (x := p0)) (va_cwS 1 hts gX4_clock_X4_isReplica rfl rfl rfl (by decide +kernel) ⟨Nat.le_of_ble_eq_true rfl, Nat.le_of_ble_eq_true rfl⟩) (hw.q.sub [] [] rfl rfl) rfl hl.1 (Nat.le_of_ble_eq_true rfl) ⟨Nat.le_of_ble_eq_true rfl, Nat.le_of_ble_eq_true rfl⟩ rfl dX4_clock_2 (fun r_2 e_2 => ?_)
  have e_2 : r_2 = b2 (inP p0 (nI 0) (nI 3)) := e_2
  subst e_2
  refine r_if_eqB (tgt := 12) hx hb dX4_clock_5 (by decide) (fun _ => ?_) (fun h => absurd h (hv))
  refine lv_iconst (v := nI 1) hx hb dX4_clock_12 kc_iconst_1 ?_
  refine cu_Vi (As := [.int (nI 1)]) (rest := []) (wc := wM cI m9 sa tx th sv ln po lt fi sc nu ad rv) (wr := []) S (c_X4_holds l D (sz := s.heap.size) (cI := cI) (m9 := m9) (sa := sa) (tx := tx) (th := th) (sv := sv) (ln := ln) (po := po) (lt := lt) (fi := fi) (sc := sc) (nu := nu) (ad := ad) (rv := rv) (x := nI 1)) (cwV 1 hts gX4_clock_X4_holds rfl rfl rfl (by decide +kernel) ⟨Nat.le_of_ble_eq_true rfl, Nat.le_of_ble_eq_true rfl⟩) hw hA [0, 1, 2] [] [0] rfl rfl rfl (by decide) (by decide) (by decide) 0 rfl rfl rfl hl.1 (Nat.le_of_ble_eq_true rfl) ⟨Nat.le_of_ble_eq_true rfl, Nat.le_of_ble_eq_true rfl⟩ rfl dX4_clock_13 (fun r_13 u_13 H locs e_13 hw => ?_)
  have hw : Wd D A [(cI, .int)] (wM cI m9 sa tx (nI 1) sv ln po lt fi sc nu ad rv) s s.heap H locs := hw
  have e_13 : r_13 = b2 ((nI 1) = 0) := e_13
  subst e_13
  refine r_if_eqB (tgt := 31) hx hb dX4_clock_16 (by decide) (fun _ => ?_) (fun h => absurd h (by decide))
  refine lv_iconst (v := nI 0) hx hb dX4_clock_31 kc_iconst_0 ?_
  exact hE () dX4_clock_32 (rfl) (Nat.le_of_ble_eq_true rfl) (Nat.le_of_ble_eq_true rfl) (hw.sub [0, 1, 2] [] (by decide) rfl rfl) (show nI 0 = nI 0 from rfl)
abbrev rmX4_relation_v : Room := { frames := 2, cells := 0, slots := 0, locals := 46 }
set_option maxHeartbeats 4000000 in
set_option maxRecDepth 100000 in
theorem c_X4_relation_v (l : Launch) (D : va_G) (sz : Nat) (cI : ClassId) (m9 : Nat → Nat) (sa : Nat → Int32) (tx : Nat → Nat) (th : Int32) (sv ln po : Nat) (lt fi sc nu : Int32) (ad rv : Nat) (a9 b9 : Nat) (ha9 : a9 < 4) (hb9 : b9 < 4) : MUi l yX4_relation wsX4_relation rmX4_relation_v [.ref (m9 0), .int (nI a9), .int (nI b9)] D [(cI, .int)] (wM cI m9 sa tx th sv ln po lt fi sc nu ad rv) sz (fun rz (_ : Unit) => rz = reM sa a9 b9) (fun _ => []) (fun _ => wM cI m9 sa tx (nI 0) sv ln po lt fi sc nu ad rv) 0 0 := by
  refine met_u (own := RX4) (cc := cX4_relation) (maxL := 3) (ty := .int) (by decide) rfl rfl (Nat.le_of_ble_eq_true rfl) ?_
  intro p e s m args below meth c Q A hsz S hw hA hE ls hl
  obtain ⟨hx, hb, hml, hown, hts⟩ := id S
  have hl : lv_has ls 3 [(0, .ref (m9 0)), (1, .int (nI a9)), (2, .int (nI b9))] := hl
  refine lv_aload_n hx hb dX4_relation_0 rfl (lv_at hl 0 rfl) ?_
  refine lv_iload_n hx hb dX4_relation_1 rfl (lv_at hl 1 rfl) ?_
  refine cq_S (As := [.int (nI a9)]) (rest := [.ref (m9 0)]) S (c_X4_isReplica l D (x := nI a9)) (va_cwS 1 hts gX4_relation_X4_isReplica rfl rfl rfl (by decide +kernel) ⟨Nat.le_of_ble_eq_true rfl, Nat.le_of_ble_eq_true rfl⟩) (hw.q.sub [] [] rfl rfl) rfl hl.1 (Nat.le_of_ble_eq_true rfl) ⟨Nat.le_of_ble_eq_true rfl, Nat.le_of_ble_eq_true rfl⟩ rfl dX4_relation_2 (fun r_2 e_2 => ?_)
  have e_2 : r_2 = b2 (inP (nI a9) (nI 0) (nI 3)) := e_2
  subst e_2
  refine r_if_eqB (tgt := 19) hx hb dX4_relation_5 (by decide) (fun h => absurd (repP_n ha9) h) (fun _ => ?_)
  refine lv_iload_n hx hb dX4_relation_8 rfl (lv_at hl 2 rfl) ?_
  refine cq_S (As := [.int (nI b9)]) (rest := [.ref (m9 0)]) S (c_X4_isReplica l D (x := nI b9)) (va_cwS 1 hts gX4_relation_X4_isReplica rfl rfl rfl (by decide +kernel) ⟨Nat.le_of_ble_eq_true rfl, Nat.le_of_ble_eq_true rfl⟩) (hw.q.sub [] [] rfl rfl) rfl hl.1 (Nat.le_of_ble_eq_true rfl) ⟨Nat.le_of_ble_eq_true rfl, Nat.le_of_ble_eq_true rfl⟩ rfl dX4_relation_9 (fun r_9 e_9 => ?_)
  have e_9 : r_9 = b2 (inP (nI b9) (nI 0) (nI 3)) := e_9
  subst e_9
  refine r_if_eqB (tgt := 19) hx hb dX4_relation_12 (by decide) (fun h => absurd (repP_n hb9) h) (fun _ => ?_)
  refine lv_iconst (v := nI 0) hx hb dX4_relation_15 kc_iconst_0 ?_
  refine lv_goto (tgt := 20) hx hb dX4_relation_16 (by decide) ?_
  refine cu_Vi (As := [.int (nI 0)]) (rest := []) (wc := wM cI m9 sa tx th sv ln po lt fi sc nu ad rv) (wr := []) S (c_X4_holds l D (sz := s.heap.size) (cI := cI) (m9 := m9) (sa := sa) (tx := tx) (th := th) (sv := sv) (ln := ln) (po := po) (lt := lt) (fi := fi) (sc := sc) (nu := nu) (ad := ad) (rv := rv) (x := nI 0)) (cwV 1 hts gX4_relation_X4_holds rfl rfl rfl (by decide +kernel) ⟨Nat.le_of_ble_eq_true rfl, Nat.le_of_ble_eq_true rfl⟩) hw hA [0, 1, 2] [] [0] rfl rfl rfl (by decide) (by decide) (by decide) 0 rfl rfl rfl hl.1 (Nat.le_of_ble_eq_true rfl) ⟨Nat.le_of_ble_eq_true rfl, Nat.le_of_ble_eq_true rfl⟩ rfl dX4_relation_20 (fun r_20 u_20 H locs e_20 hw => ?_)
  have hw : Wd D A [(cI, .int)] (wM cI m9 sa tx (nI 0) sv ln po lt fi sc nu ad rv) s s.heap H locs := hw
  have e_20 : r_20 = b2 ((nI 0) = 0) := e_20
  subst e_20
  refine r_if_neB (tgt := 28) hx hb dX4_relation_23 (by decide) (fun _ => ?_) (fun h => absurd (rfl) h)
  refine lv_aload_n hx hb dX4_relation_28 rfl (lv_at hl 0 rfl) ?_
  refine lv_iload_n hx hb dX4_relation_29 rfl (lv_at hl 1 rfl) ?_
  refine lv_iload_n hx hb dX4_relation_30 rfl (lv_at hl 2 rfl) ?_
  refine cq_V (As := [.int (nI a9), .int (nI b9)]) (rest := []) S (c_X4_knows l D (cI := cI) (m9 := m9) (sa := sa) (tx := tx) (th := (nI 0)) (sv := sv) (ln := ln) (po := po) (lt := lt) (fi := fi) (sc := sc) (nu := nu) (ad := ad) (rv := rv) (a9 := a9) (b9 := b9) (ha9 := by omega) (hb9 := by omega)) (cwV 2 hts gX4_relation_X4_knows rfl rfl rfl (by decide +kernel) ⟨Nat.le_of_ble_eq_true rfl, Nat.le_of_ble_eq_true rfl⟩) (hw.q.sub [0, 1, 2] [0] rfl rfl) 0 rfl rfl rfl hl.1 (Nat.le_of_ble_eq_true rfl) ⟨Nat.le_of_ble_eq_true rfl, Nat.le_of_ble_eq_true rfl⟩ rfl dX4_relation_31 (fun r_31 e_31 => ?_)
  have e_31 : r_31 = b2 (kwM sa a9 b9 4) := e_31
  subst e_31
  refine r_if_eqB (tgt := 52) hx hb dX4_relation_34 (by decide) (fun c_34 => ?_) (fun c_34 => ?_)
  ·
    refine lv_aload_n hx hb dX4_relation_52 rfl (lv_at hl 0 rfl) ?_
    refine lv_iload_n hx hb dX4_relation_53 rfl (lv_at hl 2 rfl) ?_
    refine lv_iload_n hx hb dX4_relation_54 rfl (lv_at hl 1 rfl) ?_
    refine cq_V (As := [.int (nI b9), .int (nI a9)]) (rest := []) S (c_X4_knows l D (cI := cI) (m9 := m9) (sa := sa) (tx := tx) (th := (nI 0)) (sv := sv) (ln := ln) (po := po) (lt := lt) (fi := fi) (sc := sc) (nu := nu) (ad := ad) (rv := rv) (a9 := b9) (b9 := a9) (ha9 := by omega) (hb9 := by omega)) (cwV 2 hts gX4_relation_X4_knows rfl rfl rfl (by decide +kernel) ⟨Nat.le_of_ble_eq_true rfl, Nat.le_of_ble_eq_true rfl⟩) (hw.q.sub [0, 1, 2] [0] rfl rfl) 0 rfl rfl rfl hl.1 (Nat.le_of_ble_eq_true rfl) ⟨Nat.le_of_ble_eq_true rfl, Nat.le_of_ble_eq_true rfl⟩ rfl dX4_relation_55 (fun r_55 e_55 => ?_)
    have e_55 : r_55 = b2 (kwM sa b9 a9 4) := e_55
    subst e_55
    refine r_if_eqB (tgt := 65) hx hb dX4_relation_58 (by decide) (fun c_58 => ?_) (fun c_58 => ?_)
    ·
      refine lv_iconst (v := nI 3) hx hb dX4_relation_65 kc_iconst_3 ?_
      exact hE () dX4_relation_66 (rfl) (Nat.le_of_ble_eq_true rfl) (Nat.le_of_ble_eq_true rfl) (hw.sub [0, 1, 2] [] (by decide) rfl rfl) (show nI 3 = reM sa a9 b9 from by rw [reM, if_neg c_34]; first | exact (if_pos c_58).symm | exact (if_neg c_58).symm)
    ·
      refine lv_iconst (v := nI 1) hx hb dX4_relation_61 kc_iconst_1 ?_
      refine lv_goto (tgt := 66) hx hb dX4_relation_62 (by decide) ?_
      exact hE () dX4_relation_66 (rfl) (Nat.le_of_ble_eq_true rfl) (Nat.le_of_ble_eq_true rfl) (hw.sub [0, 1, 2] [] (by decide) rfl rfl) (show nI 1 = reM sa a9 b9 from by rw [reM, if_neg c_34]; first | exact (if_pos c_58).symm | exact (if_neg c_58).symm)
  ·
    refine lv_aload_n hx hb dX4_relation_37 rfl (lv_at hl 0 rfl) ?_
    refine lv_iload_n hx hb dX4_relation_38 rfl (lv_at hl 2 rfl) ?_
    refine lv_iload_n hx hb dX4_relation_39 rfl (lv_at hl 1 rfl) ?_
    refine cq_V (As := [.int (nI b9), .int (nI a9)]) (rest := []) S (c_X4_knows l D (cI := cI) (m9 := m9) (sa := sa) (tx := tx) (th := (nI 0)) (sv := sv) (ln := ln) (po := po) (lt := lt) (fi := fi) (sc := sc) (nu := nu) (ad := ad) (rv := rv) (a9 := b9) (b9 := a9) (ha9 := by omega) (hb9 := by omega)) (cwV 2 hts gX4_relation_X4_knows rfl rfl rfl (by decide +kernel) ⟨Nat.le_of_ble_eq_true rfl, Nat.le_of_ble_eq_true rfl⟩) (hw.q.sub [0, 1, 2] [0] rfl rfl) 0 rfl rfl rfl hl.1 (Nat.le_of_ble_eq_true rfl) ⟨Nat.le_of_ble_eq_true rfl, Nat.le_of_ble_eq_true rfl⟩ rfl dX4_relation_40 (fun r_40 e_40 => ?_)
    have e_40 : r_40 = b2 (kwM sa b9 a9 4) := e_40
    subst e_40
    refine r_if_eqB (tgt := 50) hx hb dX4_relation_43 (by decide) (fun c_43 => ?_) (fun c_43 => ?_)
    ·
      refine lv_iconst (v := nI 2) hx hb dX4_relation_50 kc_iconst_2 ?_
      exact hE () dX4_relation_51 (rfl) (Nat.le_of_ble_eq_true rfl) (Nat.le_of_ble_eq_true rfl) (hw.sub [0, 1, 2] [] (by decide) rfl rfl) (show nI 2 = reM sa a9 b9 from by rw [reM, if_pos c_34]; first | exact (if_pos c_43).symm | exact (if_neg c_43).symm)
    ·
      refine lv_iconst (v := nI 0) hx hb dX4_relation_46 kc_iconst_0 ?_
      refine lv_goto (tgt := 51) hx hb dX4_relation_47 (by decide) ?_
      exact hE () dX4_relation_51 (rfl) (Nat.le_of_ble_eq_true rfl) (Nat.le_of_ble_eq_true rfl) (hw.sub [0, 1, 2] [] (by decide) rfl rfl) (show nI 0 = reM sa a9 b9 from by rw [reM, if_pos c_34]; first | exact (if_pos c_43).symm | exact (if_neg c_43).symm)
abbrev rmX4_relation_e1 : Room := { frames := 2, cells := 0, slots := 0, locals := 42 }
set_option maxHeartbeats 4000000 in
set_option maxRecDepth 100000 in
theorem c_X4_relation_e1 (l : Launch) (D : va_G) (sz : Nat) (cI : ClassId) (m9 : Nat → Nat) (sa : Nat → Int32) (tx : Nat → Nat) (th : Int32) (sv ln po : Nat) (lt fi sc nu : Int32) (ad rv : Nat) (p0 p1 : Int32) (hv : ¬ (inP p0 (nI 0) (nI 3) ∧ inP p1 (nI 0) (nI 3))) : MUi l yX4_relation wsX4_relation rmX4_relation_e1 [.ref (m9 0), .int p0, .int p1] D [(cI, .int)] (wM cI m9 sa tx th sv ln po lt fi sc nu ad rv) sz (fun rz (_ : Unit) => rz = nI 0) (fun _ => []) (fun _ => wM cI m9 sa tx (nI 1) sv ln po lt fi sc nu ad rv) 0 0 := by
  refine met_u (own := RX4) (cc := cX4_relation) (maxL := 3) (ty := .int) (by decide) rfl rfl (Nat.le_of_ble_eq_true rfl) ?_
  intro p e s m args below meth c Q A hsz S hw hA hE ls hl
  obtain ⟨hx, hb, hml, hown, hts⟩ := id S
  have hl : lv_has ls 3 [(0, .ref (m9 0)), (1, .int p0), (2, .int p1)] := hl
  refine lv_aload_n hx hb dX4_relation_0 rfl (lv_at hl 0 rfl) ?_
  refine lv_iload_n hx hb dX4_relation_1 rfl (lv_at hl 1 rfl) ?_
  refine cq_S (As := [.int p0]) (rest := [.ref (m9 0)]) S (c_X4_isReplica l D (x := p0)) (va_cwS 1 hts gX4_relation_X4_isReplica rfl rfl rfl (by decide +kernel) ⟨Nat.le_of_ble_eq_true rfl, Nat.le_of_ble_eq_true rfl⟩) (hw.q.sub [] [] rfl rfl) rfl hl.1 (Nat.le_of_ble_eq_true rfl) ⟨Nat.le_of_ble_eq_true rfl, Nat.le_of_ble_eq_true rfl⟩ rfl dX4_relation_2 (fun r_2 e_2 => ?_)
  have e_2 : r_2 = b2 (inP p0 (nI 0) (nI 3)) := e_2
  subst e_2
  refine r_if_eqB (tgt := 19) hx hb dX4_relation_5 (by decide) (fun c_5 => ?_) (fun c_5 => ?_)
  ·
    refine lv_iconst (v := nI 1) hx hb dX4_relation_19 kc_iconst_1 ?_
    refine cu_Vi (As := [.int (nI 1)]) (rest := []) (wc := wM cI m9 sa tx th sv ln po lt fi sc nu ad rv) (wr := []) S (c_X4_holds l D (sz := s.heap.size) (cI := cI) (m9 := m9) (sa := sa) (tx := tx) (th := th) (sv := sv) (ln := ln) (po := po) (lt := lt) (fi := fi) (sc := sc) (nu := nu) (ad := ad) (rv := rv) (x := nI 1)) (cwV 1 hts gX4_relation_X4_holds rfl rfl rfl (by decide +kernel) ⟨Nat.le_of_ble_eq_true rfl, Nat.le_of_ble_eq_true rfl⟩) hw hA [0, 1, 2] [] [0] rfl rfl rfl (by decide) (by decide) (by decide) 0 rfl rfl rfl hl.1 (Nat.le_of_ble_eq_true rfl) ⟨Nat.le_of_ble_eq_true rfl, Nat.le_of_ble_eq_true rfl⟩ rfl dX4_relation_20 (fun r_20 u_20 H locs e_20 hw => ?_)
    have hw : Wd D A [(cI, .int)] (wM cI m9 sa tx (nI 1) sv ln po lt fi sc nu ad rv) s s.heap H locs := hw
    have e_20 : r_20 = b2 ((nI 1) = 0) := e_20
    subst e_20
    refine r_if_neB (tgt := 28) hx hb dX4_relation_23 (by decide) (fun h => absurd h (by decide)) (fun _ => ?_)
    refine lv_iconst (v := nI 0) hx hb dX4_relation_26 kc_iconst_0 ?_
    exact hE () dX4_relation_27 (rfl) (Nat.le_of_ble_eq_true rfl) (Nat.le_of_ble_eq_true rfl) (hw.sub [0, 1, 2] [] (by decide) rfl rfl) (show nI 0 = nI 0 from rfl)
  ·
    refine lv_iload_n hx hb dX4_relation_8 rfl (lv_at hl 2 rfl) ?_
    refine cq_S (As := [.int p1]) (rest := [.ref (m9 0)]) S (c_X4_isReplica l D (x := p1)) (va_cwS 1 hts gX4_relation_X4_isReplica rfl rfl rfl (by decide +kernel) ⟨Nat.le_of_ble_eq_true rfl, Nat.le_of_ble_eq_true rfl⟩) (hw.q.sub [] [] rfl rfl) rfl hl.1 (Nat.le_of_ble_eq_true rfl) ⟨Nat.le_of_ble_eq_true rfl, Nat.le_of_ble_eq_true rfl⟩ rfl dX4_relation_9 (fun r_9 e_9 => ?_)
    have e_9 : r_9 = b2 (inP p1 (nI 0) (nI 3)) := e_9
    subst e_9
    refine r_if_eqB (tgt := 19) hx hb dX4_relation_12 (by decide) (fun c_12 => ?_) (fun c_12 => ?_)
    ·
      refine lv_iconst (v := nI 1) hx hb dX4_relation_19 kc_iconst_1 ?_
      refine cu_Vi (As := [.int (nI 1)]) (rest := []) (wc := wM cI m9 sa tx th sv ln po lt fi sc nu ad rv) (wr := []) S (c_X4_holds l D (sz := s.heap.size) (cI := cI) (m9 := m9) (sa := sa) (tx := tx) (th := th) (sv := sv) (ln := ln) (po := po) (lt := lt) (fi := fi) (sc := sc) (nu := nu) (ad := ad) (rv := rv) (x := nI 1)) (cwV 1 hts gX4_relation_X4_holds rfl rfl rfl (by decide +kernel) ⟨Nat.le_of_ble_eq_true rfl, Nat.le_of_ble_eq_true rfl⟩) hw hA [0, 1, 2] [] [0] rfl rfl rfl (by decide) (by decide) (by decide) 0 rfl rfl rfl hl.1 (Nat.le_of_ble_eq_true rfl) ⟨Nat.le_of_ble_eq_true rfl, Nat.le_of_ble_eq_true rfl⟩ rfl dX4_relation_20 (fun r_20 u_20 H locs e_20 hw => ?_)
      have hw : Wd D A [(cI, .int)] (wM cI m9 sa tx (nI 1) sv ln po lt fi sc nu ad rv) s s.heap H locs := hw
      have e_20 : r_20 = b2 ((nI 1) = 0) := e_20
      subst e_20
      refine r_if_neB (tgt := 28) hx hb dX4_relation_23 (by decide) (fun h => absurd h (by decide)) (fun _ => ?_)
      refine lv_iconst (v := nI 0) hx hb dX4_relation_26 kc_iconst_0 ?_
      exact hE () dX4_relation_27 (rfl) (Nat.le_of_ble_eq_true rfl) (Nat.le_of_ble_eq_true rfl) (hw.sub [0, 1, 2] [] (by decide) rfl rfl) (show nI 0 = nI 0 from rfl)
    ·
      exact absurd ⟨c_5, c_12⟩ hv
abbrev rmX4_conflicts_v : Room := { frames := 3, cells := 0, slots := 0, locals := 73 }
set_option maxHeartbeats 4000000 in
set_option maxRecDepth 100000 in
theorem c_X4_conflicts_v (l : Launch) (D : va_G) (sz : Nat) (cI : ClassId) (m9 : Nat → Nat) (sa : Nat → Int32) (tx : Nat → Nat) (th : Int32) (sv ln po : Nat) (lt fi sc nu : Int32) (ad rv : Nat) (r : Nat) (hr : r < 4) : MUi l yX4_conflicts wsX4_conflicts rmX4_conflicts_v [.ref (m9 0), .int (nI r)] D [(cI, .int)] (wM cI m9 sa tx th sv ln po lt fi sc nu ad rv) sz (fun rz (_ : Unit) => rz = nI (cfM sa r 6)) (fun _ => []) (fun _ => wM cI m9 sa tx (nI 0) sv ln po lt fi sc nu ad rv) 0 0 := by
  refine met_u (own := RX4) (cc := cX4_conflicts) (maxL := 4) (ty := .int) (by decide) rfl rfl (Nat.le_of_ble_eq_true rfl) ?_
  intro p e s m args below meth c Q A hsz S hw hA hE ls hl
  obtain ⟨hx, hb, hml, hown, hts⟩ := id S
  have hl : lv_has ls 4 [(0, .ref (m9 0)), (1, .int (nI r))] := hl
  refine lv_aload_n hx hb dX4_conflicts_0 rfl (lv_at hl 0 rfl) ?_
  refine lv_iload_n hx hb dX4_conflicts_1 rfl (lv_at hl 1 rfl) ?_
  refine cq_S (As := [.int (nI r)]) (rest := [.ref (m9 0)]) S (c_X4_isReplica l D (x := nI r)) (va_cwS 1 hts gX4_conflicts_X4_isReplica rfl rfl rfl (by decide +kernel) ⟨Nat.le_of_ble_eq_true rfl, Nat.le_of_ble_eq_true rfl⟩) (hw.q.sub [] [] rfl rfl) rfl hl.1 (Nat.le_of_ble_eq_true rfl) ⟨Nat.le_of_ble_eq_true rfl, Nat.le_of_ble_eq_true rfl⟩ rfl dX4_conflicts_2 (fun r_2 e_2 => ?_)
  have e_2 : r_2 = b2 (inP (nI r) (nI 0) (nI 3)) := e_2
  subst e_2
  refine r_if_eqB (tgt := 12) hx hb dX4_conflicts_5 (by decide) (fun h => absurd (repP_n hr) h) (fun _ => ?_)
  refine lv_iconst (v := nI 0) hx hb dX4_conflicts_8 kc_iconst_0 ?_
  refine lv_goto (tgt := 13) hx hb dX4_conflicts_9 (by decide) ?_
  refine cu_Vi (As := [.int (nI 0)]) (rest := []) (wc := wM cI m9 sa tx th sv ln po lt fi sc nu ad rv) (wr := []) S (c_X4_holds l D (sz := s.heap.size) (cI := cI) (m9 := m9) (sa := sa) (tx := tx) (th := th) (sv := sv) (ln := ln) (po := po) (lt := lt) (fi := fi) (sc := sc) (nu := nu) (ad := ad) (rv := rv) (x := nI 0)) (cwV 1 hts gX4_conflicts_X4_holds rfl rfl rfl (by decide +kernel) ⟨Nat.le_of_ble_eq_true rfl, Nat.le_of_ble_eq_true rfl⟩) hw hA [0, 1, 2] [] [0] rfl rfl rfl (by decide) (by decide) (by decide) 0 rfl rfl rfl hl.1 (Nat.le_of_ble_eq_true rfl) ⟨Nat.le_of_ble_eq_true rfl, Nat.le_of_ble_eq_true rfl⟩ rfl dX4_conflicts_13 (fun r_13 u_13 H locs e_13 hw => ?_)
  have hw : Wd D A [(cI, .int)] (wM cI m9 sa tx (nI 0) sv ln po lt fi sc nu ad rv) s s.heap H locs := hw
  have e_13 : r_13 = b2 ((nI 0) = 0) := e_13
  subst e_13
  refine r_if_neB (tgt := 21) hx hb dX4_conflicts_16 (by decide) (fun _ => ?_) (fun h => absurd (rfl) h)
  refine lv_iconst (v := nI 0) hx hb dX4_conflicts_21 kc_iconst_0 ?_
  refine lv_istore_n (lv' := [(2, .int (nI 0)), (0, .ref (m9 0)), (1, .int (nI r))]) hx hb dX4_conflicts_22 rfl hl (by decide) rfl (fun ls hl => ?_)
  refine lv_iconst (v := nI 0) hx hb dX4_conflicts_23 kc_iconst_0 ?_
  refine lv_istore_n (lv' := [(3, .int (nI 0)), (2, .int (nI 0)), (0, .ref (m9 0)), (1, .int (nI r))]) hx hb dX4_conflicts_24 rfl hl (by decide) rfl (fun ls hl => ?_)
  have L25_1 : ∀ (fu_2 k : Nat), k ≤ 6 → 6 - k < fu_2 → ∀ ls : Array Slot, lv_has ls 4 [(3, .int (nI k)), (2, .int (nI (cfM sa r k))), (0, .ref (m9 0)), (1, .int (nI r))] → W p l e rmX4_conflicts_v s m args below meth c H locs 0 0 Q (F0 m 25 ls []) := by
    intro fu_2
    induction fu_2 with
    | zero => intro k _ h9; exact absurd h9 (Nat.not_lt_zero _)
    | succ fu_2 ih_25 =>
      intro k hk_25 hf_25 ls hl
      have hen := enM_le sa r k 1 4
      refine lv_iload_n hx hb dX4_conflicts_25 rfl (lv_at hl 0 rfl) ?_
      refine lv_bipush (v := nI 6) hx hb dX4_conflicts_26 kc_bipush_6 ?_
      refine r_icmp_geN (tgt := 56) hx hb (by omega) (by omega) dX4_conflicts_28 (by decide) (fun c_28 => ?_) (fun c_28 => ?_)
      ·
        refine lv_iload_n hx hb dX4_conflicts_56 rfl (lv_at hl 1 rfl) ?_
        exact hE () dX4_conflicts_57 (rfl) (Nat.le_of_ble_eq_true rfl) (Nat.le_of_ble_eq_true rfl) (hw.sub [0, 1, 2] [] (by decide) rfl rfl) (show nI (cfM sa r k) = nI (cfM sa r 6) from by rw [show k = 6 by omega])
      ·
        refine lv_iload_n hx hb dX4_conflicts_31 rfl (lv_at hl 1 rfl) ?_
        refine lv_aload_n hx hb dX4_conflicts_32 rfl (lv_at hl 2 rfl) ?_
        refine lv_iload_n hx hb dX4_conflicts_33 rfl (lv_at hl 3 rfl) ?_
        refine lv_iload_n hx hb dX4_conflicts_34 rfl (lv_at hl 0 rfl) ?_
        refine lv_iconst (v := nI 1) hx hb dX4_conflicts_35 kc_iconst_1 ?_
        refine cq_V (As := [.int (nI r), .int (nI k), .int (nI 1)]) (rest := [.int (nI (cfM sa r k))]) S (c_X4_entriesOf l D (cI := cI) (m9 := m9) (sa := sa) (tx := tx) (th := (nI 0)) (sv := sv) (ln := ln) (po := po) (lt := lt) (fi := fi) (sc := sc) (nu := nu) (ad := ad) (rv := rv) (r := r) (w := k) (c9 := 1) (hr := by omega) (hw5 := by omega) (hc := by omega)) (cwV 3 hts gX4_conflicts_X4_entriesOf rfl rfl rfl (by decide +kernel) ⟨Nat.le_of_ble_eq_true rfl, Nat.le_of_ble_eq_true rfl⟩) (hw.q.sub [0, 1, 2] [0] rfl rfl) 0 rfl rfl rfl hl.1 (Nat.le_of_ble_eq_true rfl) ⟨Nat.le_of_ble_eq_true rfl, Nat.le_of_ble_eq_true rfl⟩ rfl dX4_conflicts_36 (fun r_36 e_36 => ?_)
        have e_36 : r_36 = nI (enM sa r k 1 4) := e_36
        subst e_36
        refine lv_iconst (v := nI 1) hx hb dX4_conflicts_39 kc_iconst_1 ?_
        have J48_3 : ∀ ls : Array Slot, lv_has ls 4 [(3, .int (nI k)), (2, .int (nI (cfM sa r k))), (0, .ref (m9 0)), (1, .int (nI r))] → W p l e rmX4_conflicts_v s m args below meth c H locs 0 0 Q (F0 m 48 ls [.int (nI (if enM sa r k 1 4 ≤ 1 then 0 else 1)), .int (nI (cfM sa r k))]) := by
          intro ls hl
          refine r_addN hx hb dX4_conflicts_48 ?_
          refine lv_istore_n (lv' := [(2, .int (nI ((cfM sa r k) + (if enM sa r k 1 4 ≤ 1 then 0 else 1)))), (3, .int (nI k)), (0, .ref (m9 0)), (1, .int (nI r))]) hx hb dX4_conflicts_49 rfl hl (by decide) rfl (fun ls hl => ?_)
          refine lv_iinc (v := nI (k + 1)) (lv' := [(3, .int (nI (k + 1))), (2, .int (nI ((cfM sa r k) + (if enM sa r k 1 4 ≤ 1 then 0 else 1)))), (0, .ref (m9 0)), (1, .int (nI r))]) hx hb dX4_conflicts_50 hl (k := 1) rfl (nI_add k 1) (by decide) rfl (fun ls hl => ?_)
          refine lv_goto (tgt := 25) hx hb dX4_conflicts_53 (by decide) ?_
          have hl : lv_has ls 4 [(3, .int (nI (k + 1))), (2, .int (nI ((cfM sa r k) + (if enM sa r k 1 4 ≤ 1 then 0 else 1)))), (0, .ref (m9 0)), (1, .int (nI r))] := lv_sub hl [0, 1, 2, 3] rfl
          have hl : lv_has ls 4 [(3, .int (nI (k + 1))), (2, .int (nI (cfM sa r (k + 1)))), (0, .ref (m9 0)), (1, .int (nI r))] := lv_rep hl 1 rfl (congrArg (fun z => Value.int (nI z)) (show (cfM sa r k) + (if enM sa r k 1 4 ≤ 1 then 0 else 1) = cfM sa r (k + 1) from rfl))
          exact ih_25 (k + 1) (by omega) (by omega) ls hl
        refine r_icmp_leN (tgt := 47) hx hb (by omega) (by omega) dX4_conflicts_40 (by decide) (fun c_40 => ?_) (fun c_40 => ?_)
        ·
          refine lv_iconst (v := nI 0) hx hb dX4_conflicts_47 kc_iconst_0 ?_
          have hl : lv_has ls 4 [(3, .int (nI k)), (2, .int (nI (cfM sa r k))), (0, .ref (m9 0)), (1, .int (nI r))] := lv_sub hl [0, 1, 2, 3] rfl
          refine r_top hx (congrArg nI (show 0 = if enM sa r k 1 4 ≤ 1 then 0 else 1 from by split <;> omega)) ?_
          exact J48_3 ls hl
        ·
          refine lv_iconst (v := nI 1) hx hb dX4_conflicts_43 kc_iconst_1 ?_
          refine lv_goto (tgt := 48) hx hb dX4_conflicts_44 (by decide) ?_
          have hl : lv_has ls 4 [(3, .int (nI k)), (2, .int (nI (cfM sa r k))), (0, .ref (m9 0)), (1, .int (nI r))] := lv_sub hl [0, 1, 2, 3] rfl
          refine r_top hx (congrArg nI (show 1 = if enM sa r k 1 4 ≤ 1 then 0 else 1 from by split <;> omega)) ?_
          exact J48_3 ls hl
  have hl : lv_has ls 4 [(3, .int (nI 0)), (2, .int (nI 0)), (0, .ref (m9 0)), (1, .int (nI r))] := lv_sub hl [0, 1, 2, 3] rfl
  have hl : lv_has ls 4 [(3, .int (nI 0)), (2, .int (nI (cfM sa r 0))), (0, .ref (m9 0)), (1, .int (nI r))] := lv_rep hl 1 rfl (congrArg (fun z => Value.int (nI z)) (show 0 = cfM sa r 0 from rfl))
  exact L25_1 (6 + 1) (0) (by omega) (by omega) ls hl
abbrev rmX4_conflicts_e1 : Room := { frames := 2, cells := 0, slots := 0, locals := 42 }
set_option maxHeartbeats 4000000 in
set_option maxRecDepth 100000 in
theorem c_X4_conflicts_e1 (l : Launch) (D : va_G) (sz : Nat) (cI : ClassId) (m9 : Nat → Nat) (sa : Nat → Int32) (tx : Nat → Nat) (th : Int32) (sv ln po : Nat) (lt fi sc nu : Int32) (ad rv : Nat) (p0 : Int32) (hv : ¬ inP p0 (nI 0) (nI 3)) : MUi l yX4_conflicts wsX4_conflicts rmX4_conflicts_e1 [.ref (m9 0), .int p0] D [(cI, .int)] (wM cI m9 sa tx th sv ln po lt fi sc nu ad rv) sz (fun rz (_ : Unit) => rz = nI 0) (fun _ => []) (fun _ => wM cI m9 sa tx (nI 1) sv ln po lt fi sc nu ad rv) 0 0 := by
  refine met_u (own := RX4) (cc := cX4_conflicts) (maxL := 4) (ty := .int) (by decide) rfl rfl (Nat.le_of_ble_eq_true rfl) ?_
  intro p e s m args below meth c Q A hsz S hw hA hE ls hl
  obtain ⟨hx, hb, hml, hown, hts⟩ := id S
  have hl : lv_has ls 4 [(0, .ref (m9 0)), (1, .int p0)] := hl
  refine lv_aload_n hx hb dX4_conflicts_0 rfl (lv_at hl 0 rfl) ?_
  refine lv_iload_n hx hb dX4_conflicts_1 rfl (lv_at hl 1 rfl) ?_
  refine cq_S (As := [.int p0]) (rest := [.ref (m9 0)]) S (c_X4_isReplica l D (x := p0)) (va_cwS 1 hts gX4_conflicts_X4_isReplica rfl rfl rfl (by decide +kernel) ⟨Nat.le_of_ble_eq_true rfl, Nat.le_of_ble_eq_true rfl⟩) (hw.q.sub [] [] rfl rfl) rfl hl.1 (Nat.le_of_ble_eq_true rfl) ⟨Nat.le_of_ble_eq_true rfl, Nat.le_of_ble_eq_true rfl⟩ rfl dX4_conflicts_2 (fun r_2 e_2 => ?_)
  have e_2 : r_2 = b2 (inP p0 (nI 0) (nI 3)) := e_2
  subst e_2
  refine r_if_eqB (tgt := 12) hx hb dX4_conflicts_5 (by decide) (fun _ => ?_) (fun h => absurd h (hv))
  refine lv_iconst (v := nI 1) hx hb dX4_conflicts_12 kc_iconst_1 ?_
  refine cu_Vi (As := [.int (nI 1)]) (rest := []) (wc := wM cI m9 sa tx th sv ln po lt fi sc nu ad rv) (wr := []) S (c_X4_holds l D (sz := s.heap.size) (cI := cI) (m9 := m9) (sa := sa) (tx := tx) (th := th) (sv := sv) (ln := ln) (po := po) (lt := lt) (fi := fi) (sc := sc) (nu := nu) (ad := ad) (rv := rv) (x := nI 1)) (cwV 1 hts gX4_conflicts_X4_holds rfl rfl rfl (by decide +kernel) ⟨Nat.le_of_ble_eq_true rfl, Nat.le_of_ble_eq_true rfl⟩) hw hA [0, 1, 2] [] [0] rfl rfl rfl (by decide) (by decide) (by decide) 0 rfl rfl rfl hl.1 (Nat.le_of_ble_eq_true rfl) ⟨Nat.le_of_ble_eq_true rfl, Nat.le_of_ble_eq_true rfl⟩ rfl dX4_conflicts_13 (fun r_13 u_13 H locs e_13 hw => ?_)
  have hw : Wd D A [(cI, .int)] (wM cI m9 sa tx (nI 1) sv ln po lt fi sc nu ad rv) s s.heap H locs := hw
  have e_13 : r_13 = b2 ((nI 1) = 0) := e_13
  subst e_13
  refine r_if_neB (tgt := 21) hx hb dX4_conflicts_16 (by decide) (fun h => absurd h (by decide)) (fun _ => ?_)
  refine lv_iconst (v := nI 0) hx hb dX4_conflicts_19 kc_iconst_0 ?_
  exact hE () dX4_conflicts_20 (rfl) (Nat.le_of_ble_eq_true rfl) (Nat.le_of_ble_eq_true rfl) (hw.sub [0, 1, 2] [] (by decide) rfl rfl) (show nI 0 = nI 0 from rfl)
abbrev rmX4_latestMerge_v : Room := { frames := 1, cells := 0, slots := 0, locals := 22 }
set_option maxHeartbeats 4000000 in
set_option maxRecDepth 100000 in
theorem c_X4_latestMerge_v (l : Launch) (D : va_G) (sz : Nat) (cI : ClassId) (m9 : Nat → Nat) (sa : Nat → Int32) (tx : Nat → Nat) (th : Int32) (sv ln po : Nat) (lt fi sc nu : Int32) (ad rv : Nat) (c9 : Nat) (hc : c9 < 4) : MUi l yX4_latestMerge wsX4_latestMerge rmX4_latestMerge_v [.ref (m9 0), .int (nI c9)] D [(cI, .int)] (wM cI m9 sa tx th sv ln po lt fi sc nu ad rv) sz (fun rz (_ : Unit) => rz = sa (20 + c9)) (fun _ => []) (fun _ => wM cI m9 sa tx (nI 0) sv ln po lt fi sc nu ad rv) 0 0 := by
  refine met_u (own := RX4) (cc := cX4_latestMerge) (maxL := 2) (ty := .int) (by decide) rfl rfl (Nat.le_of_ble_eq_true rfl) ?_
  intro p e s m args below meth c Q A hsz S hw hA hE ls hl
  obtain ⟨hx, hb, hml, hown, hts⟩ := id S
  have k7 := hts (.fieldLink RX4 7 "CausalTableModel" "s" "[I") (by decide +kernel)
  have hin4 := (show ∀ w ∈ wsX40, w ∈ wsX4_latestMerge by decide +kernel)
  have hl : lv_has ls 2 [(0, .ref (m9 0)), (1, .int (nI c9))] := hl
  refine lv_aload_n hx hb dX4_latestMerge_0 rfl (lv_at hl 0 rfl) ?_
  refine lv_iload_n hx hb dX4_latestMerge_1 rfl (lv_at hl 1 rfl) ?_
  refine lv_iconst (v := nI 0) hx hb dX4_latestMerge_2 kc_iconst_0 ?_
  refine lv_iconst (v := nI 3) hx hb dX4_latestMerge_3 kc_iconst_3 ?_
  refine cq_S (As := [.int (nI c9), .int (nI 0), .int (nI 3)]) (rest := [.ref (m9 0)]) S (c_X4_in l D (x := nI c9) (lo := nI 0) (hi := nI 3)) (va_cwS 3 hts gX4_latestMerge_X4_in rfl rfl rfl (by decide +kernel) ⟨Nat.le_of_ble_eq_true rfl, Nat.le_of_ble_eq_true rfl⟩) (hw.q.sub [] [] rfl rfl) rfl hl.1 (Nat.le_of_ble_eq_true rfl) ⟨Nat.le_of_ble_eq_true rfl, Nat.le_of_ble_eq_true rfl⟩ rfl dX4_latestMerge_4 (fun r_4 e_4 => ?_)
  have e_4 : r_4 = b2 (inP (nI c9) (nI 0) (nI 3)) := e_4
  subst e_4
  refine r_if_eqB (tgt := 14) hx hb dX4_latestMerge_7 (by decide) (fun h => absurd (repP_n hc) h) (fun _ => ?_)
  refine lv_iconst (v := nI 0) hx hb dX4_latestMerge_10 kc_iconst_0 ?_
  refine lv_goto (tgt := 15) hx hb dX4_latestMerge_11 (by decide) ?_
  refine cu_Vi (As := [.int (nI 0)]) (rest := []) (wc := wM cI m9 sa tx th sv ln po lt fi sc nu ad rv) (wr := []) S (c_X4_holds l D (sz := s.heap.size) (cI := cI) (m9 := m9) (sa := sa) (tx := tx) (th := th) (sv := sv) (ln := ln) (po := po) (lt := lt) (fi := fi) (sc := sc) (nu := nu) (ad := ad) (rv := rv) (x := nI 0)) (cwV 1 hts gX4_latestMerge_X4_holds rfl rfl rfl (by decide +kernel) ⟨Nat.le_of_ble_eq_true rfl, Nat.le_of_ble_eq_true rfl⟩) hw hA [0, 1, 2] [] [0] rfl rfl rfl (by decide) (by decide) (by decide) 0 rfl rfl rfl hl.1 (Nat.le_of_ble_eq_true rfl) ⟨Nat.le_of_ble_eq_true rfl, Nat.le_of_ble_eq_true rfl⟩ rfl dX4_latestMerge_15 (fun r_15 u_15 H locs e_15 hw => ?_)
  have hw : Wd D A [(cI, .int)] (wM cI m9 sa tx (nI 0) sv ln po lt fi sc nu ad rv) s s.heap H locs := hw
  have e_15 : r_15 = b2 ((nI 0) = 0) := e_15
  subst e_15
  refine r_if_eqB (tgt := 33) hx hb dX4_latestMerge_18 (by decide) (fun h => absurd (rfl) h) (fun _ => ?_)
  refine lv_aload_n hx hb dX4_latestMerge_21 rfl (lv_at hl 0 rfl) ?_
  refine r_get hx hb hts hown hw.q 0 1 hin4 rfl rfl (by decide) k7 rfl dX4_latestMerge_22 ?_
  refine lv_bipush (v := nI 20) hx hb dX4_latestMerge_25 kc_bipush_20 ?_
  refine lv_iload_n hx hb dX4_latestMerge_27 rfl (lv_at hl 1 rfl) ?_
  refine r_addN hx hb dX4_latestMerge_28 ?_
  refine r_ald hx hb hw.q 1 0 rfl rfl (i := 20 + c9) (by omega) (by decide) dX4_latestMerge_29 ?_
  refine lv_goto (tgt := 34) hx hb dX4_latestMerge_30 (by decide) ?_
  exact hE () dX4_latestMerge_34 (rfl) (Nat.le_of_ble_eq_true rfl) (Nat.le_of_ble_eq_true rfl) (hw.sub [0, 1, 2] [] (by decide) rfl rfl) (show sa (20 + c9) = sa (20 + c9) from rfl)
abbrev rmX4_latestMerge_e1 : Room := { frames := 1, cells := 0, slots := 0, locals := 22 }
set_option maxHeartbeats 4000000 in
set_option maxRecDepth 100000 in
theorem c_X4_latestMerge_e1 (l : Launch) (D : va_G) (sz : Nat) (cI : ClassId) (m9 : Nat → Nat) (sa : Nat → Int32) (tx : Nat → Nat) (th : Int32) (sv ln po : Nat) (lt fi sc nu : Int32) (ad rv : Nat) (p0 : Int32) (hv : ¬ inP p0 (nI 0) (nI 3)) : MUi l yX4_latestMerge wsX4_latestMerge rmX4_latestMerge_e1 [.ref (m9 0), .int p0] D [(cI, .int)] (wM cI m9 sa tx th sv ln po lt fi sc nu ad rv) sz (fun rz (_ : Unit) => rz = nI 0) (fun _ => []) (fun _ => wM cI m9 sa tx (nI 1) sv ln po lt fi sc nu ad rv) 0 0 := by
  refine met_u (own := RX4) (cc := cX4_latestMerge) (maxL := 2) (ty := .int) (by decide) rfl rfl (Nat.le_of_ble_eq_true rfl) ?_
  intro p e s m args below meth c Q A hsz S hw hA hE ls hl
  obtain ⟨hx, hb, hml, hown, hts⟩ := id S
  have hl : lv_has ls 2 [(0, .ref (m9 0)), (1, .int p0)] := hl
  refine lv_aload_n hx hb dX4_latestMerge_0 rfl (lv_at hl 0 rfl) ?_
  refine lv_iload_n hx hb dX4_latestMerge_1 rfl (lv_at hl 1 rfl) ?_
  refine lv_iconst (v := nI 0) hx hb dX4_latestMerge_2 kc_iconst_0 ?_
  refine lv_iconst (v := nI 3) hx hb dX4_latestMerge_3 kc_iconst_3 ?_
  refine cq_S (As := [.int p0, .int (nI 0), .int (nI 3)]) (rest := [.ref (m9 0)]) S (c_X4_in l D (x := p0) (lo := nI 0) (hi := nI 3)) (va_cwS 3 hts gX4_latestMerge_X4_in rfl rfl rfl (by decide +kernel) ⟨Nat.le_of_ble_eq_true rfl, Nat.le_of_ble_eq_true rfl⟩) (hw.q.sub [] [] rfl rfl) rfl hl.1 (Nat.le_of_ble_eq_true rfl) ⟨Nat.le_of_ble_eq_true rfl, Nat.le_of_ble_eq_true rfl⟩ rfl dX4_latestMerge_4 (fun r_4 e_4 => ?_)
  have e_4 : r_4 = b2 (inP p0 (nI 0) (nI 3)) := e_4
  subst e_4
  refine r_if_eqB (tgt := 14) hx hb dX4_latestMerge_7 (by decide) (fun _ => ?_) (fun h => absurd h (hv))
  refine lv_iconst (v := nI 1) hx hb dX4_latestMerge_14 kc_iconst_1 ?_
  refine cu_Vi (As := [.int (nI 1)]) (rest := []) (wc := wM cI m9 sa tx th sv ln po lt fi sc nu ad rv) (wr := []) S (c_X4_holds l D (sz := s.heap.size) (cI := cI) (m9 := m9) (sa := sa) (tx := tx) (th := th) (sv := sv) (ln := ln) (po := po) (lt := lt) (fi := fi) (sc := sc) (nu := nu) (ad := ad) (rv := rv) (x := nI 1)) (cwV 1 hts gX4_latestMerge_X4_holds rfl rfl rfl (by decide +kernel) ⟨Nat.le_of_ble_eq_true rfl, Nat.le_of_ble_eq_true rfl⟩) hw hA [0, 1, 2] [] [0] rfl rfl rfl (by decide) (by decide) (by decide) 0 rfl rfl rfl hl.1 (Nat.le_of_ble_eq_true rfl) ⟨Nat.le_of_ble_eq_true rfl, Nat.le_of_ble_eq_true rfl⟩ rfl dX4_latestMerge_15 (fun r_15 u_15 H locs e_15 hw => ?_)
  have hw : Wd D A [(cI, .int)] (wM cI m9 sa tx (nI 1) sv ln po lt fi sc nu ad rv) s s.heap H locs := hw
  have e_15 : r_15 = b2 ((nI 1) = 0) := e_15
  subst e_15
  refine r_if_eqB (tgt := 33) hx hb dX4_latestMerge_18 (by decide) (fun _ => ?_) (fun h => absurd h (by decide))
  refine lv_iconst (v := nI 0) hx hb dX4_latestMerge_33 kc_iconst_0 ?_
  exact hE () dX4_latestMerge_34 (rfl) (Nat.le_of_ble_eq_true rfl) (Nat.le_of_ble_eq_true rfl) (hw.sub [0, 1, 2] [] (by decide) rfl rfl) (show nI 0 = nI 0 from rfl)
abbrev rmX4_ifMerged_v : Room := { frames := 4, cells := 0, slots := 0, locals := 100 }
set_option maxHeartbeats 4000000 in
set_option maxRecDepth 100000 in
theorem c_X4_ifMerged_v (l : Launch) (D : va_G) (sz : Nat) (cI : ClassId) (m9 : Nat → Nat) (sa : Nat → Int32) (tx : Nat → Nat) (th : Int32) (sv ln po : Nat) (lt fi sc nu : Int32) (ad rv : Nat) (f t c9 : Nat) (hf4 : f < 4) (ht4 : t < 4) (hne : f ≠ t) (hc2 : 2 ≤ c9) (hc3 : c9 ≤ 3) : MUi l yX4_ifMerged wsX4_ifMerged rmX4_ifMerged_v [.ref (m9 0), .int (nI f), .int (nI t), .int (nI c9)] D [(cI, .int)] (wM cI m9 sa tx th sv ln po lt fi sc nu ad rv) sz (fun rz (_ : Unit) => rz = nI (if c9 = 2 then (lkM false sa f t).2.1 else (lkM false sa f t).2.2)) (fun _ => []) (fun _ => wM cI m9 sa tx (nI 0) sv ln po lt fi sc nu ((lkM false sa f t).2.1) ((lkM false sa f t).2.2)) 0 0 := by
  refine met_u (own := RX4) (cc := cX4_ifMerged) (maxL := 5) (ty := .int) (by decide) rfl rfl (Nat.le_of_ble_eq_true rfl) ?_
  intro p e s m args below meth c Q A hsz S hw hA hE ls hl
  obtain ⟨hx, hb, hml, hown, hts⟩ := id S
  have k69 := hts (.fieldLink RX4 69 "CausalTableModel" "removed" "I") (by decide +kernel)
  have hin4 := (show ∀ w ∈ wsX40, w ∈ wsX4_ifMerged by decide +kernel)
  have k72 := hts (.fieldLink RX4 72 "CausalTableModel" "added" "I") (by decide +kernel)
  have hl : lv_has ls 5 [(0, .ref (m9 0)), (1, .int (nI f)), (2, .int (nI t)), (3, .int (nI c9))] := hl
  refine lv_iload_n hx hb dX4_ifMerged_0 rfl (lv_at hl 1 rfl) ?_
  refine cq_S (As := [.int (nI f)]) (rest := []) S (c_X4_isReplica l D (x := nI f)) (va_cwS 1 hts gX4_ifMerged_X4_isReplica rfl rfl rfl (by decide +kernel) ⟨Nat.le_of_ble_eq_true rfl, Nat.le_of_ble_eq_true rfl⟩) (hw.q.sub [] [] rfl rfl) rfl hl.1 (Nat.le_of_ble_eq_true rfl) ⟨Nat.le_of_ble_eq_true rfl, Nat.le_of_ble_eq_true rfl⟩ rfl dX4_ifMerged_1 (fun r_1 e_1 => ?_)
  have e_1 : r_1 = b2 (inP (nI f) (nI 0) (nI 3)) := e_1
  subst e_1
  refine r_if_eqB (tgt := 18) hx hb dX4_ifMerged_4 (by decide) (fun h => absurd (repP_n hf4) h) (fun _ => ?_)
  refine lv_iload_n hx hb dX4_ifMerged_7 rfl (lv_at hl 2 rfl) ?_
  refine cq_S (As := [.int (nI t)]) (rest := []) S (c_X4_isReplica l D (x := nI t)) (va_cwS 1 hts gX4_ifMerged_X4_isReplica rfl rfl rfl (by decide +kernel) ⟨Nat.le_of_ble_eq_true rfl, Nat.le_of_ble_eq_true rfl⟩) (hw.q.sub [] [] rfl rfl) rfl hl.1 (Nat.le_of_ble_eq_true rfl) ⟨Nat.le_of_ble_eq_true rfl, Nat.le_of_ble_eq_true rfl⟩ rfl dX4_ifMerged_8 (fun r_8 e_8 => ?_)
  have e_8 : r_8 = b2 (inP (nI t) (nI 0) (nI 3)) := e_8
  subst e_8
  refine r_if_eqB (tgt := 18) hx hb dX4_ifMerged_11 (by decide) (fun h => absurd (repP_n ht4) h) (fun _ => ?_)
  refine lv_iconst (v := nI 1) hx hb dX4_ifMerged_14 kc_iconst_1 ?_
  refine lv_goto (tgt := 19) hx hb dX4_ifMerged_15 (by decide) ?_
  refine lv_istore (lv' := [(4, .int (nI 1)), (0, .ref (m9 0)), (1, .int (nI f)), (2, .int (nI t)), (3, .int (nI c9))]) hx hb dX4_ifMerged_19 hl (by decide) rfl (fun ls hl => ?_)
  refine lv_aload_n hx hb dX4_ifMerged_21 rfl (lv_at hl 1 rfl) ?_
  refine lv_iload hx hb dX4_ifMerged_22 (lv_at hl 0 rfl) ?_
  refine lv_if_ne (tgt := 31) hx hb dX4_ifMerged_24 (by decide) (fun _ => ?_) (fun h => absurd h (by decide))
  refine lv_iload_n hx hb dX4_ifMerged_31 rfl (lv_at hl 2 rfl) ?_
  refine lv_iload_n hx hb dX4_ifMerged_32 rfl (lv_at hl 3 rfl) ?_
  refine r_icmp_eqN (tgt := 45) hx hb (by omega) (by omega) dX4_ifMerged_33 (by decide) (fun c_33 => ?_) (fun c_33 => ?_)
  ·
    exact absurd c_33 hne
  ·
    refine lv_iload_n hx hb dX4_ifMerged_36 rfl (lv_at hl 4 rfl) ?_
    refine lv_iconst (v := nI 2) hx hb dX4_ifMerged_37 kc_iconst_2 ?_
    refine lv_iconst (v := nI 3) hx hb dX4_ifMerged_38 kc_iconst_3 ?_
    refine cq_S (As := [.int (nI c9), .int (nI 2), .int (nI 3)]) (rest := [.ref (m9 0)]) S (c_X4_in l D (x := nI c9) (lo := nI 2) (hi := nI 3)) (va_cwS 3 hts gX4_ifMerged_X4_in rfl rfl rfl (by decide +kernel) ⟨Nat.le_of_ble_eq_true rfl, Nat.le_of_ble_eq_true rfl⟩) (hw.q.sub [] [] rfl rfl) rfl hl.1 (Nat.le_of_ble_eq_true rfl) ⟨Nat.le_of_ble_eq_true rfl, Nat.le_of_ble_eq_true rfl⟩ rfl dX4_ifMerged_39 (fun r_39 e_39 => ?_)
    have e_39 : r_39 = b2 (inP (nI c9) (nI 2) (nI 3)) := e_39
    subst e_39
    refine r_if_neB (tgt := 49) hx hb dX4_ifMerged_42 (by decide) (fun _ => ?_) (fun h => absurd (inP_n hc2 hc3 (by decide)) h)
    refine lv_iconst (v := nI 0) hx hb dX4_ifMerged_49 kc_iconst_0 ?_
    refine cu_Vi (As := [.int (nI 0)]) (rest := []) (wc := wM cI m9 sa tx th sv ln po lt fi sc nu ad rv) (wr := []) S (c_X4_holds l D (sz := s.heap.size) (cI := cI) (m9 := m9) (sa := sa) (tx := tx) (th := th) (sv := sv) (ln := ln) (po := po) (lt := lt) (fi := fi) (sc := sc) (nu := nu) (ad := ad) (rv := rv) (x := nI 0)) (cwV 1 hts gX4_ifMerged_X4_holds rfl rfl rfl (by decide +kernel) ⟨Nat.le_of_ble_eq_true rfl, Nat.le_of_ble_eq_true rfl⟩) hw hA [0, 1, 2] [] [0] rfl rfl rfl (by decide) (by decide) (by decide) 0 rfl rfl rfl hl.1 (Nat.le_of_ble_eq_true rfl) ⟨Nat.le_of_ble_eq_true rfl, Nat.le_of_ble_eq_true rfl⟩ rfl dX4_ifMerged_50 (fun r_50 u_50 H locs e_50 hw => ?_)
    have hw : Wd D A [(cI, .int)] (wM cI m9 sa tx (nI 0) sv ln po lt fi sc nu ad rv) s s.heap H locs := hw
    have e_50 : r_50 = b2 ((nI 0) = 0) := e_50
    subst e_50
    refine r_if_neB (tgt := 58) hx hb dX4_ifMerged_53 (by decide) (fun _ => ?_) (fun h => absurd (rfl) h)
    refine lv_aload_n hx hb dX4_ifMerged_58 rfl (lv_at hl 1 rfl) ?_
    refine lv_iload_n hx hb dX4_ifMerged_59 rfl (lv_at hl 2 rfl) ?_
    refine lv_iload_n hx hb dX4_ifMerged_60 rfl (lv_at hl 3 rfl) ?_
    refine lv_iconst (v := nI 0) hx hb dX4_ifMerged_61 kc_iconst_0 ?_
    refine cu_Vv (As := [.int (nI f), .int (nI t), .int (nI 0)]) (rest := []) (wc := wM cI m9 sa tx (nI 0) sv ln po lt fi sc nu ad rv) (wr := []) S (c_X4_looks_0 l D (sz := H.size) (cI := cI) (m9 := m9) (sa := sa) (tx := tx) (th := (nI 0)) (sv := sv) (ln := ln) (po := po) (lt := lt) (fi := fi) (sc := sc) (nu := nu) (ad := ad) (rv := rv) (f := f) (t := t) (hf4 := by omega) (ht4 := by omega)) (cwV 3 hts gX4_ifMerged_X4_looks rfl rfl rfl (by decide +kernel) ⟨Nat.le_of_ble_eq_true rfl, Nat.le_of_ble_eq_true rfl⟩) hw hA [0, 1, 2] [] [0] rfl rfl rfl (by decide) (by decide) (by decide) 0 rfl rfl rfl hl.1 (Nat.le_of_ble_eq_true rfl) ⟨Nat.le_of_ble_eq_true rfl, Nat.le_of_ble_eq_true rfl⟩ rfl dX4_ifMerged_62 (fun u_62 H locs e_62 hw => ?_)
    have hw : Wd D A [(cI, .int)] (wM cI m9 ((lkM false sa f t).1) tx (nI 0) sv ln po lt fi sc nu ((lkM false sa f t).2.1) ((lkM false sa f t).2.2)) s s.heap H locs := hw
    refine lv_iload_n hx hb dX4_ifMerged_65 rfl (lv_at hl 4 rfl) ?_
    refine lv_iconst (v := nI 2) hx hb dX4_ifMerged_66 kc_iconst_2 ?_
    refine r_icmp_neN (tgt := 77) hx hb (by omega) (by omega) dX4_ifMerged_67 (by decide) (fun c_67 => ?_) (fun c_67 => ?_)
    ·
      refine lv_aload_n hx hb dX4_ifMerged_77 rfl (lv_at hl 1 rfl) ?_
      refine r_get hx hb hts hown hw.q 0 11 hin4 rfl rfl (by decide) k69 rfl dX4_ifMerged_78 ?_
      have ew : (wM cI m9 ((lkM false sa f t).1) tx (nI 0) sv ln po lt fi sc nu ((lkM false sa f t).2.1) ((lkM false sa f t).2.2)) = (wM cI m9 sa tx (nI 0) sv ln po lt fi sc nu ((lkM false sa f t).2.1) ((lkM false sa f t).2.2)) := by rw [lkM_f]
      rw [ew] at hw
      exact hE () dX4_ifMerged_81 (rfl) (Nat.le_of_ble_eq_true rfl) (Nat.le_of_ble_eq_true rfl) (hw.sub [0, 1, 2] [] (by decide) rfl rfl) (show nI ((lkM false sa f t).2.2) = nI (if c9 = 2 then (lkM false sa f t).2.1 else (lkM false sa f t).2.2) from by first | rw [if_pos c_67] | rw [if_neg c_67])
    ·
      refine lv_aload_n hx hb dX4_ifMerged_70 rfl (lv_at hl 1 rfl) ?_
      refine r_get hx hb hts hown hw.q 0 10 hin4 rfl rfl (by decide) k72 rfl dX4_ifMerged_71 ?_
      refine lv_goto (tgt := 81) hx hb dX4_ifMerged_74 (by decide) ?_
      have ew : (wM cI m9 ((lkM false sa f t).1) tx (nI 0) sv ln po lt fi sc nu ((lkM false sa f t).2.1) ((lkM false sa f t).2.2)) = (wM cI m9 sa tx (nI 0) sv ln po lt fi sc nu ((lkM false sa f t).2.1) ((lkM false sa f t).2.2)) := by rw [lkM_f]
      rw [ew] at hw
      exact hE () dX4_ifMerged_81 (rfl) (Nat.le_of_ble_eq_true rfl) (Nat.le_of_ble_eq_true rfl) (hw.sub [0, 1, 2] [] (by decide) rfl rfl) (show nI ((lkM false sa f t).2.1) = nI (if c9 = 2 then (lkM false sa f t).2.1 else (lkM false sa f t).2.2) from by first | rw [if_pos c_67] | rw [if_neg c_67])
abbrev rmX4_ifMerged_e1 : Room := { frames := 2, cells := 0, slots := 0, locals := 42 }
set_option maxHeartbeats 4000000 in
set_option maxRecDepth 100000 in
theorem c_X4_ifMerged_e1 (l : Launch) (D : va_G) (sz : Nat) (cI : ClassId) (m9 : Nat → Nat) (sa : Nat → Int32) (tx : Nat → Nat) (th : Int32) (sv ln po : Nat) (lt fi sc nu : Int32) (ad rv : Nat) (p0 p1 p2 : Int32) (hv : ¬ (inP p0 (nI 0) (nI 3) ∧ inP p1 (nI 0) (nI 3))) : MUi l yX4_ifMerged wsX4_ifMerged rmX4_ifMerged_e1 [.ref (m9 0), .int p0, .int p1, .int p2] D [(cI, .int)] (wM cI m9 sa tx th sv ln po lt fi sc nu ad rv) sz (fun rz (_ : Unit) => rz = nI 0) (fun _ => []) (fun _ => wM cI m9 sa tx (nI 1) sv ln po lt fi sc nu ad rv) 0 0 := by
  refine met_u (own := RX4) (cc := cX4_ifMerged) (maxL := 5) (ty := .int) (by decide) rfl rfl (Nat.le_of_ble_eq_true rfl) ?_
  intro p e s m args below meth c Q A hsz S hw hA hE ls hl
  obtain ⟨hx, hb, hml, hown, hts⟩ := id S
  have hl : lv_has ls 5 [(0, .ref (m9 0)), (1, .int p0), (2, .int p1), (3, .int p2)] := hl
  refine lv_iload_n hx hb dX4_ifMerged_0 rfl (lv_at hl 1 rfl) ?_
  refine cq_S (As := [.int p0]) (rest := []) S (c_X4_isReplica l D (x := p0)) (va_cwS 1 hts gX4_ifMerged_X4_isReplica rfl rfl rfl (by decide +kernel) ⟨Nat.le_of_ble_eq_true rfl, Nat.le_of_ble_eq_true rfl⟩) (hw.q.sub [] [] rfl rfl) rfl hl.1 (Nat.le_of_ble_eq_true rfl) ⟨Nat.le_of_ble_eq_true rfl, Nat.le_of_ble_eq_true rfl⟩ rfl dX4_ifMerged_1 (fun r_1 e_1 => ?_)
  have e_1 : r_1 = b2 (inP p0 (nI 0) (nI 3)) := e_1
  subst e_1
  refine r_if_eqB (tgt := 18) hx hb dX4_ifMerged_4 (by decide) (fun c_4 => ?_) (fun c_4 => ?_)
  ·
    refine lv_iconst (v := nI 0) hx hb dX4_ifMerged_18 kc_iconst_0 ?_
    refine lv_istore (lv' := [(4, .int (nI 0)), (0, .ref (m9 0)), (1, .int p0), (2, .int p1), (3, .int p2)]) hx hb dX4_ifMerged_19 hl (by decide) rfl (fun ls hl => ?_)
    refine lv_aload_n hx hb dX4_ifMerged_21 rfl (lv_at hl 1 rfl) ?_
    refine lv_iload hx hb dX4_ifMerged_22 (lv_at hl 0 rfl) ?_
    refine lv_if_ne (tgt := 31) hx hb dX4_ifMerged_24 (by decide) (fun h => absurd h (by decide)) (fun _ => ?_)
    refine lv_iconst (v := nI 1) hx hb dX4_ifMerged_27 kc_iconst_1 ?_
    refine lv_goto (tgt := 50) hx hb dX4_ifMerged_28 (by decide) ?_
    refine cu_Vi (As := [.int (nI 1)]) (rest := []) (wc := wM cI m9 sa tx th sv ln po lt fi sc nu ad rv) (wr := []) S (c_X4_holds l D (sz := s.heap.size) (cI := cI) (m9 := m9) (sa := sa) (tx := tx) (th := th) (sv := sv) (ln := ln) (po := po) (lt := lt) (fi := fi) (sc := sc) (nu := nu) (ad := ad) (rv := rv) (x := nI 1)) (cwV 1 hts gX4_ifMerged_X4_holds rfl rfl rfl (by decide +kernel) ⟨Nat.le_of_ble_eq_true rfl, Nat.le_of_ble_eq_true rfl⟩) hw hA [0, 1, 2] [] [0] rfl rfl rfl (by decide) (by decide) (by decide) 0 rfl rfl rfl hl.1 (Nat.le_of_ble_eq_true rfl) ⟨Nat.le_of_ble_eq_true rfl, Nat.le_of_ble_eq_true rfl⟩ rfl dX4_ifMerged_50 (fun r_50 u_50 H locs e_50 hw => ?_)
    have hw : Wd D A [(cI, .int)] (wM cI m9 sa tx (nI 1) sv ln po lt fi sc nu ad rv) s s.heap H locs := hw
    have e_50 : r_50 = b2 ((nI 1) = 0) := e_50
    subst e_50
    refine r_if_neB (tgt := 58) hx hb dX4_ifMerged_53 (by decide) (fun h => absurd h (by decide)) (fun _ => ?_)
    refine lv_iconst (v := nI 0) hx hb dX4_ifMerged_56 kc_iconst_0 ?_
    exact hE () dX4_ifMerged_57 (rfl) (Nat.le_of_ble_eq_true rfl) (Nat.le_of_ble_eq_true rfl) (hw.sub [0, 1, 2] [] (by decide) rfl rfl) (show nI 0 = nI 0 from rfl)
  ·
    refine lv_iload_n hx hb dX4_ifMerged_7 rfl (lv_at hl 2 rfl) ?_
    refine cq_S (As := [.int p1]) (rest := []) S (c_X4_isReplica l D (x := p1)) (va_cwS 1 hts gX4_ifMerged_X4_isReplica rfl rfl rfl (by decide +kernel) ⟨Nat.le_of_ble_eq_true rfl, Nat.le_of_ble_eq_true rfl⟩) (hw.q.sub [] [] rfl rfl) rfl hl.1 (Nat.le_of_ble_eq_true rfl) ⟨Nat.le_of_ble_eq_true rfl, Nat.le_of_ble_eq_true rfl⟩ rfl dX4_ifMerged_8 (fun r_8 e_8 => ?_)
    have e_8 : r_8 = b2 (inP p1 (nI 0) (nI 3)) := e_8
    subst e_8
    refine r_if_eqB (tgt := 18) hx hb dX4_ifMerged_11 (by decide) (fun c_11 => ?_) (fun c_11 => ?_)
    ·
      refine lv_iconst (v := nI 0) hx hb dX4_ifMerged_18 kc_iconst_0 ?_
      refine lv_istore (lv' := [(4, .int (nI 0)), (0, .ref (m9 0)), (1, .int p0), (2, .int p1), (3, .int p2)]) hx hb dX4_ifMerged_19 hl (by decide) rfl (fun ls hl => ?_)
      refine lv_aload_n hx hb dX4_ifMerged_21 rfl (lv_at hl 1 rfl) ?_
      refine lv_iload hx hb dX4_ifMerged_22 (lv_at hl 0 rfl) ?_
      refine lv_if_ne (tgt := 31) hx hb dX4_ifMerged_24 (by decide) (fun h => absurd h (by decide)) (fun _ => ?_)
      refine lv_iconst (v := nI 1) hx hb dX4_ifMerged_27 kc_iconst_1 ?_
      refine lv_goto (tgt := 50) hx hb dX4_ifMerged_28 (by decide) ?_
      refine cu_Vi (As := [.int (nI 1)]) (rest := []) (wc := wM cI m9 sa tx th sv ln po lt fi sc nu ad rv) (wr := []) S (c_X4_holds l D (sz := s.heap.size) (cI := cI) (m9 := m9) (sa := sa) (tx := tx) (th := th) (sv := sv) (ln := ln) (po := po) (lt := lt) (fi := fi) (sc := sc) (nu := nu) (ad := ad) (rv := rv) (x := nI 1)) (cwV 1 hts gX4_ifMerged_X4_holds rfl rfl rfl (by decide +kernel) ⟨Nat.le_of_ble_eq_true rfl, Nat.le_of_ble_eq_true rfl⟩) hw hA [0, 1, 2] [] [0] rfl rfl rfl (by decide) (by decide) (by decide) 0 rfl rfl rfl hl.1 (Nat.le_of_ble_eq_true rfl) ⟨Nat.le_of_ble_eq_true rfl, Nat.le_of_ble_eq_true rfl⟩ rfl dX4_ifMerged_50 (fun r_50 u_50 H locs e_50 hw => ?_)
      have hw : Wd D A [(cI, .int)] (wM cI m9 sa tx (nI 1) sv ln po lt fi sc nu ad rv) s s.heap H locs := hw
      have e_50 : r_50 = b2 ((nI 1) = 0) := e_50
      subst e_50
      refine r_if_neB (tgt := 58) hx hb dX4_ifMerged_53 (by decide) (fun h => absurd h (by decide)) (fun _ => ?_)
      refine lv_iconst (v := nI 0) hx hb dX4_ifMerged_56 kc_iconst_0 ?_
      exact hE () dX4_ifMerged_57 (rfl) (Nat.le_of_ble_eq_true rfl) (Nat.le_of_ble_eq_true rfl) (hw.sub [0, 1, 2] [] (by decide) rfl rfl) (show nI 0 = nI 0 from rfl)
    ·
      exact absurd ⟨c_4, c_11⟩ hv
abbrev rmX4_ifMerged_e2 : Room := { frames := 2, cells := 0, slots := 0, locals := 42 }
set_option maxHeartbeats 4000000 in
set_option maxRecDepth 100000 in
theorem c_X4_ifMerged_e2 (l : Launch) (D : va_G) (sz : Nat) (cI : ClassId) (m9 : Nat → Nat) (sa : Nat → Int32) (tx : Nat → Nat) (th : Int32) (sv ln po : Nat) (lt fi sc nu : Int32) (ad rv : Nat) (f t : Nat) (p2 : Int32) (hf4 : f < 4) (ht4 : t < 4) (hv : f = t ∨ ¬ inP p2 (nI 2) (nI 3)) : MUi l yX4_ifMerged wsX4_ifMerged rmX4_ifMerged_e2 [.ref (m9 0), .int (nI f), .int (nI t), .int p2] D [(cI, .int)] (wM cI m9 sa tx th sv ln po lt fi sc nu ad rv) sz (fun rz (_ : Unit) => rz = nI 0) (fun _ => []) (fun _ => wM cI m9 sa tx (nI 2) sv ln po lt fi sc nu ad rv) 0 0 := by
  refine met_u (own := RX4) (cc := cX4_ifMerged) (maxL := 5) (ty := .int) (by decide) rfl rfl (Nat.le_of_ble_eq_true rfl) ?_
  intro p e s m args below meth c Q A hsz S hw hA hE ls hl
  obtain ⟨hx, hb, hml, hown, hts⟩ := id S
  have hl : lv_has ls 5 [(0, .ref (m9 0)), (1, .int (nI f)), (2, .int (nI t)), (3, .int p2)] := hl
  refine lv_iload_n hx hb dX4_ifMerged_0 rfl (lv_at hl 1 rfl) ?_
  refine cq_S (As := [.int (nI f)]) (rest := []) S (c_X4_isReplica l D (x := nI f)) (va_cwS 1 hts gX4_ifMerged_X4_isReplica rfl rfl rfl (by decide +kernel) ⟨Nat.le_of_ble_eq_true rfl, Nat.le_of_ble_eq_true rfl⟩) (hw.q.sub [] [] rfl rfl) rfl hl.1 (Nat.le_of_ble_eq_true rfl) ⟨Nat.le_of_ble_eq_true rfl, Nat.le_of_ble_eq_true rfl⟩ rfl dX4_ifMerged_1 (fun r_1 e_1 => ?_)
  have e_1 : r_1 = b2 (inP (nI f) (nI 0) (nI 3)) := e_1
  subst e_1
  refine r_if_eqB (tgt := 18) hx hb dX4_ifMerged_4 (by decide) (fun h => absurd (repP_n hf4) h) (fun _ => ?_)
  refine lv_iload_n hx hb dX4_ifMerged_7 rfl (lv_at hl 2 rfl) ?_
  refine cq_S (As := [.int (nI t)]) (rest := []) S (c_X4_isReplica l D (x := nI t)) (va_cwS 1 hts gX4_ifMerged_X4_isReplica rfl rfl rfl (by decide +kernel) ⟨Nat.le_of_ble_eq_true rfl, Nat.le_of_ble_eq_true rfl⟩) (hw.q.sub [] [] rfl rfl) rfl hl.1 (Nat.le_of_ble_eq_true rfl) ⟨Nat.le_of_ble_eq_true rfl, Nat.le_of_ble_eq_true rfl⟩ rfl dX4_ifMerged_8 (fun r_8 e_8 => ?_)
  have e_8 : r_8 = b2 (inP (nI t) (nI 0) (nI 3)) := e_8
  subst e_8
  refine r_if_eqB (tgt := 18) hx hb dX4_ifMerged_11 (by decide) (fun h => absurd (repP_n ht4) h) (fun _ => ?_)
  refine lv_iconst (v := nI 1) hx hb dX4_ifMerged_14 kc_iconst_1 ?_
  refine lv_goto (tgt := 19) hx hb dX4_ifMerged_15 (by decide) ?_
  refine lv_istore (lv' := [(4, .int (nI 1)), (0, .ref (m9 0)), (1, .int (nI f)), (2, .int (nI t)), (3, .int p2)]) hx hb dX4_ifMerged_19 hl (by decide) rfl (fun ls hl => ?_)
  refine lv_aload_n hx hb dX4_ifMerged_21 rfl (lv_at hl 1 rfl) ?_
  refine lv_iload hx hb dX4_ifMerged_22 (lv_at hl 0 rfl) ?_
  refine lv_if_ne (tgt := 31) hx hb dX4_ifMerged_24 (by decide) (fun _ => ?_) (fun h => absurd h (by decide))
  refine lv_iload_n hx hb dX4_ifMerged_31 rfl (lv_at hl 2 rfl) ?_
  refine lv_iload_n hx hb dX4_ifMerged_32 rfl (lv_at hl 3 rfl) ?_
  refine r_icmp_eqN (tgt := 45) hx hb (by omega) (by omega) dX4_ifMerged_33 (by decide) (fun c_33 => ?_) (fun c_33 => ?_)
  ·
    refine lv_iconst (v := nI 2) hx hb dX4_ifMerged_45 kc_iconst_2 ?_
    refine lv_goto (tgt := 50) hx hb dX4_ifMerged_46 (by decide) ?_
    refine cu_Vi (As := [.int (nI 2)]) (rest := []) (wc := wM cI m9 sa tx th sv ln po lt fi sc nu ad rv) (wr := []) S (c_X4_holds l D (sz := s.heap.size) (cI := cI) (m9 := m9) (sa := sa) (tx := tx) (th := th) (sv := sv) (ln := ln) (po := po) (lt := lt) (fi := fi) (sc := sc) (nu := nu) (ad := ad) (rv := rv) (x := nI 2)) (cwV 1 hts gX4_ifMerged_X4_holds rfl rfl rfl (by decide +kernel) ⟨Nat.le_of_ble_eq_true rfl, Nat.le_of_ble_eq_true rfl⟩) hw hA [0, 1, 2] [] [0] rfl rfl rfl (by decide) (by decide) (by decide) 0 rfl rfl rfl hl.1 (Nat.le_of_ble_eq_true rfl) ⟨Nat.le_of_ble_eq_true rfl, Nat.le_of_ble_eq_true rfl⟩ rfl dX4_ifMerged_50 (fun r_50 u_50 H locs e_50 hw => ?_)
    have hw : Wd D A [(cI, .int)] (wM cI m9 sa tx (nI 2) sv ln po lt fi sc nu ad rv) s s.heap H locs := hw
    have e_50 : r_50 = b2 ((nI 2) = 0) := e_50
    subst e_50
    refine r_if_neB (tgt := 58) hx hb dX4_ifMerged_53 (by decide) (fun h => absurd h (by decide)) (fun _ => ?_)
    refine lv_iconst (v := nI 0) hx hb dX4_ifMerged_56 kc_iconst_0 ?_
    exact hE () dX4_ifMerged_57 (rfl) (Nat.le_of_ble_eq_true rfl) (Nat.le_of_ble_eq_true rfl) (hw.sub [0, 1, 2] [] (by decide) rfl rfl) (show nI 0 = nI 0 from rfl)
  ·
    refine lv_iload_n hx hb dX4_ifMerged_36 rfl (lv_at hl 4 rfl) ?_
    refine lv_iconst (v := nI 2) hx hb dX4_ifMerged_37 kc_iconst_2 ?_
    refine lv_iconst (v := nI 3) hx hb dX4_ifMerged_38 kc_iconst_3 ?_
    refine cq_S (As := [.int p2, .int (nI 2), .int (nI 3)]) (rest := [.ref (m9 0)]) S (c_X4_in l D (x := p2) (lo := nI 2) (hi := nI 3)) (va_cwS 3 hts gX4_ifMerged_X4_in rfl rfl rfl (by decide +kernel) ⟨Nat.le_of_ble_eq_true rfl, Nat.le_of_ble_eq_true rfl⟩) (hw.q.sub [] [] rfl rfl) rfl hl.1 (Nat.le_of_ble_eq_true rfl) ⟨Nat.le_of_ble_eq_true rfl, Nat.le_of_ble_eq_true rfl⟩ rfl dX4_ifMerged_39 (fun r_39 e_39 => ?_)
    have e_39 : r_39 = b2 (inP p2 (nI 2) (nI 3)) := e_39
    subst e_39
    refine r_if_neB (tgt := 49) hx hb dX4_ifMerged_42 (by decide) (fun c_42 => ?_) (fun c_42 => ?_)
    ·
      exact absurd c_42 (hv.resolve_left c_33)
    ·
      refine lv_iconst (v := nI 2) hx hb dX4_ifMerged_45 kc_iconst_2 ?_
      refine lv_goto (tgt := 50) hx hb dX4_ifMerged_46 (by decide) ?_
      refine cu_Vi (As := [.int (nI 2)]) (rest := []) (wc := wM cI m9 sa tx th sv ln po lt fi sc nu ad rv) (wr := []) S (c_X4_holds l D (sz := s.heap.size) (cI := cI) (m9 := m9) (sa := sa) (tx := tx) (th := th) (sv := sv) (ln := ln) (po := po) (lt := lt) (fi := fi) (sc := sc) (nu := nu) (ad := ad) (rv := rv) (x := nI 2)) (cwV 1 hts gX4_ifMerged_X4_holds rfl rfl rfl (by decide +kernel) ⟨Nat.le_of_ble_eq_true rfl, Nat.le_of_ble_eq_true rfl⟩) hw hA [0, 1, 2] [] [0] rfl rfl rfl (by decide) (by decide) (by decide) 0 rfl rfl rfl hl.1 (Nat.le_of_ble_eq_true rfl) ⟨Nat.le_of_ble_eq_true rfl, Nat.le_of_ble_eq_true rfl⟩ rfl dX4_ifMerged_50 (fun r_50 u_50 H locs e_50 hw => ?_)
      have hw : Wd D A [(cI, .int)] (wM cI m9 sa tx (nI 2) sv ln po lt fi sc nu ad rv) s s.heap H locs := hw
      have e_50 : r_50 = b2 ((nI 2) = 0) := e_50
      subst e_50
      refine r_if_neB (tgt := 58) hx hb dX4_ifMerged_53 (by decide) (fun h => absurd h (by decide)) (fun _ => ?_)
      refine lv_iconst (v := nI 0) hx hb dX4_ifMerged_56 kc_iconst_0 ?_
      exact hE () dX4_ifMerged_57 (rfl) (Nat.le_of_ble_eq_true rfl) (Nat.le_of_ble_eq_true rfl) (hw.sub [0, 1, 2] [] (by decide) rfl rfl) (show nI 0 = nI 0 from rfl)
abbrev rmX4_savedStates : Room := { frames := 0, cells := 0, slots := 0, locals := 0 }
set_option maxHeartbeats 4000000 in
set_option maxRecDepth 100000 in
theorem c_X4_savedStates (l : Launch) (D : va_G) (sz : Nat) (cI : ClassId) (m9 : Nat → Nat) (sa : Nat → Int32) (tx : Nat → Nat) (th : Int32) (sv ln po : Nat) (lt fi sc nu : Int32) (ad rv : Nat)  : MUi l yX4_savedStates wsX4_savedStates rmX4_savedStates [.ref (m9 0)] D [(cI, .int)] (wM cI m9 sa tx th sv ln po lt fi sc nu ad rv) sz (fun rz (_ : Unit) => rz = nI sv) (fun _ => []) (fun _ => wM cI m9 sa tx (nI 0) sv ln po lt fi sc nu ad rv) 0 0 := by
  refine met_u (own := RX4) (cc := cX4_savedStates) (maxL := 1) (ty := .int) (by decide) rfl rfl (Nat.le_of_ble_eq_true rfl) ?_
  intro p e s m args below meth c Q A hsz S hw hA hE ls hl
  obtain ⟨hx, hb, hml, hown, hts⟩ := id S
  have k16 := hts (.fieldLink RX4 16 "CausalTableModel" "thrown" "I") (by decide +kernel)
  have hin4 := (show ∀ w ∈ wsX40, w ∈ wsX4_savedStates by decide +kernel)
  have k89 := hts (.fieldLink RX4 89 "CausalTableModel" "saved" "I") (by decide +kernel)
  have hl : lv_has ls 1 [(0, .ref (m9 0))] := hl
  refine lv_aload_n hx hb dX4_savedStates_0 rfl (lv_at hl 0 rfl) ?_
  refine lv_iconst (v := nI 0) hx hb dX4_savedStates_1 kc_iconst_0 ?_
  refine r_put hx hb hts hown hw 0 0 (ty := .int) tyX4 tyX4_ok nmX4 hin4 rfl rfl (by decide) k16 rfl (by decide +kernel) rfl rfl (Nat.le_of_ble_eq_true rfl) dX4_savedStates_2 (fun H locs hw => ?_)
  have hw : Wd D A [(cI, .int)] (wM cI m9 sa tx (nI 0) sv ln po lt fi sc nu ad rv) s s.heap H locs := hw
  refine lv_aload_n hx hb dX4_savedStates_5 rfl (lv_at hl 0 rfl) ?_
  refine r_get hx hb hts hown hw.q 0 2 hin4 rfl rfl (by decide) k89 rfl dX4_savedStates_6 ?_
  exact hE () dX4_savedStates_9 (rfl) (Nat.le_of_ble_eq_true rfl) (Nat.le_of_ble_eq_true rfl) (hw.sub [0, 1, 2] [] (by decide) rfl rfl) (show nI sv = nI sv from rfl)
abbrev rmX4_textLength : Room := { frames := 0, cells := 0, slots := 0, locals := 0 }
set_option maxHeartbeats 4000000 in
set_option maxRecDepth 100000 in
theorem c_X4_textLength (l : Launch) (D : va_G) (sz : Nat) (cI : ClassId) (m9 : Nat → Nat) (sa : Nat → Int32) (tx : Nat → Nat) (th : Int32) (sv ln po : Nat) (lt fi sc nu : Int32) (ad rv : Nat)  : MUi l yX4_textLength wsX4_textLength rmX4_textLength [.ref (m9 0)] D [(cI, .int)] (wM cI m9 sa tx th sv ln po lt fi sc nu ad rv) sz (fun rz (_ : Unit) => rz = nI ln) (fun _ => []) (fun _ => wM cI m9 sa tx (nI 0) sv ln po lt fi sc nu ad rv) 0 0 := by
  refine met_u (own := RX4) (cc := cX4_textLength) (maxL := 1) (ty := .int) (by decide) rfl rfl (Nat.le_of_ble_eq_true rfl) ?_
  intro p e s m args below meth c Q A hsz S hw hA hE ls hl
  obtain ⟨hx, hb, hml, hown, hts⟩ := id S
  have k16 := hts (.fieldLink RX4 16 "CausalTableModel" "thrown" "I") (by decide +kernel)
  have hin4 := (show ∀ w ∈ wsX40, w ∈ wsX4_textLength by decide +kernel)
  have k124 := hts (.fieldLink RX4 124 "CausalTableModel" "length" "I") (by decide +kernel)
  have hl : lv_has ls 1 [(0, .ref (m9 0))] := hl
  refine lv_aload_n hx hb dX4_textLength_0 rfl (lv_at hl 0 rfl) ?_
  refine lv_iconst (v := nI 0) hx hb dX4_textLength_1 kc_iconst_0 ?_
  refine r_put hx hb hts hown hw 0 0 (ty := .int) tyX4 tyX4_ok nmX4 hin4 rfl rfl (by decide) k16 rfl (by decide +kernel) rfl rfl (Nat.le_of_ble_eq_true rfl) dX4_textLength_2 (fun H locs hw => ?_)
  have hw : Wd D A [(cI, .int)] (wM cI m9 sa tx (nI 0) sv ln po lt fi sc nu ad rv) s s.heap H locs := hw
  refine lv_aload_n hx hb dX4_textLength_5 rfl (lv_at hl 0 rfl) ?_
  refine r_get hx hb hts hown hw.q 0 4 hin4 rfl rfl (by decide) k124 rfl dX4_textLength_6 ?_
  exact hE () dX4_textLength_9 (rfl) (Nat.le_of_ble_eq_true rfl) (Nat.le_of_ble_eq_true rfl) (hw.sub [0, 1, 2] [] (by decide) rfl rfl) (show nI ln = nI ln from rfl)
abbrev rmX4_thrown : Room := { frames := 0, cells := 0, slots := 0, locals := 0 }
set_option maxHeartbeats 4000000 in
set_option maxRecDepth 100000 in
theorem c_X4_thrown (l : Launch) (D : va_G) (cI : ClassId) (m9 : Nat → Nat) (sa : Nat → Int32) (tx : Nat → Nat) (th : Int32) (sv ln po : Nat) (lt fi sc nu : Int32) (ad rv : Nat)  : MQi l yX4_thrown wsX4_thrown rmX4_thrown [.ref (m9 0)] D [(cI, .int)] (wM cI m9 sa tx th sv ln po lt fi sc nu ad rv) (fun rz => rz = th) := by
  refine met_q (own := RX4) (cc := cX4_thrown) (maxL := 1) (ty := .int) (by decide) rfl rfl (Nat.le_of_ble_eq_true rfl) ?_
  intro p e s m args below meth c Q S hq hE ls hl
  obtain ⟨hx, hb, hml, hown, hts⟩ := id S
  have k16 := hts (.fieldLink RX4 16 "CausalTableModel" "thrown" "I") (by decide +kernel)
  have hin4 := (show ∀ w ∈ wsX40, w ∈ wsX4_thrown by decide +kernel)
  have hl : lv_has ls 1 [(0, .ref (m9 0))] := hl
  refine lv_aload_n hx hb dX4_thrown_0 rfl (lv_at hl 0 rfl) ?_
  refine r_get hx hb hts hown hq 0 0 hin4 rfl rfl (by decide) k16 rfl dX4_thrown_1 ?_
  exact hE dX4_thrown_4 (rfl) (show th = th from rfl)
