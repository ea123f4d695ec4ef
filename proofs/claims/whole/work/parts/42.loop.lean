theorem kc_b31 : (Int8.ofInt 31).toInt32 = nI 31 := by decide +kernel
set_option maxHeartbeats 4000000 in
set_option maxRecDepth 100000 in
theorem law_step {p : Program} {l : Launch} {e : Env} {s : State} {m : MethodId} {args : Array Value} {below : List Frame} {meth : Method} {c : Code} {Q : State → Prop} {D : va_G} {A : Nat → Prop} {b L : Nat} {xs : Nat → Int32} {cells slots : Nat} {cI cR cC cJ cD : ClassId} {x9 : Nat} {q h9 t9 : Nat → Nat} {o9 p9 : Nat} {m9 : Nat → Nat} {B k : Nat} (F : LF p l s m c args A b L xs) (hk5 : 5 * k + 5 ≤ L) (hB : B + 100 < 2 ^ 31) (hR : cells + 7 ≤ room_1.cells ∧ slots + 5790 ≤ room_1.slots) {H : Heap} {locs : List Loc} (hW : LW D A s cI cR cC cJ cD x9 q h9 t9 o9 p9 m9 B H locs) {ls : Array Slot} (hl : lv_has ls 10 [(0, .ref b), (1, .ref x9), (2, .ref (m9 0)), (3, .ref o9), (4, .ref p9), (5, .int (nI (5 * k)))]) (kk : ∀ (H : Heap) (locs : List Loc) (ls : Array Slot), LW D A s cI cR cC cJ cD x9 q h9 t9 o9 p9 m9 (B + 41) H locs → lv_has ls 10 [(0, .ref b), (1, .ref x9), (2, .ref (m9 0)), (3, .ref o9), (4, .ref p9), (5, .int (nI (5 * k)))] → W p l e room_1 s m args below meth c H locs (cells + 7) (slots + 5790) Q (F0 m 1875 ls [])) : W p l e room_1 s m args below meth c H locs cells slots Q (F0 m 37 ls []) := by
  obtain ⟨st, ad, sv, ol, n7, n8, tx, ln, po, ki, rp, tg, nu, fo, fd, sa, th, po2, lt, fi, sc, nu2, ad2, rv, hw, hLV⟩ := hW
  obtain ⟨S, hz, hxe, hzq, hl9, hA, hX, hbl, hbA, hL⟩ := id F
  obtain ⟨hx, hb, hml, hown, hts⟩ := id S
  refine lv_aload_n hx hb dL_law_37 rfl (lv_at hl 0 rfl) ?_
  refine lv_iload hx hb dL_law_38 (lv_at hl 5 rfl) ?_
  refine r_sld hx hb hX hbl hbA hL hw (i := 5 * k) (by omega) (v := xs (5 * k)) rfl dL_law_40 ?_
  refine lv_bipush (v := nI 31) hx hb dL_law_41 kc_b31 ?_
  refine lv_iand hx hb dL_law_43 ?_
  obtain ⟨o, ho, eo⟩ := pk_andE (xs (5 * k)) (m := nI 31) 5 (by decide)
  refine r_top hx (show xs (5 * k) &&& nI 31 = nI o from eo) ?_
  obtain rfl | rfl | rfl | rfl | rfl | rfl | rfl | rfl | rfl | rfl | rfl | rfl | rfl | rfl | rfl | rfl | rfl | rfl | rfl | rfl | rfl | rfl | rfl | rfl | rfl | rfl | rfl | rfl | rfl | rfl | rfl | rfl := (show o = 0 ∨ o = 1 ∨ o = 2 ∨ o = 3 ∨ o = 4 ∨ o = 5 ∨ o = 6 ∨ o = 7 ∨ o = 8 ∨ o = 9 ∨ o = 10 ∨ o = 11 ∨ o = 12 ∨ o = 13 ∨ o = 14 ∨ o = 15 ∨ o = 16 ∨ o = 17 ∨ o = 18 ∨ o = 19 ∨ o = 20 ∨ o = 21 ∨ o = 22 ∨ o = 23 ∨ o = 24 ∨ o = 25 ∨ o = 26 ∨ o = 27 ∨ o = 28 ∨ o = 29 ∨ o = 30 ∨ o = 31 from by omega)
  · refine lv_tableIn (off := 132) (tgt := 176) hx hb dL_law_44 (by decide) (by decide) (by decide) (by decide) ?_
    exact lawc_put F hk5 hB hR hw hLV hl kk
  · refine lv_tableIn (off := 224) (tgt := 268) hx hb dL_law_44 (by decide) (by decide) (by decide) (by decide) ?_
    exact lawc_add F hk5 hB hR hw hLV hl kk
  · refine lv_tableIn (off := 304) (tgt := 348) hx hb dL_law_44 (by decide) (by decide) (by decide) (by decide) ?_
    exact lawc_include F hk5 hB hR hw hLV hl kk
  · refine lv_tableIn (off := 384) (tgt := 428) hx hb dL_law_44 (by decide) (by decide) (by decide) (by decide) ?_
    exact lawc_exclude F hk5 hB hR hw hLV hl kk
  · refine lv_tableIn (off := 464) (tgt := 508) hx hb dL_law_44 (by decide) (by decide) (by decide) (by decide) ?_
    exact lawc_delete F hk5 hB hR hw hLV hl kk
  · refine lv_tableIn (off := 532) (tgt := 576) hx hb dL_law_44 (by decide) (by decide) (by decide) (by decide) ?_
    exact lawc_merge F hk5 hB hR hw hLV hl kk
  · refine lv_tableIn (off := 600) (tgt := 644) hx hb dL_law_44 (by decide) (by decide) (by decide) (by decide) ?_
    exact lawc_mergeAll F hk5 hB hR hw hLV hl kk
  · refine lv_tableIn (off := 613) (tgt := 657) hx hb dL_law_44 (by decide) (by decide) (by decide) (by decide) ?_
    exact lawc_appendText F hk5 hB hR hw hLV hl kk
  · refine lv_tableIn (off := 669) (tgt := 713) hx hb dL_law_44 (by decide) (by decide) (by decide) (by decide) ?_
    exact lawc_clearText F hk5 hB hR hw hLV hl kk
  · refine lv_tableIn (off := 682) (tgt := 726) hx hb dL_law_44 (by decide) (by decide) (by decide) (by decide) ?_
    exact lawc_errorPosition F hk5 hB hR hw hLV hl kk
  · refine lv_tableIn (off := 695) (tgt := 739) hx hb dL_law_44 (by decide) (by decide) (by decide) (by decide) ?_
    exact lawc_runText F hk5 hB hR hw hLV hl kk
  · refine lv_tableIn (off := 739) (tgt := 783) hx hb dL_law_44 (by decide) (by decide) (by decide) (by decide) ?_
    exact lawc_undo F hk5 hB hR hw hLV hl kk
  · refine lv_tableIn (off := 783) (tgt := 827) hx hb dL_law_44 (by decide) (by decide) (by decide) (by decide) ?_
    exact lawc_latest F hk5 hB hR hw hLV hl kk
  · refine lv_tableIn (off := 851) (tgt := 895) hx hb dL_law_44 (by decide) (by decide) (by decide) (by decide) ?_
    exact lawc_sibling F hk5 hB hR hw hLV hl kk
  · refine lv_tableIn (off := 931) (tgt := 975) hx hb dL_law_44 (by decide) (by decide) (by decide) (by decide) ?_
    exact lawc_greatest F hk5 hB hR hw hLV hl kk
  · refine lv_tableIn (off := 999) (tgt := 1043) hx hb dL_law_44 (by decide) (by decide) (by decide) (by decide) ?_
    exact lawc_counter F hk5 hB hR hw hLV hl kk
  · refine lv_tableIn (off := 1067) (tgt := 1111) hx hb dL_law_44 (by decide) (by decide) (by decide) (by decide) ?_
    exact lawc_elements F hk5 hB hR hw hLV hl kk
  · refine lv_tableIn (off := 1135) (tgt := 1179) hx hb dL_law_44 (by decide) (by decide) (by decide) (by decide) ?_
    exact lawc_entries F hk5 hB hR hw hLV hl kk
  · refine lv_tableIn (off := 1215) (tgt := 1259) hx hb dL_law_44 (by decide) (by decide) (by decide) (by decide) ?_
    exact lawc_exists F hk5 hB hR hw hLV hl kk
  · refine lv_tableIn (off := 1290) (tgt := 1334) hx hb dL_law_44 (by decide) (by decide) (by decide) (by decide) ?_
    exact lawc_mean F hk5 hB hR hw hLV hl kk
  · refine lv_tableIn (off := 1380) (tgt := 1424) hx hb dL_law_44 (by decide) (by decide) (by decide) (by decide) ?_
    exact lawc_seen F hk5 hB hR hw hLV hl kk
  · refine lv_tableIn (off := 1448) (tgt := 1492) hx hb dL_law_44 (by decide) (by decide) (by decide) (by decide) ?_
    exact lawc_clock F hk5 hB hR hw hLV hl kk
  · refine lv_tableIn (off := 1504) (tgt := 1548) hx hb dL_law_44 (by decide) (by decide) (by decide) (by decide) ?_
    exact lawc_relation F hk5 hB hR hw hLV hl kk
  · refine lv_tableIn (off := 1572) (tgt := 1616) hx hb dL_law_44 (by decide) (by decide) (by decide) (by decide) ?_
    exact lawc_conflicts F hk5 hB hR hw hLV hl kk
  · refine lv_tableIn (off := 1628) (tgt := 1672) hx hb dL_law_44 (by decide) (by decide) (by decide) (by decide) ?_
    exact lawc_agreement F hk5 hB hR hw hLV hl kk
  · refine lv_tableIn (off := 1669) (tgt := 1713) hx hb dL_law_44 (by decide) (by decide) (by decide) (by decide) ?_
    exact lawc_latestMerge F hk5 hB hR hw hLV hl kk
  · refine lv_tableIn (off := 1725) (tgt := 1769) hx hb dL_law_44 (by decide) (by decide) (by decide) (by decide) ?_
    exact lawc_ifMerged F hk5 hB hR hw hLV hl kk
  · refine lv_tableIn (off := 1805) (tgt := 1849) hx hb dL_law_44 (by decide) (by decide) (by decide) (by decide) ?_
    exact lawc_savedStates F hk5 hB hR hw hLV hl kk
  · refine lv_tableIn (off := 1818) (tgt := 1862) hx hb dL_law_44 (by decide) (by decide) (by decide) (by decide) ?_
    exact lawc_textLength F hk5 hB hR hw hLV hl kk
  · refine lv_tableOut (tgt := 1875) hx hb dL_law_44 (by decide) (by decide) ?_
    refine W.widen (k := cells + 7) (n := slots + 5790) (by omega) (by omega) ?_
    exact kk H locs ls ⟨st, ad, sv, ol, n7, n8, tx, ln, po, ki, rp, tg, nu, fo, fd, sa, th, po2, lt, fi, sc, nu2, ad2, rv, hw, LV_m hLV (by omega)⟩ hl
  · refine lv_tableOut (tgt := 1875) hx hb dL_law_44 (by decide) (by decide) ?_
    refine W.widen (k := cells + 7) (n := slots + 5790) (by omega) (by omega) ?_
    exact kk H locs ls ⟨st, ad, sv, ol, n7, n8, tx, ln, po, ki, rp, tg, nu, fo, fd, sa, th, po2, lt, fi, sc, nu2, ad2, rv, hw, LV_m hLV (by omega)⟩ hl
  · refine lv_tableOut (tgt := 1875) hx hb dL_law_44 (by decide) (by decide) ?_
    refine W.widen (k := cells + 7) (n := slots + 5790) (by omega) (by omega) ?_
    exact kk H locs ls ⟨st, ad, sv, ol, n7, n8, tx, ln, po, ki, rp, tg, nu, fo, fd, sa, th, po2, lt, fi, sc, nu2, ad2, rv, hw, LV_m hLV (by omega)⟩ hl
set_option maxHeartbeats 4000000 in
/-- THE LOOP: from its head, call after call, to its end -/
theorem law_loop {p : Program} {l : Launch} {e : Env} {s : State} {m : MethodId} {args : Array Value} {below : List Frame} {meth : Method} {c : Code} {Q : State → Prop} {D : va_G} {A : Nat → Prop} {b L : Nat} {xs : Nat → Int32} {cI cR cC cJ cD : ClassId} {x9 : Nat} {q h9 t9 : Nat → Nat} {o9 p9 : Nat} {m9 : Nat → Nat} (F : LF p l s m c args A b L xs) (hend : ∀ (H : Heap) (locs : List Loc) (cells slots : Nat) (ls : Array Slot), va_S A s.heap H locs → cells ≤ room_1.cells → slots ≤ room_1.slots → W p l e room_1 s m args below meth c H locs cells slots Q (F0 m 1881 ls [])) :
    ∀ (fu k : Nat), L < 5 * k + 5 * fu → 5 * k ≤ L → ∀ (cells slots : Nat) (H : Heap) (locs : List Loc), cells ≤ 30 + 7 * k → slots ≤ 30000 + 5790 * k → LW D A s cI cR cC cJ cD x9 q h9 t9 o9 p9 m9 (41 * k) H locs → ∀ ls : Array Slot, lv_has ls 10 [(0, .ref b), (1, .ref x9), (2, .ref (m9 0)), (3, .ref o9), (4, .ref p9), (5, .int (nI (5 * k)))] → W p l e room_1 s m args below meth c H locs cells slots Q (F0 m 28 ls []) := by
  intro fu
  obtain ⟨S, hz, hxe, hzq, hl9, hA, hX, hbl, hbA, hL⟩ := id F
  obtain ⟨hx, hb, hml, hown, hts⟩ := id S
  have hrc : room_1.cells = 601024 := rfl
  have hrs : room_1.slots = 7293034 := rfl
  induction fu with
  | zero => intro k h1 h2; omega
  | succ fu ih =>
    intro k h1 h2 cells slots H locs hc hs hW ls hl
    obtain ⟨st, ad, sv, ol, n7, n8, tx, ln, po, ki, rp, tg, nu, fo, fd, sa, th, po2, lt, fi, sc, nu2, ad2, rv, hw, hLV⟩ := id hW
    refine lv_iload hx hb dL_law_28 (lv_at hl 5 rfl) ?_
    refine lv_aload_n hx hb dL_law_30 rfl (lv_at hl 0 rfl) ?_
    refine r_slen hx hb hX hbl hbA hw dL_law_31 ?_
    refine lv_iconst (v := nI 5) hx hb dL_law_32 (by decide) ?_
    refine lv_isub hx hb dL_law_33 ?_
    refine lv_icmp_gt (tgt := 1881) hx hb dL_law_34 (by decide) (fun h9 => ?_) (fun h9 => ?_)
    · exact hend H locs cells slots ls hw.2.2.2 (by omega) (by omega)
    · have hk5 : 5 * k + 5 ≤ L := Nat.le_of_not_lt (fun z => h9 ((sc_gt (by omega) hL).mpr z))
      refine law_step F hk5 (by omega) ⟨by omega, by omega⟩ hW hl (fun H1 locs1 ls1 hW1 hl1 => ?_)
      refine lv_iinc (v := nI (5 * (k + 1))) (lv' := [(5, .int (nI (5 * (k + 1)))), (0, .ref b), (1, .ref x9), (2, .ref (m9 0)), (3, .ref o9), (4, .ref p9)]) hx hb dL_law_1875 hl1 (k := 5) rfl (by rw [show 5 * (k + 1) = 5 * k + 5 by omega]; exact nI_add (5 * k) 5) (by decide) rfl (fun ls hl => ?_)
      refine lv_goto (tgt := 28) hx hb dL_law_1878 (by decide) ?_
      exact ih (k + 1) (by omega) (by omega) _ _ H1 locs1 (by omega) (by omega) (by rw [show 41 * (k + 1) = 41 * k + 41 by omega]; exact hW1) ls (lv_sub hl [1, 2, 3, 4, 5, 0] rfl)
