/-! the law's loop -/
set_option maxHeartbeats 4000000 in
theorem law_loop {p : Program} {l : Launch} {e : Env} {s : State} {m : MethodId} {args : Array Value} {below : List Frame} {meth : Method} {c : Code} {Q : State → Prop} {D : va_G} {A : Nat → Prop} {b L : Nat} {xs : Nat → Int32} {cI cR cC : ClassId} {x9 : Nat} {q h9 t9 : Nat → Nat} (F : LF p s m c args A b L xs) (hend : ∀ (H : Heap) (locs : List Loc) (cells slots : Nat) (ls : Array Slot), va_S A s.heap H locs → cells ≤ room_1.cells → slots ≤ room_1.slots → W p l e room_1 s m args below meth c H locs cells slots Q (F0 m 362 ls [.int (nI 1)])) : ∀ (fu turn : Nat), turn ≤ 40 → 40 - turn < fu → ∀ (H : Heap) (locs : List Loc) (cells slots : Nat), cells ≤ 20 + 100 * turn → slots ≤ 6000 + 80000 * turn → LW D A s cI cR cC x9 q h9 t9 turn H locs → ∀ ls : Array Slot, lv_has ls 13 [(0, .ref b), (1, .ref x9), (2, .int (nI 1)), (3, .int (nI turn))] → W p l e room_1 s m args below meth c H locs cells slots Q (F0 m 32 ls []) := by
  intro fu
  induction fu with
  | zero => intro turn _ h9; exact absurd h9 (Nat.not_lt_zero _)
  | succ fu ih =>
    intro turn ht hf H locs cells slots hc hs hW ls hl
    have r1 : 60000 ≤ room_1.cells := Nat.le_of_ble_eq_true rfl
    have r2 : 6000000 ≤ room_1.slots := Nat.le_of_ble_eq_true rfl
    by_cases c40 : turn = 40
    · obtain ⟨st, ad, sv, ol, n7, n8, tx, ln, po, ki, rp, tg, nu, hw, hh, hiv⟩ := hW
      obtain ⟨S, hz, hA, hX, hbl, hbA, hL⟩ := id F
      obtain ⟨hx, hb, hml, hown, hts⟩ := id S
      refine lv_iload_n hx hb dL_law_32 rfl (lv_at hl 3 rfl) ?_
      refine lv_bipush (v := nI 40) hx hb dL_law_33 (by decide +kernel) ?_
      refine lv_icmp_ge (tgt := 361) hx hb dL_law_35 (by decide) (fun _ => ?_) (fun h => absurd (by rw [c40]; exact Int32.le_refl _) h)
      refine lv_iload_n hx hb dL_law_361 rfl (lv_at hl 2 rfl) ?_
      exact hend H locs cells slots ls hw.2.2.2 (by omega) (by omega)
    · have h40 : turn < 40 := by omega
      refine law_turn F h40 (by omega) ⟨by omega, by omega⟩ hW hl (fun y5 r t hr4 ht4 hne H locs ls hW hl => ?_)
      refine law_mid hr4 ht4 hne F h40 (by omega) ⟨by omega, by omega⟩ hW hl (fun H locs ls hW hl => ?_)
      refine law_end F h40 (by omega) ⟨by omega, by omega⟩ hW hl (fun H locs ls hW hl => ?_)
      obtain ⟨S, hz, hA, hX, hbl, hbA, hL⟩ := id F
      obtain ⟨hx, hb, hml, hown, hts⟩ := id S
      refine lv_iinc (v := nI (turn + 1)) (lv' := [(3, .int (nI (turn + 1))), (0, .ref b), (1, .ref x9), (2, .int (nI 1))]) hx hb dL_law_355 hl (k := 3) rfl (nI_add turn 1) (by decide) rfl (fun ls hl => ?_)
      refine lv_goto (tgt := 32) hx hb dL_law_358 (by decide) ?_
      exact ih (turn + 1) (by omega) (by omega) H locs _ _ (by omega) (by omega) hW ls (lv_sub hl [1, 2, 3, 0] rfl)
