/-! the law's own rows -/
def LW (D : va_G) (A : Nat → Prop) (s : State) (cI cR cC cJ cD : ClassId) (x9 : Nat) (q h9 t9 : Nat → Nat) (o9 p9 : Nat) (m9 : Nat → Nat) (B : Nat) (H : Heap) (locs : List Loc) : Prop := ∃ (st : St) (ad : Nat → Nat → Nat) (sv : Nat → St) (ol n7 n8 : Nat) (tx : Nat → Nat) (ln po : Nat) (ki rp tg nu : Int32) (fo : Nat → Int64) (fd : Nat → UInt64) (sa : Nat → Int32) (th : Int32) (po2 : Nat) (lt fi sc nu2 : Int32) (ad2 rv : Nat), Wd D A [(cI, .int), (cR, .object RX1), (cC, .char), (cJ, .long), (cD, .double)] ([(x9, .inr (3, [.ref (q 0), .ref (h9 0), .ref (t9 0)]))] ++ wS cI q st ++ wR cR h9 (fr7 ad n8) ol n7 ++ wT cC t9 tx ln po ki rp tg nu ++ [(o9, .inl (cJ, 1, .inr (.inl fo)))] ++ [(p9, .inl (cD, 1, .inr (.inr (.inr (.inl fd)))))] ++ wM cI m9 sa tx th n7 ln po2 lt fi sc nu2 ad2 rv ++ wP cI ad sv n8) s s.heap H locs ∧ LV st sv ol n7 n8 tx ln po sa po2 B
section LR
variable {p : Program} {l : Launch} {e : Env} {R : Room} {s : State} {m : MethodId} {args : Array Value} {below : List Frame} {meth : Method} {c : Code} {H H0 : Heap} {locs : List Loc} {cells slots : Nat} {Q : State → Prop}
variable {cc : ByteArray} {pc : Nat} {ls : Array Slot} {rest : List Value} {D : va_G} {A : Nat → Prop} {tys : List (ClassId × FieldType)} {w : va_W} {b L : Nat} {xs : Nat → Int32}
theorem r_sld (hx : p.tables.exec = Jvm.exec) (hb : c.code = cc) (hX : va_X b L xs s H0) (hbl : b < H0.size) (hbA : ¬ A b) (hL : L ≤ 2560) (hw : Wd D A tys w s H0 H locs) {i : Nat} (hi : i < L) {v : Int32} (hv : xs i = v) (hdg : decode cc pc = .ok (.iaload, 1))
    (kk : W p l e R s m args below meth c H locs cells slots Q (F0 m (pc + 1) ls (.int v :: rest))) : W p l e R s m args below meth c H locs cells slots Q (F0 m pc ls (.int (nI i) :: .ref b :: rest)) := by
  refine va_sld hx hb hX hbl hbA hw.2.2.2 (vp_in_nI hi (by omega)) hdg ?_
  rw [nI_clamp (by omega), hv]
  exact kk
theorem r_slen (hx : p.tables.exec = Jvm.exec) (hb : c.code = cc) (hX : va_X b L xs s H0) (hbl : b < H0.size) (hbA : ¬ A b) (hw : Wd D A tys w s H0 H locs) (hdg : decode cc pc = .ok (.arraylength, 1))
    (kk : W p l e R s m args below meth c H locs cells slots Q (F0 m (pc + 1) ls (.int (nI L) :: rest))) : W p l e R s m args below meth c H locs cells slots Q (F0 m pc ls (.ref b :: rest)) := va_slen hx hb hX hbl hbA hw.2.2.2 hdg kk
theorem lg_cmp0 (x : Int64) : lg_cmp x x = nI 0 := by
  rw [nI_0]
  simp [lg_cmp]
theorem r_lcmpE (hx : p.tables.exec = Jvm.exec) (hb : c.code = cc) {x y : Int64} (h : x = y) (hdg : decode cc pc = .ok (.lcmp, 1))
    (kk : W p l e R s m args below meth c H locs cells slots Q (F0 m (pc + 1) ls (.int (nI 0) :: rest))) : W p l e R s m args below meth c H locs cells slots Q (F0 m pc ls (.long y :: .long x :: rest)) := by
  subst h
  refine W.lcmp hx hb hdg ?_
  rw [lg_cmp0]
  exact kk
theorem r_dcmpE (hx : p.tables.exec = Jvm.exec) (hb : c.code = cc) {x y : UInt64} (h : x = y) (hn : FP.Core.dIsNaN y = false) (hdg : decode cc pc = .ok (.dcmp .l, 1))
    (kk : W p l e R s m args below meth c H locs cells slots Q (F0 m (pc + 1) ls (.int (nI 0) :: rest))) : W p l e R s m args below meth c H locs cells slots Q (F0 m pc ls (.double y :: .double x :: rest)) := by
  subst h
  refine lv_dcmp hx hb hdg ?_
  rw [fl_cmp hn, ← nI_0]
  exact kk
theorem r_out (hx : p.tables.exec = Jvm.exec) (hb : c.code = cc) (hw : Wd D A tys w s H0 H locs) (q0 t0 : Nat) {a : Nat} {cA : ClassId} {f : Nat → Int64} {x : Int64} (ha : w[q0]? = some (a, .inl (cA, 1, .inr (.inl (vp_updL f 0 x))))) (ht : tys[t0]? = some (cA, .long)) (hdg : decode cc pc = .ok (.laload, 1))
    (kk : W p l e R s m args below meth c H locs cells slots Q (F0 m (pc + 1) ls (.long x :: rest))) : W p l e R s m args below meth c H locs cells slots Q (F0 m pc ls (.int (nI 0) :: .ref a :: rest)) := by
  refine r_lald hx hb hw.q q0 t0 ha ht (i := 0) (by decide) (by decide) hdg ?_
  rw [show vp_updL f 0 x 0 = x from if_pos rfl]
  exact kk
theorem r_outD (hx : p.tables.exec = Jvm.exec) (hb : c.code = cc) (hw : Wd D A tys w s H0 H locs) (q0 t0 : Nat) {a : Nat} {cA : ClassId} {f : Nat → UInt64} {x : UInt64} (ha : w[q0]? = some (a, .inl (cA, 1, .inr (.inr (.inr (.inl f)))))) (ht : tys[t0]? = some (cA, .double)) (hf : f 0 = x) (hdg : decode cc pc = .ok (.daload, 1))
    (kk : W p l e R s m args below meth c H locs cells slots Q (F0 m (pc + 1) ls (.double x :: rest))) : W p l e R s m args below meth c H locs cells slots Q (F0 m pc ls (.int (nI 0) :: .ref a :: rest)) := by
  refine r_dald hx hb hw.q q0 t0 ha ht (i := 0) (by decide) (by decide) hdg ?_
  rw [hf]
  exact kk
theorem r_newL (hx : p.tables.exec = Jvm.exec) (hb : c.code = cc) (harr : (Cond.arrayClass .long).before args s = true) (hw : Wd D A tys w s H0 H locs) (hA : ∀ q, H0.size ≤ q → A q) {n : Nat} (hn : n ≤ 100000) (hcells : cells + 1 ≤ R.cells) (hslots : slots + n ≤ R.slots) (hdg : decode cc pc = .ok (.newarray .long, 2))
    (kk : ∀ (q : Nat) (cJ : ClassId) (H1 : Heap) (locs1 : List Loc), Wd D A (tys ++ [(cJ, .long)]) (w ++ [(q, .inl (cJ, n, .inr (.inl (fun _ => 0))))]) s H0 H1 locs1 → W p l e R s m args below meth c H1 locs1 (cells + 1) (slots + n) Q (F0 m (pc + 2) ls (.ref q :: rest))) : W p l e R s m args below meth c H locs cells slots Q (F0 m pc ls (.int (nI n) :: rest)) := by
  refine va_newa (atype := .long) (ty := .long) (a0 := (n, .inr (.inl (fun _ => 0)))) hx hb harr rfl hw.1 hw.2.1 hw.2.2.1 hw.2.2.2 hA (fun _ => rfl) (nI_pos (by omega)) (nI_clamp (by omega)) (by show n * 8 ≤ _; omega) hcells hslots hdg (fun q cA H1 hK h1 h2 h3 => ?_)
  exact kk q cA H1 _ ⟨hK, h1, h2, h3⟩
theorem r_newD (hx : p.tables.exec = Jvm.exec) (hb : c.code = cc) (harr : (Cond.arrayClass .double).before args s = true) (hw : Wd D A tys w s H0 H locs) (hA : ∀ q, H0.size ≤ q → A q) {n : Nat} (hn : n ≤ 100000) (hcells : cells + 1 ≤ R.cells) (hslots : slots + n ≤ R.slots) (hdg : decode cc pc = .ok (.newarray .double, 2))
    (kk : ∀ (q : Nat) (cD : ClassId) (H1 : Heap) (locs1 : List Loc), Wd D A (tys ++ [(cD, .double)]) (w ++ [(q, .inl (cD, n, .inr (.inr (.inr (.inl (fun _ => 0))))))]) s H0 H1 locs1 → W p l e R s m args below meth c H1 locs1 (cells + 1) (slots + n) Q (F0 m (pc + 2) ls (.ref q :: rest))) : W p l e R s m args below meth c H locs cells slots Q (F0 m pc ls (.int (nI n) :: rest)) := by
  refine va_newa (atype := .double) (ty := .double) (a0 := (n, .inr (.inr (.inr (.inl (fun _ => 0)))))) hx hb harr rfl hw.1 hw.2.1 hw.2.2.1 hw.2.2.2 hA (fun _ => rfl) (nI_pos (by omega)) (nI_clamp (by omega)) (by show n * 8 ≤ _; omega) hcells hslots hdg (fun q cA H1 hK h1 h2 h3 => ?_)
  exact kk q cA H1 _ ⟨hK, h1, h2, h3⟩
/-- is the script at its end? -/
theorem sc_gt {i L : Nat} (hi : i < 100000) (hL : L ≤ 2560) : nI i > nI L - nI 5 ↔ L < i + 5 := by
  by_cases h : 5 ≤ L
  · rw [Int32.sub_eq_add_neg, pk_subm h]
    exact (nI_ltI (by omega) (by omega)).trans ⟨fun z => by omega, fun z => by omega⟩
  · have e : nI L - nI 5 < 0 := by
      have : L = 0 ∨ L = 1 ∨ L = 2 ∨ L = 3 ∨ L = 4 := by omega
      rcases this with rfl | rfl | rfl | rfl | rfl <;> decide
    exact ⟨fun _ => by omega, fun _ => Int32.lt_of_lt_of_le e (Int32.not_lt.mp (nI_pos (by omega)))⟩
end LR
/-! the law: one call of the script -/
/-- what the whole walk of the law stands on -/
def LF (p : Program) (l : Launch) (s : State) (m : MethodId) (c : Code) (args : Array Value) (A : Nat → Prop) (b L : Nat) (xs : Nat → Int32) : Prop := CallFix p m c cL_law 10 s args wsL_law RL ∧ XN s ∧ XE s ∧ ZQ A s s.heap ∧ l.stackTraces = false ∧ (∀ q, s.heap.size ≤ q → A q) ∧ va_X b L xs s s.heap ∧ b < s.heap.size ∧ ¬ A b ∧ L ≤ 2560
