/-! rows: copies, new arrays, new objects -/
theorem cell_cg {c0 : ClassId} {n : Nat} {f g : Nat → Int32} (h : ∀ i, i < n → f i = g i) : vp_cell c0 (n, .inl f) = vp_cell c0 (n, .inl g) := by
  have e : (fun j : Fin n => Value.int (f j.val)) = (fun j : Fin n => Value.int (g j.val)) := funext fun j => by rw [h j.val j.isLt]
  show ({ cls := c0, slots := Array.ofFn (n := n) fun j => Value.int (f j.val), vm := .none } : Cell) = { cls := c0, slots := Array.ofFn (n := n) fun j => Value.int (g j.val), vm := .none }
  rw [e]
section NR
variable {p : Program} {l : Launch} {e : Env} {R : Room} {s : State} {m : MethodId} {args : Array Value} {below : List Frame} {meth : Method} {c : Code} {H H0 : Heap} {locs : List Loc} {cells slots : Nat} {Q : State → Prop}
variable {cc : ByteArray} {pc : Nat} {ls : Array Slot} {rest : List Value} {D : va_G} {A : Nat → Prop} {tys : List (ClassId × FieldType)} {ws : va_W} {Ts : List Cond} {own : String} {index : Nat}
theorem Wd.cg (hw : Wd D A tys ws s H0 H locs) (q0 : Nat) {a : Nat} {c0 : ClassId} {n : Nat} {f g : Nat → Int32} (he : ws[q0]? = some (a, .inl (c0, n, .inl f))) (h : ∀ i, i < n → f i = g i) : Wd D A tys (ws.set q0 (a, .inl (c0, n, .inl g))) s H0 H locs := by
  refine ⟨hw.1, va_P.set hw.2.1 hw.2.2.1 he ?_ (fun _ _ => rfl), hw.2.2.1.set he, hw.2.2.2⟩
  show H[a]? = some (vp_cell c0 (n, .inl g))
  rw [← cell_cg h]
  exact hw.2.1 q0 _ he
theorem set_self {α : Type} {L : List α} {k : Nat} {x y : α} (h : L[k]? = some x) : (L.set k y)[k]? = some y := by
  rw [List.getElem?_set_self (List.getElem?_eq_some_iff.mp h).1]
theorem r_copy (hx : p.tables.exec = Jvm.exec) (hb : c.code = cc) (hml : c.maxLocals = ls.size) (hown : s.vm.findClass own = some m.cls) (hlink : (Cond.methodLink own index arraycopyName).before args s = true) (hnat : (Cond.native arraycopyName).before args s = true) (hstat : (Cond.static arraycopyName).before args s = true) (hini : (Cond.initialized "java/lang/System").before args s = true)
    (hw : Wd D A tys ws s H0 H locs) (q0 q1 t0 : Nat) {a0 a1 : Nat} {c0 : ClassId} {n : Nat} {f g : Nat → Int32} (ha0 : ws[q0]? = some (a0, .inl (c0, n, .inl f))) (ha1 : ws[q1]? = some (a1, .inl (c0, n, .inl g))) (ht : tys[t0]? = some (c0, .int)) (hn : n < 2 ^ 31)
    (hframes : 1 ≤ R.frames) (hlocals : (rest.map fun v => v.category).sum + (nativeFrameWords "java/lang/System" "arraycopy" 5 + 11) ≤ R.locals) (hdg : decode cc pc = .ok (.invokestatic index, 3))
    (kk : ∀ (H1 : Heap) (locs1 : List Loc), Wd D A tys (ws.set q1 (a1, .inl (c0, n, .inl f))) s H0 H1 locs1 → W p l e R s m args below meth c H1 locs1 cells slots Q (F0 m (pc + 3) ls rest)) : W p l e R s m args below meth c H locs cells slots Q (F0 m pc ls (.int (nI n) :: .int (nI 0) :: .ref a1 :: .int (nI 0) :: .ref a0 :: rest)) := by
  have z0 : (nI 0).toNatClampNeg = 0 := nI_clamp (by decide)
  have zn : (nI n).toNatClampNeg = n := nI_clamp hn
  refine va_copyi hx hb hml hown hlink hnat hstat hini hw.1 hw.2.1 hw.2.2.1 hw.2.2.2 q0 q1 t0 t0 ha0 ha1 ht ht rfl (nI_pos (by decide)) (nI_pos (by decide)) (nI_pos hn) (by rw [z0, zn]; omega) (by rw [z0, zn]; omega) (fun _ _ => rfl) hframes hlocals hdg (fun H1 l1 h1 h2 h3 => ?_)
  rw [z0, zn] at h1 h2
  have hv : Wd D A tys _ s H0 H1 l1 := ⟨hw.1, h1, h2, h3⟩
  have hz := hv.cg q1 (g := f) (set_self ha1) (fun i hi => by
    show (if 0 ≤ i ∧ i < 0 + n then f (0 + (i - 0)) else g i) = f i
    rw [if_pos ⟨Nat.zero_le _, by omega⟩, show 0 + (i - 0) = i by omega])
  rw [List.set_set] at hz
  exact kk H1 l1 hz
theorem cls_int {tysX : List (ClassId × FieldType)} {cA cI : ClassId} (hK : va_K D vwCl (tys ++ [(cA, .int)]) s) (t0 : Nat) (ht : tys[t0]? = some (cI, .int)) : cA = cI := by
  have h1 := hK.2 t0 (cI, .int) (by rw [List.getElem?_append_left (List.getElem?_eq_some_iff.mp ht).1]; exact ht)
  have h2 := hK.2 tys.length (cA, .int) (by rw [List.getElem?_append_right (Nat.le_refl _), Nat.sub_self]; rfl)
  exact Option.some.inj ((va_nm_int h2.2).symm.trans (va_nm_int h1.2))
theorem r_newI (hx : p.tables.exec = Jvm.exec) (hb : c.code = cc) (harr : (Cond.arrayClass .int).before args s = true) (hw : Wd D A tys ws s H0 H locs) (hA : ∀ q, H0.size ≤ q → A q) (t0 : Nat) {cI : ClassId} (ht : tys[t0]? = some (cI, .int)) {n : Nat} (hn : n ≤ 100000) (hcells : cells + 1 ≤ R.cells) (hslots : slots + n ≤ R.slots) (hdg : decode cc pc = .ok (.newarray .int, 2))
    (kk : ∀ (q : Nat) (H1 : Heap) (locs1 : List Loc), Wd D A tys (ws ++ [(q, .inl (cI, n, .inl (fun _ => 0)))]) s H0 H1 locs1 → W p l e R s m args below meth c H1 locs1 (cells + 1) (slots + n) Q (F0 m (pc + 2) ls (.ref q :: rest))) : W p l e R s m args below meth c H locs cells slots Q (F0 m pc ls (.int (nI n) :: rest)) := by
  refine va_newa (atype := .int) (ty := .int) (a0 := (n, .inl (fun _ => 0))) hx hb harr rfl hw.1 hw.2.1 hw.2.2.1 hw.2.2.2 hA (fun _ => rfl) (nI_pos (by omega)) (nI_clamp (by omega)) (by show n * 4 ≤ _; omega) hcells hslots hdg (fun q cA H1 hK h1 h2 h3 => ?_)
  have hc : cA = cI := cls_int (tysX := []) hK t0 ht
  subst hc
  exact kk q H1 _ ⟨hw.1, h1, h2, h3⟩
theorem r_newC (hx : p.tables.exec = Jvm.exec) (hb : c.code = cc) (harr : (Cond.arrayClass .char).before args s = true) (hw : Wd D A tys ws s H0 H locs) (hA : ∀ q, H0.size ≤ q → A q) {n : Nat} (hn : n ≤ 100000) (hcells : cells + 1 ≤ R.cells) (hslots : slots + n ≤ R.slots) (hdg : decode cc pc = .ok (.newarray .char, 2))
    (kk : ∀ (q : Nat) (cC : ClassId) (H1 : Heap) (locs1 : List Loc), Wd D A (tys ++ [(cC, .char)]) (ws ++ [(q, .inl (cC, n, .inl (fun _ => nI 0)))]) s H0 H1 locs1 → W p l e R s m args below meth c H1 locs1 (cells + 1) (slots + n) Q (F0 m (pc + 2) ls (.ref q :: rest))) : W p l e R s m args below meth c H locs cells slots Q (F0 m pc ls (.int (nI n) :: rest)) := by
  refine va_newa (atype := .char) (ty := .char) (a0 := (n, .inl (fun _ => nI 0))) hx hb harr rfl hw.1 hw.2.1 hw.2.2.1 hw.2.2.2 hA (fun _ => rfl) (nI_pos (by omega)) (nI_clamp (by omega)) (by show n * 2 ≤ _; omega) hcells hslots hdg (fun q cA H1 hK h1 h2 h3 => ?_)
  exact kk q cA H1 _ ⟨hK, h1, h2, h3⟩
end NR
/-- seven addresses -/
def ad7 (a b d e f g h : Nat) : Nat → Nat
  | 0 => a | 1 => b | 2 => d | 3 => e | 4 => f | 5 => g | _ => h
/-- a new state -/
abbrev st0 : St := (fun _ => 0, fun _ => 0, fun _ => 0, fun _ => 0, fun _ => 0, upd (upd (upd (upd (fun _ => 0) 0 (-1)) 1 (-1)) 2 (-1)) 3 (-1))
