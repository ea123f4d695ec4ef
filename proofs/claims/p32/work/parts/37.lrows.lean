/-! the law: rows and kinds of contract of its own methods -/
section MX2
variable {l : Launch} {own : String} {y : MethodName} {ws ws' : List Cond} {rm : Room} {cc : ByteArray} {maxL : Nat} {D : va_G} {tys : List (ClassId × FieldType)} {w0 : va_W} {av : List Value}
abbrev MXl {S : Type} (l : Launch) (y : MethodName) (ws : List Cond) (rm : Room) (av : List Value) (D : va_G) (tys : List (ClassId × FieldType)) (w0 : va_W) (sz : Nat) (post : Int64 → S → Prop) (tys1 : S → List (ClassId × FieldType)) (w1 : S → va_W) (mc ms : Nat) : Prop := Met l y ws rm (va_Pc av (Bx D tys w0 sz)) (va_Ql post (fun u => Bo D (va_A w0 sz) (tys1 u) (w1 u)) (va_A w0 sz)) mc ms (va_A w0 sz)
theorem met_xl {S : Type} {sz : Nat} {post : Int64 → S → Prop} {tys1 : S → List (ClassId × FieldType)} {w1 : S → va_W} {mc ms : Nat} (hy : plainName y.cls = true) (hoy : y.cls = own) (hw : ws = Cond.code y cc maxL (some .long) :: ws') (hlen : (lg_sl av).length ≤ maxL)
    (body : ∀ {p : Program} {e : Env} {s : State} {m : MethodId} {args : Array Value} {below : List Frame} {meth : Method} {c : Code} {Q : State → Prop} {A : Nat → Prop}, s.heap.size = sz → CallFix p m c cc maxL s args ws own → XN s → Wd D A tys w0 s s.heap s.heap [] → (∀ q, s.heap.size ≤ q → A q) →
      (∀ {pc : Nat} {ls : Array Slot} {v : Int64} {H : Heap} {locs : List Loc} {cells slots : Nat} (u : S), decode cc pc = .ok (.lreturn, 1) → cells ≤ mc → slots ≤ ms → Wd D A (tys1 u) (w1 u) s s.heap H locs → post v u → W p l e rm s m args below meth c H locs cells slots Q (F0 m pc ls [.long v])) →
      ∀ ls : Array Slot, lv_has ls maxL (lv_args 0 av) → W p l e rm s m args below meth c s.heap [] 0 0 Q (F0 m 0 ls [])) : MXl l y ws rm av D tys w0 sz post tys1 w1 mc ms := by
  refine Met.ofW (cc := cc) (maxL := maxL) (ret := some .long) hy hw ?_
  intro p e s m args below meth c s₁ B hml hv
  obtain ⟨rfl, hz, hsz, hP, hK, hD0⟩ := hv
  have hb := B.bytes
  have hlocks := B.notSynchronized
  rw [lg_entry_eq]
  subst hsz
  refine body (Q := MQ below (va_Ql post (fun u => Bo D (va_A w0 s.heap.size) (tys1 u) (w1 u)) (va_A w0 s.heap.size)) av.toArray s mc ms (va_A w0 s.heap.size)) (A := va_A w0 s.heap.size) rfl ⟨B.exec, B.bytes, hml, by rw [← hoy]; exact findClass_of_methodNamed B.named, atoms_spec (ws := ws) B.pre⟩ hz ⟨hK, hP, hD0.self, va_S.rf⟩ (fun q h => Or.inr h) ?_ _ (lv_entry av hlen)
  intro pc ls v H locs cells slots u hd hc hs hw hp
  refine W.widen hc hs ?_
  exact W.lret B.exec hb B.returns (fun t ht hW => ⟨⟨v, u, rfl, hp, by rw [ht]; exact hw.2.1, va_K.moved hW.alike hw.1, hw.2.2.1⟩, hw.2.2.2.F ht⟩) hw.2.2.2.2.2 hd hlocks
/-- a contract that reads the script alone -/
abbrev MSi (l : Launch) (y : MethodName) (ws : List Cond) (rm : Room) (av : List Value) (b L : Nat) (xs : Nat → Int32) (post : Int32 → Prop) : Prop := Met l y ws rm (va_Pc av (fun U => va_X b L xs U U.heap ∧ b < U.heap.size)) (vp_Si post) 0 0 (fun _ => False)
theorem fb_c {b L : Nat} {xs : Nat → Int32} : FrameBlind (va_Pc av (fun U => va_X b L xs U U.heap ∧ b < U.heap.size)) := fun a U g mk q => by
  obtain ⟨h0, h1, h2⟩ := q
  exact ⟨h0, va_X.moved (u := U) (U := U.calling g mk a) (Vm.Alike.refl U.vm) h1, h2⟩
theorem met_s {ty : FieldType} {b L : Nat} {xs : Nat → Int32} {post : Int32 → Prop} (hy : plainName y.cls = true) (hoy : y.cls = own) (hw : ws = Cond.code y cc maxL (some ty) :: ws') (hlen : (lg_sl av).length ≤ maxL)
    (body : ∀ {p : Program} {e : Env} {s : State} {m : MethodId} {args : Array Value} {below : List Frame} {meth : Method} {c : Code} {Q : State → Prop}, CallFix p m c cc maxL s args ws own → va_X b L xs s s.heap → b < s.heap.size →
      (∀ {pc : Nat} {ls : Array Slot} {v : Int32}, decode cc pc = .ok (.ireturn, 1) → narrow ty (.int v) = .int v → post v → W p l e rm s m args below meth c s.heap [] 0 0 Q (F0 m pc ls [.int v])) →
      ∀ ls : Array Slot, lv_has ls maxL (lv_args 0 av) → W p l e rm s m args below meth c s.heap [] 0 0 Q (F0 m 0 ls [])) : MSi l y ws rm av b L xs post := by
  refine Met.ofW (cc := cc) (maxL := maxL) (ret := some ty) hy hw ?_
  intro p e s m args below meth c s₁ B hml hv
  obtain ⟨rfl, hX, hbl⟩ := hv
  have hb := B.bytes
  have hlocks := B.notSynchronized
  rw [lg_entry_eq]
  refine body (Q := MQ below (vp_Si post) av.toArray s 0 0 (fun _ => False)) ⟨B.exec, B.bytes, hml, by rw [← hoy]; exact findClass_of_methodNamed B.named, atoms_spec (ws := ws) B.pre⟩ hX hbl ?_ _ (lv_entry av hlen)
  intro pc ls v hd hn hp
  exact W.zret B.exec hb B.returns hn (fun t ht hW => ⟨v, rfl, hp, ht⟩) (fun _ h => by cases h) hd hlocks
end MX2
section CZ2
variable {p : Program} {l : Launch} {e : Env} {R : Room} {s : State} {m : MethodId} {args : Array Value} {below : List Frame} {meth : Method} {c : Code} {H H0 : Heap} {locs : List Loc} {cells slots : Nat} {Q : State → Prop}
variable {cc bytes : ByteArray} {pc : Nat} {ls : Array Slot} {rest As : List Value} {D : va_G} {A : Nat → Prop} {tys tysC : List (ClassId × FieldType)} {w X wc wr tail : va_W} {Ts ws : List Cond} {own C host : String} {nL maxL n index mc ms b : Nat} {y : MethodName} {ret : Option FieldType} {rm : Room}
theorem cps_i {S1 : Type} {post : Int32 → S1 → Prop} {tys1 : S1 → List (ClassId × FieldType)} {w1 pl : S1 → va_W} (S : CallFix p m c cc nL s args Ts own) (hz : XN s) (hM : MXi l y ws rm As D tysC (wc ++ tail) H.size post tys1 (fun u => w1 u ++ pl u) mc ms) (cw : CallB R s args own index y bytes maxL ret ws rm mc ms n ∧ (Cond.static y).before args s = true) (hw : Wd D A tys (X ++ tail) s H0 H locs) (hA : ∀ q, H0.size ≤ q → A q) (isC isR tC : List Nat) (hC : isC.map (fun i => X[i]?) = wc.map some) (hR : isR.map (fun i => X[i]?) = wr.map some) {k0 : Nat} (hk0 : X.length = k0) (hpp : (isC ++ isR).Perm (List.range k0)) (htC : tC.filterMap (fun i => tys[i]?) = tysC) (hn : As.length = n) (hsize : ls.size = nL) (hW : (rest.map fun v => v.category).sum ≤ 8) (hf : cells + mc ≤ R.cells ∧ slots + ms ≤ R.slots) {st : List Value} (hst : st = As.reverse ++ rest) (hdg : decode cc pc = .ok (.invokestatic index, 3))
    (kk : ∀ (r : Int32) (u : S1) (H1 : Heap) (locs1 : List Loc), post r u → Wd D A tys ((w1 u ++ wr) ++ pl u) s H0 H1 locs1 → W p l e R s m args below meth c H1 locs1 (cells + mc) (slots + ms) Q (F0 m (pc + 3) ls (.int r :: rest))) : W p l e R s m args below meth c H locs cells slots Q (F0 m pc ls st) := by
  have hp : (X ++ tail).Perm ((wc ++ tail) ++ wr) := by
    refine ((perm_pick isC isR hC hR (by rw [hk0]; exact hpp)).append_right _).trans ?_
    rw [List.append_assoc, List.append_assoc]
    exact List.perm_append_comm.append_left _
  have hqc := hw.part hp tC htC
  have hFc := hw.free hA hp
  refine va_calli (va_runS S hM cw ⟨fb_x, fun U hU hW => ⟨rfl, XN.warm hW hz, by rw [hU], by rw [hU]; exact hqc.2.1, va_K.moved hW.alike hqc.1, hqc.2.2.1.weaken (fun _ _ _ _ => trivial)⟩⟩ rfl hn hsize hst (lv_room (m := m) (pc := 0) (ls := ls) (rest := []) hW) hdg hf) hw.2.2.2 (fun q _ h => hFc q h) hFc ?_
  intro r u t H1 locs1 ht hvm hpo hB hz1 hk hS1
  have hj := hw.join hA hp ht hB hk hS1
  refine kk r u H1 locs1 hpo (hj.perm ?_)
  rw [List.append_assoc, List.append_assoc]
  exact List.perm_append_comm.append_left _
theorem cps_l {S1 : Type} {post : Int64 → S1 → Prop} {tys1 : S1 → List (ClassId × FieldType)} {w1 pl : S1 → va_W} (S : CallFix p m c cc nL s args Ts own) (hz : XN s) (hM : MXl l y ws rm As D tysC (wc ++ tail) H.size post tys1 (fun u => w1 u ++ pl u) mc ms) (cw : CallB R s args own index y bytes maxL ret ws rm mc ms n ∧ (Cond.static y).before args s = true) (hw : Wd D A tys (X ++ tail) s H0 H locs) (hA : ∀ q, H0.size ≤ q → A q) (isC isR tC : List Nat) (hC : isC.map (fun i => X[i]?) = wc.map some) (hR : isR.map (fun i => X[i]?) = wr.map some) {k0 : Nat} (hk0 : X.length = k0) (hpp : (isC ++ isR).Perm (List.range k0)) (htC : tC.filterMap (fun i => tys[i]?) = tysC) (hn : As.length = n) (hsize : ls.size = nL) (hW : (rest.map fun v => v.category).sum ≤ 8) (hf : cells + mc ≤ R.cells ∧ slots + ms ≤ R.slots) {st : List Value} (hst : st = As.reverse ++ rest) (hdg : decode cc pc = .ok (.invokestatic index, 3))
    (kk : ∀ (r : Int64) (u : S1) (H1 : Heap) (locs1 : List Loc), post r u → Wd D A tys ((w1 u ++ wr) ++ pl u) s H0 H1 locs1 → W p l e R s m args below meth c H1 locs1 (cells + mc) (slots + ms) Q (F0 m (pc + 3) ls (.long r :: rest))) : W p l e R s m args below meth c H locs cells slots Q (F0 m pc ls st) := by
  have hp : (X ++ tail).Perm ((wc ++ tail) ++ wr) := by
    refine ((perm_pick isC isR hC hR (by rw [hk0]; exact hpp)).append_right _).trans ?_
    rw [List.append_assoc, List.append_assoc]
    exact List.perm_append_comm.append_left _
  have hqc := hw.part hp tC htC
  have hFc := hw.free hA hp
  refine va_calll (va_runS S hM cw ⟨fb_x, fun U hU hW => ⟨rfl, XN.warm hW hz, by rw [hU], by rw [hU]; exact hqc.2.1, va_K.moved hW.alike hqc.1, hqc.2.2.1.weaken (fun _ _ _ _ => trivial)⟩⟩ rfl hn hsize hst (lv_room (m := m) (pc := 0) (ls := ls) (rest := []) hW) hdg hf) hw.2.2.2 (fun q _ h => hFc q h) hFc ?_
  intro r u t H1 locs1 ht hvm hpo hB hz1 hk hS1
  have hj := hw.join hA hp ht hB hk hS1
  refine kk r u H1 locs1 hpo (hj.perm ?_)
  rw [List.append_assoc, List.append_assoc]
  exact List.perm_append_comm.append_left _
theorem cs_S {xs : Nat → Int32} {L : Nat} {post : Int32 → Prop} (S : CallFix p m c cc nL s args Ts own) (hM : MSi l y ws rm As b L xs post) (cw : CallB R s args own index y bytes maxL ret ws rm 0 0 n ∧ (Cond.static y).before args s = true) (hX : va_X b L xs s H0) (hbl : b < H0.size) (hbA : ¬ A b) (hS : va_S A H0 H locs) (hn : As.length = n) (hsize : ls.size = nL) (hW : (rest.map fun v => v.category).sum ≤ 8) (hf : cells ≤ R.cells ∧ slots ≤ R.slots) {st : List Value} (hst : st = As.reverse ++ rest) (hdg : decode cc pc = .ok (.invokestatic index, 3))
    (kk : ∀ r : Int32, post r → W p l e R s m args below meth c H locs cells slots Q (F0 m (pc + 3) ls (.int r :: rest))) : W p l e R s m args below meth c H locs cells slots Q (F0 m pc ls st) :=
  vp_callSi (W.runS S hM cw ⟨fb_c, fun U hU hW => ⟨rfl, va_X.moved hW.alike (by rw [hU]; exact hX.kept (hS.2.1 b hbl hbA)), by rw [hU]; exact Nat.lt_of_lt_of_le hbl hS.1⟩⟩ rfl hn hsize hst (lv_room (m := m) (pc := 0) (ls := ls) (rest := []) hW) hdg ⟨hf.1, hf.2⟩) kk
theorem lg_cmp0 (x : Int64) : lg_cmp x x = nI 0 := by
  rw [nI_0]
  simp [lg_cmp]
theorem r_lcmpE (hx : p.tables.exec = Jvm.exec) (hb : c.code = cc) {x y : Int64} (h : x = y) (hdg : decode cc pc = .ok (.lcmp, 1))
    (kk : W p l e R s m args below meth c H locs cells slots Q (F0 m (pc + 1) ls (.int (nI 0) :: rest))) : W p l e R s m args below meth c H locs cells slots Q (F0 m pc ls (.long y :: .long x :: rest)) := by
  subst h
  refine W.lcmp hx hb hdg ?_
  rw [lg_cmp0]
  exact kk
end CZ2
