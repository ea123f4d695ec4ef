/-! contracts with the links between the nest's classes -/
def XL : List Cond := [.fieldLinkNest "CausalTable" 152 "CausalTable$State" "clocks" "[I" "CausalTable", .fieldLinkNest "CausalTable" 166 "CausalTable$State" "mergeResult" "[I" "CausalTable", .fieldLinkNest "CausalTable" 118 "CausalTable$History" "size" "I" "CausalTable", .fieldLinkNest "CausalTable" 118 "CausalTable$History" "size" "I" "CausalTable", .fieldLinkNest "CausalTable" 118 "CausalTable$History" "size" "I" "CausalTable", .fieldLinkNest "CausalTable" 118 "CausalTable$History" "size" "I" "CausalTable", .fieldLinkNest "CausalTable" 118 "CausalTable$History" "size" "I" "CausalTable", .fieldLinkNest "CausalTable" 118 "CausalTable$History" "size" "I" "CausalTable",
  .methodLinkNest "CausalTable" 9 yX1_init "CausalTable", .methodLinkNest "CausalTable" 18 yX0_init "CausalTable", .methodLinkNest "CausalTable" 25 yX2_init "CausalTable", .methodLinkNest "CausalTable$History" 24 yX1_init "CausalTable"]
def XN (U : State) : Prop := va_AO "CausalTable$State" U ∧ ∀ w ∈ XL, va_Nw w U
theorem XL_on : ∀ w ∈ XL, w.onTables = true := by decide
theorem XN.same {u U : State} (h : u.vm = U.vm) (hz : XN u) : XN U := ⟨va_AO.moved (by rw [h]; exact Vm.Alike.refl _) hz.1, fun w hw => va_Nw.same (XL_on w hw) h (hz.2 w hw)⟩
theorem XN.warm {s U : State} (hW : s.WarmedH U.vm) (hz : XN s) : XN U := by
  refine ⟨va_AO.moved hW.alike hz.1, fun w hw => ?_⟩
  have h := hz.2 w hw
  simp only [XL, List.mem_cons, List.not_mem_nil, or_false] at hw
  rcases hw with rfl | rfl | rfl | rfl | rfl | rfl | rfl | rfl | rfl | rfl | rfl | rfl
  · exact va_Nw.warmF hW h
  · exact va_Nw.warmF hW h
  · exact va_Nw.warmF hW h
  · exact va_Nw.warmF hW h
  · exact va_Nw.warmF hW h
  · exact va_Nw.warmF hW h
  · exact va_Nw.warmF hW h
  · exact va_Nw.warmF hW h
  · exact va_Nw.warmM hW h
  · exact va_Nw.warmM hW h
  · exact va_Nw.warmM hW h
  · exact va_Nw.warmM hW h
theorem XN.at {U : State} (hz : XN U) {args : Array Value} (k : Nat) {w : Cond} (hk : XL[k]? = some w) : w.before args U = true := va_Nw.use (XL_on w (List.mem_of_getElem? hk)) (hz.2 w (List.mem_of_getElem? hk))
def Bx (D : va_G) (tys : List (ClassId × FieldType)) (ws : va_W) (sz : Nat) : State → Prop := fun U => XN U ∧ Bs D tys ws sz U
abbrev MXi {S : Type} (l : Launch) (y : MethodName) (ws : List Cond) (rm : Room) (av : List Value) (D : va_G) (tys : List (ClassId × FieldType)) (w0 : va_W) (sz : Nat) (post : Int32 → S → Prop) (tys1 : S → List (ClassId × FieldType)) (w1 : S → va_W) (mc ms : Nat) : Prop := Met l y ws rm (va_Pc av (Bx D tys w0 sz)) (va_Qi post (fun u => Bo D (va_A w0 sz) (tys1 u) (w1 u)) (va_A w0 sz)) mc ms (va_A w0 sz)
abbrev MXv {S : Type} (l : Launch) (y : MethodName) (ws : List Cond) (rm : Room) (av : List Value) (D : va_G) (tys : List (ClassId × FieldType)) (w0 : va_W) (sz : Nat) (post : S → Prop) (tys1 : S → List (ClassId × FieldType)) (w1 : S → va_W) (mc ms : Nat) : Prop := Met l y ws rm (va_Pc av (Bx D tys w0 sz)) (va_Qv post (fun u => Bo D (va_A w0 sz) (tys1 u) (w1 u)) (va_A w0 sz)) mc ms (va_A w0 sz)
theorem fb_x {av : List Value} {D : va_G} {tys : List (ClassId × FieldType)} {ws : va_W} {sz : Nat} : FrameBlind (va_Pc av (Bx D tys ws sz)) := fun a U g mk q => by
  obtain ⟨h0, hz, h1, h2, h3, h4⟩ := q
  exact ⟨h0, XN.same (u := U) (U := U.calling g mk a) rfl hz, h1, h2, va_K.moved (u := U) (U := U.calling g mk a) (Vm.Alike.refl U.vm) h3, h4⟩
section MX
variable {l : Launch} {own : String} {y : MethodName} {ws ws' : List Cond} {rm : Room} {cc : ByteArray} {maxL : Nat} {D : va_G} {tys : List (ClassId × FieldType)} {w0 : va_W} {av : List Value}
theorem met_xu {S : Type} {ty : FieldType} {sz : Nat} {post : Int32 → S → Prop} {tys1 : S → List (ClassId × FieldType)} {w1 : S → va_W} {mc ms : Nat} (hy : plainName y.cls = true) (hoy : y.cls = own) (hw : ws = Cond.code y cc maxL (some ty) :: ws') (hlen : (lg_sl av).length ≤ maxL)
    (body : ∀ {p : Program} {e : Env} {s : State} {m : MethodId} {args : Array Value} {below : List Frame} {meth : Method} {c : Code} {Q : State → Prop} {A : Nat → Prop}, s.heap.size = sz → CallFix p m c cc maxL s args ws own → XN s → Wd D A tys w0 s s.heap s.heap [] → (∀ q, s.heap.size ≤ q → A q) →
      (∀ {pc : Nat} {ls : Array Slot} {v : Int32} {H : Heap} {locs : List Loc} {cells slots : Nat} (u : S), decode cc pc = .ok (.ireturn, 1) → narrow ty (.int v) = .int v → cells ≤ mc → slots ≤ ms → Wd D A (tys1 u) (w1 u) s s.heap H locs → post v u → W p l e rm s m args below meth c H locs cells slots Q (F0 m pc ls [.int v])) →
      ∀ ls : Array Slot, lv_has ls maxL (lv_args 0 av) → W p l e rm s m args below meth c s.heap [] 0 0 Q (F0 m 0 ls [])) : MXi l y ws rm av D tys w0 sz post tys1 w1 mc ms := by
  refine Met.ofW (cc := cc) (maxL := maxL) (ret := some ty) hy hw ?_
  intro p e s m args below meth c s₁ B hml hv
  obtain ⟨rfl, hz, hsz, hP, hK, hD0⟩ := hv
  have hb := B.bytes
  have hlocks := B.notSynchronized
  rw [lg_entry_eq]
  subst hsz
  refine body (Q := MQ below (va_Qi post (fun u => Bo D (va_A w0 s.heap.size) (tys1 u) (w1 u)) (va_A w0 s.heap.size)) av.toArray s mc ms (va_A w0 s.heap.size)) (A := va_A w0 s.heap.size) rfl ⟨B.exec, B.bytes, hml, by rw [← hoy]; exact findClass_of_methodNamed B.named, atoms_spec (ws := ws) B.pre⟩ hz ⟨hK, hP, hD0.self, va_S.rf⟩ (fun q h => Or.inr h) ?_ _ (lv_entry av hlen)
  intro pc ls v H locs cells slots u hd hn hc hs hw hp
  refine W.widen hc hs ?_
  exact W.zret B.exec hb B.returns hn (fun t ht hW => ⟨⟨v, u, rfl, hp, by rw [ht]; exact hw.2.1, va_K.moved hW.alike hw.1, hw.2.2.1⟩, hw.2.2.2.F ht⟩) hw.2.2.2.2.2 hd hlocks
theorem met_xv {S : Type} {sz : Nat} {post : S → Prop} {tys1 : S → List (ClassId × FieldType)} {w1 : S → va_W} {mc ms : Nat} (hy : plainName y.cls = true) (hoy : y.cls = own) (hw : ws = Cond.code y cc maxL none :: ws') (hlen : (lg_sl av).length ≤ maxL)
    (body : ∀ {p : Program} {e : Env} {s : State} {m : MethodId} {args : Array Value} {below : List Frame} {meth : Method} {c : Code} {Q : State → Prop} {A : Nat → Prop}, s.heap.size = sz → CallFix p m c cc maxL s args ws own → meth.name = y.name → XN s → Wd D A tys w0 s s.heap s.heap [] → (∀ q, s.heap.size ≤ q → A q) →
      (∀ {pc : Nat} {ls : Array Slot} {H : Heap} {locs : List Loc} {cells slots : Nat} (u : S), decode cc pc = .ok (.return_, 1) → cells ≤ mc → slots ≤ ms → Wd D A (tys1 u) (w1 u) s s.heap H locs → post u → W p l e rm s m args below meth c H locs cells slots Q (F0 m pc ls [])) →
      ∀ ls : Array Slot, lv_has ls maxL (lv_args 0 av) → W p l e rm s m args below meth c s.heap [] 0 0 Q (F0 m 0 ls [])) : MXv l y ws rm av D tys w0 sz post tys1 w1 mc ms := by
  refine Met.ofW (cc := cc) (maxL := maxL) (ret := none) hy hw ?_
  intro p e s m args below meth c s₁ B hml hv
  obtain ⟨rfl, hz, hsz, hP, hK, hD0⟩ := hv
  have hb := B.bytes
  have hlocks := B.notSynchronized
  rw [lg_entry_eq]
  subst hsz
  refine body (Q := MQ below (va_Qv post (fun u => Bo D (va_A w0 s.heap.size) (tys1 u) (w1 u)) (va_A w0 s.heap.size)) av.toArray s mc ms (va_A w0 s.heap.size)) (A := va_A w0 s.heap.size) rfl ⟨B.exec, B.bytes, hml, by rw [← hoy]; exact findClass_of_methodNamed B.named, atoms_spec (ws := ws) B.pre⟩ (name_of_methodNamed B.named B.method).1 hz ⟨hK, hP, hD0.self, va_S.rf⟩ (fun q h => Or.inr h) ?_ _ (lv_entry av hlen)
  intro pc ls H locs cells slots u hd hc hs hw hp
  refine W.widen hc hs ?_
  exact W.vret B.exec hb B.returns (fun t ht hW => ⟨⟨u, rfl, hp, by rw [ht]; exact hw.2.1, va_K.moved hW.alike hw.1, hw.2.2.1⟩, hw.2.2.2.F ht⟩) hw.2.2.2.2.2 hd hlocks
end MX
section CX
variable {p : Program} {l : Launch} {e : Env} {R : Room} {s : State} {m : MethodId} {args : Array Value} {below : List Frame} {meth : Method} {c : Code} {H H0 : Heap} {locs : List Loc} {cells slots : Nat} {Q : State → Prop}
variable {cc bytes : ByteArray} {pc : Nat} {ls : Array Slot} {rest As : List Value} {D : va_G} {A : Nat → Prop} {tys tysC : List (ClassId × FieldType)} {w wc wr : va_W} {Ts ws : List Cond} {own C host : String} {nL maxL n index mc ms b : Nat} {y : MethodName} {ret : Option FieldType} {rm : Room}
theorem cx_Vi {S1 : Type} {post : Int32 → S1 → Prop} {tys1 : S1 → List (ClassId × FieldType)} {w1 : S1 → va_W} (S : CallFix p m c cc nL s args Ts own) (hz : XN s) (hM : MXi l y ws rm (.ref b :: As) D tysC wc H.size post tys1 w1 mc ms) (cw : CallW R s args own C index y bytes maxL ret ws rm mc ms n) (hw : Wd D A tys w s H0 H locs) (hA : ∀ q, H0.size ≤ q → A q) (isC isR tC : List Nat) (hC : isC.map (fun i => w[i]?) = wc.map some) (hR : isR.map (fun i => w[i]?) = wr.map some) (htC : tC.filterMap (fun i => tys[i]?) = tysC) (hnC : va_nd isC = true) (hnR : va_nd isR = true) (hdis : ∀ i ∈ isR, i ∉ isC) (q0 : Nat) {ci N : Nat} {T : u_T} {fs : List Value} (hc : vwCl[ci]? = some (C, T, N)) (he : wc[q0]? = some (b, .inr (ci, fs))) (hn : As.length = n) (hsize : ls.size = nL) (hW : (rest.map fun v => v.category).sum ≤ 8) (hf : cells + mc ≤ R.cells ∧ slots + ms ≤ R.slots) {st : List Value} (hst : st = As.reverse ++ .ref b :: rest) (hdg : decode cc pc = .ok (.invokevirtual index, 3))
    (kk : ∀ (r : Int32) (u : S1) (H1 : Heap) (locs1 : List Loc), post r u → Wd D A (tys ++ tys1 u) (wr ++ w1 u) s H0 H1 locs1 → W p l e R s m args below meth c H1 locs1 (cells + mc) (slots + ms) Q (F0 m (pc + 3) ls (.int r :: rest))) : W p l e R s m args below meth c H locs cells slots Q (F0 m pc ls st) := by
  have hqc : Wd D A tysC wc s H0 H locs := hw.sub isC tC hnC hC htC
  have hFc := va_free hw.2.2.1 hw.2.2.2 hA isC hC
  refine va_calli (va_runV S hM cw ⟨fb_x, va_recv hqc.1 hqc.2.1 hc he, fun U hU hW => ⟨rfl, XN.warm hW hz, by rw [hU], by rw [hU]; exact hqc.2.1, va_K.moved hW.alike hqc.1, hqc.2.2.1.weaken (fun _ _ _ _ => trivial)⟩⟩ rfl hn hsize hst (lv_room (m := m) (pc := 0) (ls := ls) (rest := []) hW) hdg hf) hw.2.2.2 (fun q _ h => hFc q h) hFc ?_
  intro r u t H1 locs1 ht hvm hp hB hz hk hS1
  exact kk r u H1 locs1 hp (Wd.back (S := S1) hw hA isC isR hC hR hnR hdis ht hvm hB hk hS1)
theorem cx_Vv {S1 : Type} {post : S1 → Prop} {tys1 : S1 → List (ClassId × FieldType)} {w1 : S1 → va_W} (S : CallFix p m c cc nL s args Ts own) (hz : XN s) (hM : MXv l y ws rm (.ref b :: As) D tysC wc H.size post tys1 w1 mc ms) (cw : CallW R s args own C index y bytes maxL ret ws rm mc ms n) (hw : Wd D A tys w s H0 H locs) (hA : ∀ q, H0.size ≤ q → A q) (isC isR tC : List Nat) (hC : isC.map (fun i => w[i]?) = wc.map some) (hR : isR.map (fun i => w[i]?) = wr.map some) (htC : tC.filterMap (fun i => tys[i]?) = tysC) (hnC : va_nd isC = true) (hnR : va_nd isR = true) (hdis : ∀ i ∈ isR, i ∉ isC) (q0 : Nat) {ci N : Nat} {T : u_T} {fs : List Value} (hc : vwCl[ci]? = some (C, T, N)) (he : wc[q0]? = some (b, .inr (ci, fs))) (hn : As.length = n) (hsize : ls.size = nL) (hW : (rest.map fun v => v.category).sum ≤ 8) (hf : cells + mc ≤ R.cells ∧ slots + ms ≤ R.slots) {st : List Value} (hst : st = As.reverse ++ .ref b :: rest) (hdg : decode cc pc = .ok (.invokevirtual index, 3))
    (kk : ∀ (u : S1) (H1 : Heap) (locs1 : List Loc), post u → Wd D A (tys ++ tys1 u) (wr ++ w1 u) s H0 H1 locs1 → W p l e R s m args below meth c H1 locs1 (cells + mc) (slots + ms) Q (F0 m (pc + 3) ls rest)) : W p l e R s m args below meth c H locs cells slots Q (F0 m pc ls st) := by
  have hqc : Wd D A tysC wc s H0 H locs := hw.sub isC tC hnC hC htC
  have hFc := va_free hw.2.2.1 hw.2.2.2 hA isC hC
  refine va_callv (va_runV S hM cw ⟨fb_x, va_recv hqc.1 hqc.2.1 hc he, fun U hU hW => ⟨rfl, XN.warm hW hz, by rw [hU], by rw [hU]; exact hqc.2.1, va_K.moved hW.alike hqc.1, hqc.2.2.1.weaken (fun _ _ _ _ => trivial)⟩⟩ rfl hn hsize hst (lv_room (m := m) (pc := 0) (ls := ls) (rest := []) hW) hdg hf) hw.2.2.2 (fun q _ h => hFc q h) hFc ?_
  intro u t H1 locs1 ht hvm hp hB hz hk hS1
  exact kk u H1 locs1 hp (Wd.back (S := S1) hw hA isC isR hC hR hnR hdis ht hvm hB hk hS1)
/-- a nest mate's constructor -/
theorem cx_In {S1 : Type} {post : S1 → Prop} {tys1 : S1 → List (ClassId × FieldType)} {w1 : S1 → va_W} (S : CallFix p m c cc nL s args Ts own) (hM : MUv l y ws rm (.ref b :: As) D tysC wc H.size post tys1 w1 mc ms) (cw : va_CN R s args own index y host bytes maxL none ws rm mc ms n ∧ y.name = "<init>" ∧ (Cond.instanceMethod y).before args s = true) (hw : Wd D A tys w s H0 H locs) (hA : ∀ q, H0.size ≤ q → A q) (isC isR tC : List Nat) (hC : isC.map (fun i => w[i]?) = wc.map some) (hR : isR.map (fun i => w[i]?) = wr.map some) (htC : tC.filterMap (fun i => tys[i]?) = tysC) (hnC : va_nd isC = true) (hnR : va_nd isR = true) (hdis : ∀ i ∈ isR, i ∉ isC) (hn : As.length = n) (hsize : ls.size = nL) (hW : (rest.map fun v => v.category).sum ≤ 8) (hf : cells + mc ≤ R.cells ∧ slots + ms ≤ R.slots) {st : List Value} (hst : st = As.reverse ++ .ref b :: rest) (hdg : decode cc pc = .ok (.invokespecial index, 3))
    (kk : ∀ (u : S1) (H1 : Heap) (locs1 : List Loc), post u → Wd D A (tys ++ tys1 u) (wr ++ w1 u) s H0 H1 locs1 → W p l e R s m args below meth c H1 locs1 (cells + mc) (slots + ms) Q (F0 m (pc + 3) ls rest)) : W p l e R s m args below meth c H locs cells slots Q (F0 m pc ls st) := by
  have hqc : Wd D A tysC wc s H0 H locs := hw.sub isC tC hnC hC htC
  have hFc := va_free hw.2.2.1 hw.2.2.2 hA isC hC
  refine va_callv (va_runIN S hM cw ⟨fb_s, fun U hU hW => ⟨rfl, by rw [hU], by rw [hU]; exact hqc.2.1, va_K.moved hW.alike hqc.1, hqc.2.2.1.weaken (fun _ _ _ _ => trivial)⟩⟩ rfl hn hsize hst (lv_room (m := m) (pc := 0) (ls := ls) (rest := []) hW) hdg hf) hw.2.2.2 (fun q _ h => hFc q h) hFc ?_
  intro u t H1 locs1 ht hvm hp hB hz hk hS1
  exact kk u H1 locs1 hp (Wd.back (S := S1) hw hA isC isR hC hR hnR hdis ht hvm hB hk hS1)
theorem cx_Inx {S1 : Type} {post : S1 → Prop} {tys1 : S1 → List (ClassId × FieldType)} {w1 : S1 → va_W} (S : CallFix p m c cc nL s args Ts own) (hz : XN s) (hM : MXv l y ws rm (.ref b :: As) D tysC wc H.size post tys1 w1 mc ms) (cw : va_CN R s args own index y host bytes maxL none ws rm mc ms n ∧ y.name = "<init>" ∧ (Cond.instanceMethod y).before args s = true) (hw : Wd D A tys w s H0 H locs) (hA : ∀ q, H0.size ≤ q → A q) (isC isR tC : List Nat) (hC : isC.map (fun i => w[i]?) = wc.map some) (hR : isR.map (fun i => w[i]?) = wr.map some) (htC : tC.filterMap (fun i => tys[i]?) = tysC) (hnC : va_nd isC = true) (hnR : va_nd isR = true) (hdis : ∀ i ∈ isR, i ∉ isC) (hn : As.length = n) (hsize : ls.size = nL) (hW : (rest.map fun v => v.category).sum ≤ 8) (hf : cells + mc ≤ R.cells ∧ slots + ms ≤ R.slots) {st : List Value} (hst : st = As.reverse ++ .ref b :: rest) (hdg : decode cc pc = .ok (.invokespecial index, 3))
    (kk : ∀ (u : S1) (H1 : Heap) (locs1 : List Loc), post u → Wd D A (tys ++ tys1 u) (wr ++ w1 u) s H0 H1 locs1 → W p l e R s m args below meth c H1 locs1 (cells + mc) (slots + ms) Q (F0 m (pc + 3) ls rest)) : W p l e R s m args below meth c H locs cells slots Q (F0 m pc ls st) := by
  have hqc : Wd D A tysC wc s H0 H locs := hw.sub isC tC hnC hC htC
  have hFc := va_free hw.2.2.1 hw.2.2.2 hA isC hC
  refine va_callv (va_runIN S hM cw ⟨fb_x, fun U hU hW => ⟨rfl, XN.warm hW hz, by rw [hU], by rw [hU]; exact hqc.2.1, va_K.moved hW.alike hqc.1, hqc.2.2.1.weaken (fun _ _ _ _ => trivial)⟩⟩ rfl hn hsize hst (lv_room (m := m) (pc := 0) (ls := ls) (rest := []) hW) hdg hf) hw.2.2.2 (fun q _ h => hFc q h) hFc ?_
  intro u t H1 locs1 ht hvm hp hB hz hk hS1
  exact kk u H1 locs1 hp (Wd.back (S := S1) hw hA isC isR hC hR hnR hdis ht hvm hB hk hS1)
/-- a new object -/
theorem r_new (hx : p.tables.exec = Jvm.exec) (hb : c.code = cc) {T : u_T} {N ci : Nat} (hts : ∀ w ∈ Ts, w.before args s = true) (hin : ∀ w ∈ u_ws C T N, w ∈ Ts) (ty : Nat → FieldType) (hty : ∀ k, k < N → parseFieldDescriptor (T k).2.2.1 = some (ty k)) (hown : s.vm.findClass own = some m.cls) (hcl : (Cond.classLink own index C).before args s = true) (hinst : (Cond.instantiable C N).before args s = true) (hini : (Cond.initialized C).before args s = true) (hw : Wd D A tys w s H0 H locs) (hA : ∀ q, H0.size ≤ q → A q) (hc : vwCl[ci]? = some (C, T, N)) {fs : List Value} (hfs : ∀ j, j < N → defaultValue (ty j) = vp_V fs j) (hcells : cells + 1 ≤ R.cells) (hslots : slots + N ≤ R.slots) (hdg : decode cc pc = .ok (.new index, 3))
    (kk : ∀ (q : Nat) (H1 : Heap) (locs1 : List Loc), Wd D A tys (w ++ [(q, .inr (ci, fs))]) s H0 H1 locs1 → W p l e R s m args below meth c H1 locs1 (cells + 1) (slots + N) Q (F0 m (pc + 3) ls (.ref q :: rest))) : W p l e R s m args below meth c H locs cells slots Q (F0 m pc ls rest) :=
  va_new hx hb hts hin ty hty hown hcl hinst hini hw.1 hw.2.1 hw.2.2.1 hw.2.2.2 hA hc hfs hcells hslots hdg (fun q H1 h1 h2 h3 => kk q H1 _ ⟨hw.1, h1, h2, h3⟩)
/-- a new array of objects; its cells -/
theorem r_newQ (hx : p.tables.exec = Jvm.exec) (hb : c.code = cc) (hown : s.vm.findClass own = some m.cls) (hclink : (Cond.classLink own index C).before args s = true) (hover : va_AO C s) (hw : Wd D A tys w s H0 H locs) (hA : ∀ q, H0.size ≤ q → A q) {n : Nat} (hn : n ≤ 100000) (hcells : cells + 1 ≤ R.cells) (hslots : slots + n ≤ R.slots) (hdg : decode cc pc = .ok (.anewarray index, 3))
    (kk : ∀ (q : Nat) (cA : ClassId) (H1 : Heap) (locs1 : List Loc), Wd D A (tys ++ [(cA, .object C)]) (w ++ [(q, .inl (cA, n, .inr (.inr (.inr (.inr (fun _ => none))))))]) s H0 H1 locs1 → W p l e R s m args below meth c H1 locs1 (cells + 1) (slots + n) Q (F0 m (pc + 3) ls (.ref q :: rest))) : W p l e R s m args below meth c H locs cells slots Q (F0 m pc ls (.int (nI n) :: rest)) :=
  va_newq hx hb hown hclink hover hw.1 hw.2.1 hw.2.2.1 hw.2.2.2 hA (nI_pos (by omega)) (nI_clamp (by omega)) (by omega) hcells hslots hdg (fun q cA H1 hK h1 h2 h3 => kk q cA H1 _ ⟨hK, h1, h2, h3⟩)
theorem r_aldq (hx : p.tables.exec = Jvm.exec) (hb : c.code = cc) (hq : Wq D tys w s H) (q0 t0 : Nat) {a : Nat} {cA : ClassId} {n : Nat} {f : Nat → Option Nat} (ha : w[q0]? = some (a, .inl (cA, n, .inr (.inr (.inr (.inr f)))))) (ht : tys[t0]? = some (cA, .object C)) {i : Nat} (hi : i < n) (hn : n < 2 ^ 31) (hdg : decode cc pc = .ok (.aaload, 1)) {v : Value} (hv : va_rf (f i) = v)
    (kk : W p l e R s m args below meth c H locs cells slots Q (F0 m (pc + 1) ls (v :: rest))) : W p l e R s m args below meth c H locs cells slots Q (F0 m pc ls (.int (nI i) :: .ref a :: rest)) :=
  va_aldq hx hb hq.1 hq.2 q0 t0 ha ht (vp_in_nI hi hn) hdg (by rw [nI_clamp (Nat.lt_trans hi hn), hv]; exact kk)
theorem r_astq (hx : p.tables.exec = Jvm.exec) (hb : c.code = cc) (hw : Wd D A tys w s H0 H locs) (q0 t0 qk ci : Nat) {a : Nat} {cA : ClassId} {r : vw_C} {n v : Nat} {vs : List Value} {f : Nat → Option Nat} (ha : w[q0]? = some (a, .inl (cA, n, .inr (.inr (.inr (.inr f)))))) (ht : tys[t0]? = some (cA, .object r.1)) (hv : w[qk]? = some (v, .inr (ci, vs))) (hc : vwCl[ci]? = some r) {i : Nat} (hi : i < n) (hn : n < 2 ^ 31) (hdg : decode cc pc = .ok (.aastore, 1))
    (kk : ∀ (H1 : Heap) (locs1 : List Loc), Wd D A tys (w.set q0 (a, .inl (cA, n, .inr (.inr (.inr (.inr (va_up f i (some v)))))))) s H0 H1 locs1 → W p l e R s m args below meth c H1 locs1 cells slots Q (F0 m (pc + 1) ls rest)) : W p l e R s m args below meth c H locs cells slots Q (F0 m pc ls (.ref v :: .int (nI i) :: .ref a :: rest)) :=
  va_astq hx hb hw.1 hw.2.1 hw.2.2.1 hw.2.2.2 q0 t0 qk ci ha ht hv hc (vp_in_nI hi hn) hdg (fun H1 l1 h1 h2 h3 => by
    rw [nI_clamp (Nat.lt_trans hi hn)] at h1 h2
    exact kk H1 l1 ⟨hw.1, h1, h2, h3⟩)
end CX
