/-! calls in worlds with a tail -/
theorem perm_pick {α : Type} {X wc wr : List α} (isC isR : List Nat) (hC : isC.map (fun i => X[i]?) = wc.map some) (hR : isR.map (fun i => X[i]?) = wr.map some) (hp : (isC ++ isR).Perm (List.range X.length)) : X.Perm (wc ++ wr) := by
  have h1 : ((isC ++ isR).map (fun i => X[i]?)).Perm ((List.range X.length).map (fun i => X[i]?)) := hp.map _
  have h2 : (List.range X.length).map (fun i => X[i]?) = X.map some := by
    apply List.ext_getElem?
    intro i
    rw [List.getElem?_map, List.getElem?_map]
    by_cases h : i < X.length
    · rw [List.getElem?_range h]
      show some (X[i]?) = Option.map some X[i]?
      rw [List.getElem?_eq_getElem h]; rfl
    · rw [List.getElem?_eq_none (by rw [List.length_range]; omega), List.getElem?_eq_none (by omega)]; rfl
  rw [List.map_append, hC, hR, ← List.map_append, h2] at h1
  have h3 := h1.filterMap id
  rw [List.filterMap_map, List.filterMap_map] at h3
  have e : ∀ L : List α, List.filterMap (id ∘ some) L = L := fun L => by
    show List.filterMap some L = L
    exact List.filterMap_some
  rw [e, e] at h3
  exact h3.symm
section CP
variable {p : Program} {l : Launch} {e : Env} {R : Room} {s : State} {m : MethodId} {args : Array Value} {below : List Frame} {meth : Method} {c : Code} {H H0 : Heap} {locs : List Loc} {cells slots : Nat} {Q : State → Prop}
variable {cc bytes : ByteArray} {pc : Nat} {ls : Array Slot} {rest As : List Value} {D : va_G} {A : Nat → Prop} {tys tysC : List (ClassId × FieldType)} {w X wc wr tail : va_W} {Ts ws : List Cond} {own C host : String} {nL maxL n index mc ms b : Nat} {y : MethodName} {ret : Option FieldType} {rm : Room}
theorem Wd.part (hw : Wd D A tys w s H0 H locs) (hp : w.Perm (wc ++ wr)) (tC : List Nat) (htC : tC.filterMap (fun i => tys[i]?) = tysC) : Wd D A tysC wc s H0 H locs := by
  have hP := P_iff.mp (P_perm hp hw.2.1)
  have hD := D_iff.mp (D_perm hp hw.2.2.1)
  refine ⟨?_, P_iff.mpr fun x hx => hP x (List.mem_append_left _ hx), D_iff.mpr ⟨?_, fun x hx => hD.2 x (List.mem_append_left _ hx)⟩, hw.2.2.2⟩
  · refine ⟨hw.1.1, fun k q hk => ?_⟩
    have hm := List.mem_of_getElem? hk
    rw [← htC, List.mem_filterMap] at hm
    obtain ⟨i, -, hi⟩ := hm
    exact hw.1.2 i q hi
  · have := hD.1
    rw [List.map_append, List.nodup_append] at this
    exact this.1
theorem Wd.free (hw : Wd D A tys w s H0 H locs) (hA : ∀ q, H0.size ≤ q → A q) (hp : w.Perm (wc ++ wr)) : ∀ q, va_A wc H.size q → A q := fun q h => by
  rcases A_iff.mp h with ⟨x, hx, rfl⟩ | h
  · exact (D_iff.mp hw.2.2.1).2 x (hp.mem_iff.mpr (List.mem_append_left _ hx))
  · exact hA q (Nat.le_trans hw.2.2.2.1 h)
theorem Wd.join {w1 : va_W} {tys1 : List (ClassId × FieldType)} {t : State} {H1 : Heap} {locs1 : List Loc} (hw : Wd D A tys w s H0 H locs) (hA : ∀ q, H0.size ≤ q → A q) (hp : w.Perm (wc ++ wr)) (ht : t.heap = H1) (hB : Bo D (va_A wc H.size) tys1 w1 t) (hk : ∀ q : Nat, q < H.size → ¬ va_A wc H.size q → H1[q]? = H[q]?) (hS1 : va_S A H0 H1 locs1) : Wd D A tys (w1 ++ wr) s H0 H1 locs1 := by
  obtain ⟨hP1, -, hD1⟩ := hB
  rw [ht] at hP1
  have hj := fr_join hw.2.1 hw.2.2.1 hp hP1 hD1 hk
  exact ⟨hw.1, hj.1, hj.2 A (hw.free hA hp) (fun x hx => (D_iff.mp hw.2.2.1).2 x (hp.mem_iff.mpr (List.mem_append_right _ hx))), hS1⟩
theorem cp_Vi {S1 : Type} {post : Int32 → S1 → Prop} {tys1 : S1 → List (ClassId × FieldType)} {w1 : S1 → va_W} (S : CallFix p m c cc nL s args Ts own) (hM : MUi l y ws rm (.ref b :: As) D tysC wc H.size post tys1 w1 mc ms) (cw : CallW R s args own C index y bytes maxL ret ws rm mc ms n) (hw : Wd D A tys (X ++ tail) s H0 H locs) (hA : ∀ q, H0.size ≤ q → A q) (isC isR tC : List Nat) (hC : isC.map (fun i => X[i]?) = wc.map some) (hR : isR.map (fun i => X[i]?) = wr.map some) {k0 : Nat} (hk0 : X.length = k0) (hpp : (isC ++ isR).Perm (List.range k0)) (htC : tC.filterMap (fun i => tys[i]?) = tysC) (q0 : Nat) {ci N : Nat} {T : u_T} {fs : List Value} (hc : vwCl[ci]? = some (C, T, N)) (he : wc[q0]? = some (b, .inr (ci, fs))) (hn : As.length = n) (hsize : ls.size = nL) (hW : (rest.map fun v => v.category).sum ≤ 8) (hf : cells + mc ≤ R.cells ∧ slots + ms ≤ R.slots) {st : List Value} (hst : st = As.reverse ++ .ref b :: rest) (hdg : decode cc pc = .ok (.invokevirtual index, 3))
    (kk : ∀ (r : Int32) (u : S1) (H1 : Heap) (locs1 : List Loc), post r u → Wd D A tys ((w1 u ++ wr) ++ tail) s H0 H1 locs1 → W p l e R s m args below meth c H1 locs1 (cells + mc) (slots + ms) Q (F0 m (pc + 3) ls (.int r :: rest))) : W p l e R s m args below meth c H locs cells slots Q (F0 m pc ls st) := by
  have hp : (X ++ tail).Perm (wc ++ (wr ++ tail)) := by rw [← List.append_assoc]; exact (perm_pick isC isR hC hR (by rw [hk0]; exact hpp)).append_right _
  have hqc := hw.part hp tC htC
  have hFc := hw.free hA hp
  refine va_calli (va_runV S hM cw ⟨fb_s, va_recv hqc.1 hqc.2.1 hc he, fun U hU hW => ⟨rfl, by rw [hU], by rw [hU]; exact hqc.2.1, va_K.moved hW.alike hqc.1, hqc.2.2.1.weaken (fun _ _ _ _ => trivial)⟩⟩ rfl hn hsize hst (lv_room (m := m) (pc := 0) (ls := ls) (rest := []) hW) hdg hf) hw.2.2.2 (fun q _ h => hFc q h) hFc ?_
  intro r u t H1 locs1 ht hvm hpo hB hz hk hS1
  have hj := hw.join hA hp ht hB hk hS1
  rw [← List.append_assoc] at hj
  exact kk r u H1 locs1 hpo hj
theorem cp_Vv {S1 : Type} {post : S1 → Prop} {tys1 : S1 → List (ClassId × FieldType)} {w1 : S1 → va_W} (S : CallFix p m c cc nL s args Ts own) (hM : MUv l y ws rm (.ref b :: As) D tysC wc H.size post tys1 w1 mc ms) (cw : CallW R s args own C index y bytes maxL ret ws rm mc ms n) (hw : Wd D A tys (X ++ tail) s H0 H locs) (hA : ∀ q, H0.size ≤ q → A q) (isC isR tC : List Nat) (hC : isC.map (fun i => X[i]?) = wc.map some) (hR : isR.map (fun i => X[i]?) = wr.map some) {k0 : Nat} (hk0 : X.length = k0) (hpp : (isC ++ isR).Perm (List.range k0)) (htC : tC.filterMap (fun i => tys[i]?) = tysC) (q0 : Nat) {ci N : Nat} {T : u_T} {fs : List Value} (hc : vwCl[ci]? = some (C, T, N)) (he : wc[q0]? = some (b, .inr (ci, fs))) (hn : As.length = n) (hsize : ls.size = nL) (hW : (rest.map fun v => v.category).sum ≤ 8) (hf : cells + mc ≤ R.cells ∧ slots + ms ≤ R.slots) {st : List Value} (hst : st = As.reverse ++ .ref b :: rest) (hdg : decode cc pc = .ok (.invokevirtual index, 3))
    (kk : ∀ (u : S1) (H1 : Heap) (locs1 : List Loc), post u → Wd D A tys ((w1 u ++ wr) ++ tail) s H0 H1 locs1 → W p l e R s m args below meth c H1 locs1 (cells + mc) (slots + ms) Q (F0 m (pc + 3) ls rest)) : W p l e R s m args below meth c H locs cells slots Q (F0 m pc ls st) := by
  have hp : (X ++ tail).Perm (wc ++ (wr ++ tail)) := by rw [← List.append_assoc]; exact (perm_pick isC isR hC hR (by rw [hk0]; exact hpp)).append_right _
  have hqc := hw.part hp tC htC
  have hFc := hw.free hA hp
  refine va_callv (va_runV S hM cw ⟨fb_s, va_recv hqc.1 hqc.2.1 hc he, fun U hU hW => ⟨rfl, by rw [hU], by rw [hU]; exact hqc.2.1, va_K.moved hW.alike hqc.1, hqc.2.2.1.weaken (fun _ _ _ _ => trivial)⟩⟩ rfl hn hsize hst (lv_room (m := m) (pc := 0) (ls := ls) (rest := []) hW) hdg hf) hw.2.2.2 (fun q _ h => hFc q h) hFc ?_
  intro u t H1 locs1 ht hvm hpo hB hz hk hS1
  have hj := hw.join hA hp ht hB hk hS1
  rw [← List.append_assoc] at hj
  exact kk u H1 locs1 hpo hj
theorem Wd.ord {X' : va_W} (hw : Wd D A tys (X ++ tail) s H0 H locs) (is : List Nat) {k0 : Nat} (hk0 : X.length = k0) (hC : is.map (fun i => X[i]?) = X'.map some) (hpp : is.Perm (List.range k0)) : Wd D A tys (X' ++ tail) s H0 H locs := by
  have h := perm_pick (wr := []) is [] hC rfl (by rw [List.append_nil, hk0]; exact hpp)
  rw [List.append_nil] at h
  exact hw.perm (h.append_right _)
/-- a callee that takes the tail -/
theorem cp_Vx {S1 : Type} {post : S1 → Prop} {tys1 : S1 → List (ClassId × FieldType)} {w1 pl : S1 → va_W} (S : CallFix p m c cc nL s args Ts own) (hz : XN s) (hM : MXv l y ws rm (.ref b :: As) D tysC (wc ++ tail) H.size post tys1 (fun u => w1 u ++ pl u) mc ms) (cw : CallW R s args own C index y bytes maxL ret ws rm mc ms n) (hw : Wd D A tys (X ++ tail) s H0 H locs) (hA : ∀ q, H0.size ≤ q → A q) (isC isR tC : List Nat) (hC : isC.map (fun i => X[i]?) = wc.map some) (hR : isR.map (fun i => X[i]?) = wr.map some) {k0 : Nat} (hk0 : X.length = k0) (hpp : (isC ++ isR).Perm (List.range k0)) (htC : tC.filterMap (fun i => tys[i]?) = tysC) (q0 : Nat) {ci N : Nat} {T : u_T} {fs : List Value} (hc : vwCl[ci]? = some (C, T, N)) (he : (wc ++ tail)[q0]? = some (b, .inr (ci, fs))) (hn : As.length = n) (hsize : ls.size = nL) (hW : (rest.map fun v => v.category).sum ≤ 8) (hf : cells + mc ≤ R.cells ∧ slots + ms ≤ R.slots) {st : List Value} (hst : st = As.reverse ++ .ref b :: rest) (hdg : decode cc pc = .ok (.invokevirtual index, 3))
    (kk : ∀ (u : S1) (H1 : Heap) (locs1 : List Loc), post u → Wd D A tys ((w1 u ++ wr) ++ pl u) s H0 H1 locs1 → W p l e R s m args below meth c H1 locs1 (cells + mc) (slots + ms) Q (F0 m (pc + 3) ls rest)) : W p l e R s m args below meth c H locs cells slots Q (F0 m pc ls st) := by
  have hp : (X ++ tail).Perm ((wc ++ tail) ++ wr) := by
    refine ((perm_pick isC isR hC hR (by rw [hk0]; exact hpp)).append_right _).trans ?_
    rw [List.append_assoc, List.append_assoc]
    exact List.perm_append_comm.append_left _
  have hqc := hw.part hp tC htC
  have hFc := hw.free hA hp
  refine va_callv (va_runV S hM cw ⟨fb_x, va_recv hqc.1 hqc.2.1 hc he, fun U hU hW => ⟨rfl, XN.warm hW hz, by rw [hU], by rw [hU]; exact hqc.2.1, va_K.moved hW.alike hqc.1, hqc.2.2.1.weaken (fun _ _ _ _ => trivial)⟩⟩ rfl hn hsize hst (lv_room (m := m) (pc := 0) (ls := ls) (rest := []) hW) hdg hf) hw.2.2.2 (fun q _ h => hFc q h) hFc ?_
  intro u t H1 locs1 ht hvm hpo hB hz hk hS1
  have hj := hw.join hA hp ht hB hk hS1
  refine kk u H1 locs1 hpo (hj.perm ?_)
  rw [List.append_assoc, List.append_assoc]
  exact List.perm_append_comm.append_left _
/-- a nest mate's field -/
theorem r_getN (hx : p.tables.exec = Jvm.exec) (hb : c.code = cc) (hts : ∀ w ∈ Ts, w.before args s = true) (hown : s.vm.findClass own = some m.cls) (hq : Wq D tys w s H) (q0 k : Nat) {T : u_T} {N ci a : Nat} {fs : List Value} {v : Value} (hin : ∀ w ∈ u_ws C T N, w ∈ Ts) (he : w[q0]? = some (a, .inr (ci, fs))) (hc : vwCl[ci]? = some (C, T, N)) (hk : k < N) (hlink : (Cond.fieldLinkNest own index (T k).1 (T k).2.1 (T k).2.2.1 host).before args s = true) (hv : fs[k]? = some v) (hdg : decode cc pc = .ok (.getfield index, 3)) (kk : W p l e R s m args below meth c H locs cells slots Q (F0 m (pc + 3) ls (v :: rest))) : W p l e R s m args below meth c H locs cells slots Q (F0 m pc ls (.ref a :: rest)) :=
  va_getN hx hb hts hin hown hq.1 hq.2 q0 he hc k hk hlink (fun _ h => h) hv hdg kk
theorem r_putN (hx : p.tables.exec = Jvm.exec) (hb : c.code = cc) (hts : ∀ w ∈ Ts, w.before args s = true) (hown : s.vm.findClass own = some m.cls) (hw : Wd D A tys w s H0 H locs) (q0 k : Nat) {T : u_T} {N ci a : Nat} {fs : List Value} {ty : FieldType} {v : Value} (ty0 : Nat → FieldType) (hty : ∀ k, k < N → parseFieldDescriptor (T k).2.2.1 = some (ty0 k)) (hnm : ∀ a, a < N → ∀ b, b < N → a ≠ b → (T a).2.1 ≠ (T b).2.1) (hin : ∀ w ∈ u_ws C T N, w ∈ Ts) (he : w[q0]? = some (a, .inr (ci, fs))) (hc : vwCl[ci]? = some (C, T, N)) (hk : k < N) (hlink : (Cond.fieldLinkNest own index (T k).1 (T k).2.1 (T k).2.2.1 host).before args s = true) (hfin : (T k).2.2.2 = false) (hd : parseFieldDescriptor (T k).2.2.1 = some ty) (hn : narrow ty v = v) (hfit : fits ty v = true) (hl : k < fs.length) (hdg : decode cc pc = .ok (.putfield index, 3))
    (kk : ∀ (H1 : Heap) (locs1 : List Loc), Wd D A tys (w.set q0 (a, .inr (ci, fs.set k v))) s H0 H1 locs1 → W p l e R s m args below meth c H1 locs1 cells slots Q (F0 m (pc + 3) ls rest)) : W p l e R s m args below meth c H locs cells slots Q (F0 m pc ls (v :: .ref a :: rest)) :=
  va_putN hx hb hts hin ty0 hty hnm hown hw.1 hw.2.1 hw.2.2.1 hw.2.2.2 q0 he hc k hk hlink (fun _ h => h) hfin hd hn hfit hl hdg (fun H1 l1 h1 h2 h3 => kk H1 l1 ⟨hw.1, h1, h2, h3⟩)
/-- a static check that returns -/
theorem cp_Sv (S : CallFix p m c cc nL s args Ts own) (hM : MUv l y ws rm As D [] [] H.size (fun (_ : Unit) => True) (fun _ => []) (fun _ => []) 0 0) (cw : CallB R s args own index y bytes maxL ret ws rm 0 0 n ∧ (Cond.static y).before args s = true) (hw : Wd D A tys w s H0 H locs) (hA : ∀ q, H0.size ≤ q → A q) (hn : As.length = n) (hsize : ls.size = nL) (hW : (rest.map fun v => v.category).sum ≤ 8) (hf : cells ≤ R.cells ∧ slots ≤ R.slots) {st : List Value} (hst : st = As.reverse ++ rest) (hdg : decode cc pc = .ok (.invokestatic index, 3))
    (kk : ∀ (H1 : Heap) (locs1 : List Loc), Wd D A tys w s H0 H1 locs1 → W p l e R s m args below meth c H1 locs1 cells slots Q (F0 m (pc + 3) ls rest)) : W p l e R s m args below meth c H locs cells slots Q (F0 m pc ls st) := by
  have hp : w.Perm ([] ++ w) := List.Perm.refl _
  have hqc := hw.part hp [] rfl
  have hFc := hw.free hA hp
  refine va_callv (va_runS S hM cw ⟨fb_s, fun U hU hW => ⟨rfl, by rw [hU], by rw [hU]; exact hqc.2.1, va_K.moved hW.alike hqc.1, hqc.2.2.1.weaken (fun _ _ _ _ => trivial)⟩⟩ rfl hn hsize hst (lv_room (m := m) (pc := 0) (ls := ls) (rest := []) hW) hdg hf) hw.2.2.2 (fun q _ h => hFc q h) hFc ?_
  intro u t H1 locs1 ht hvm hpo hB hz hk hS1
  exact kk H1 locs1 (hw.join hA hp ht hB hk hS1)
end CP
