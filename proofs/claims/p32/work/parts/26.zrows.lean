/-! floats; contracts of methods that may throw; calls in worlds with a tail -/
theorem fl_n32 {x : UInt32} (h : FP.Core.fIsNaN x = false) : vf_n32 x := by
  unfold vf_n32
  rw [UInt32.le_iff_toNat_le, UInt32.toNat_and]
  have h1 : (0x7fffffff : UInt32).toNat = 2 ^ 31 - 1 := by decide
  have h2 : (0x7f800000 : UInt32).toNat = 2139095040 := by decide
  rw [h1, h2, Nat.and_two_pow_sub_one_eq_mod]
  rw [← Bool.not_eq_true, FP.Core.isNaN_bits32] at h
  omega
theorem fl_n64 {x : UInt64} (h : FP.Core.dIsNaN x = false) : vf_n64 x := by
  unfold vf_n64
  rw [UInt64.le_iff_toNat_le, UInt64.toNat_and]
  have h1 : (0x7fffffffffffffff : UInt64).toNat = 2 ^ 63 - 1 := by decide
  have h2 : (0x7ff0000000000000 : UInt64).toNat = 9218868437227405312 := by decide
  rw [h1, h2, Nat.and_two_pow_sub_one_eq_mod]
  rw [← Bool.not_eq_true, FP.Core.isNaN_bits] at h
  omega
theorem fl_fin32 {x : UInt32} (h : FP.Core.FFin x) : FP.Core.fIsNaN x = false := by
  rw [← Bool.not_eq_true, FP.Core.isNaN_bits32]
  have := (FP.Core.fin_bits32 x).mp h
  omega
theorem fl_fin64 {x : UInt64} (h : FP.Core.DFin x) : FP.Core.dIsNaN x = false := by
  rw [← Bool.not_eq_true, FP.Core.isNaN_bits]
  have := (FP.Core.fin_bits x).mp h
  omega
theorem fl_mean (a : Int32) {n : Nat} (h0 : 0 < n) (h : n < 2 ^ 31) : FP.Core.fIsNaN (FP.fdiv (FP.i2f a) (FP.i2f (nI n))) = false :=
  FP.Core.fdiv_out (fl_fin32 (FP.Core.i2f_fin a)) (FP.Core.i2f_fin (nI n)) (fun z => FP.Core.i2f_ne_zero (nI_ne0 h0 h) ((FP.Core.zero_bits232 _).mp z))
def d30 : UInt64 := 4629137466983448576
theorem d30_fin : FP.Core.DFin d30 := (FP.Core.fin_bits d30).mpr (by decide)
theorem d30_nz : ¬ FP.Core.DZero d30 := fun z => absurd ((FP.Core.zero_bits2 d30).mp z) (by decide)
theorem fl_agr (n : Nat) : FP.Core.dIsNaN (FP.ddiv (FP.i2d (nI n)) d30) = false := FP.Core.ddiv_out (fl_fin64 (FP.Core.i2d_fin (nI n))) d30_fin d30_nz
/-- a mean of n values with this sum -/
def mnF (n : Nat) (x : Int32) : UInt32 := if n = 0 then FP.fconst0 else FP.fdiv (FP.i2f x) (FP.i2f (nI n))
theorem mnF_0 {n : Nat} (x : Int32) (h : n = 0) : FP.fconst0 = mnF n x := by rw [mnF, if_pos h]
theorem mnF_p {n : Nat} (x : Int32) (h : 0 < n) : FP.fdiv (FP.i2f x) (FP.i2f (nI n)) = mnF n x := by rw [mnF, if_neg (Nat.ne_of_gt h)]
theorem mnF_n (n : Nat) (x : Int32) (h : n < 2 ^ 31) : FP.Core.fIsNaN (mnF n x) = false := by
  by_cases e : n = 0
  · rw [← mnF_0 x e]; decide +kernel
  · rw [← mnF_p x (Nat.pos_of_ne_zero e)]; exact fl_mean x (Nat.pos_of_ne_zero e) h
theorem fl_cmp {x : UInt64} (h : FP.Core.dIsNaN x = false) : Op.cmpValue (FP.dcmp x x) .l = 0 := by
  rw [show FP.dcmp x x = some .eq from FP.Core.dcmp_self ((FP.Core.notNaN_iff x).mp h)]
  rfl
def agF (n : Nat) : UInt64 := FP.ddiv (FP.i2d (nI n)) d30
/-! what a launch without stack traces, and the tables, give to a throw -/
section MF
variable {l : Launch} {own : String} {y : MethodName} {ws ws' : List Cond} {rm : Room} {cc : ByteArray} {maxL : Nat} {D : va_G} {tys : List (ClassId × FieldType)} {w0 : va_W} {av : List Value}
abbrev MXf {S : Type} (l : Launch) (y : MethodName) (ws : List Cond) (rm : Room) (av : List Value) (D : va_G) (tys : List (ClassId × FieldType)) (w0 : va_W) (sz : Nat) (post : UInt32 → S → Prop) (tys1 : S → List (ClassId × FieldType)) (w1 : S → va_W) (mc ms : Nat) : Prop := Met l y ws rm (va_Pc av (Bx D tys w0 sz)) (va_Qf post (fun u => Bo D (va_A w0 sz) (tys1 u) (w1 u)) (va_A w0 sz)) mc ms (va_A w0 sz)
theorem met_xf {S : Type} {sz : Nat} {post : UInt32 → S → Prop} {tys1 : S → List (ClassId × FieldType)} {w1 : S → va_W} {mc ms : Nat} (hy : plainName y.cls = true) (hoy : y.cls = own) (hw : ws = Cond.code y cc maxL (some .float) :: ws') (hlen : (lg_sl av).length ≤ maxL)
    (body : ∀ {p : Program} {e : Env} {s : State} {m : MethodId} {args : Array Value} {below : List Frame} {meth : Method} {c : Code} {Q : State → Prop} {A : Nat → Prop}, s.heap.size = sz → CallFix p m c cc maxL s args ws own → XN s → Wd D A tys w0 s s.heap s.heap [] → (∀ q, s.heap.size ≤ q → A q) →
      (∀ {pc : Nat} {ls : Array Slot} {v : UInt32} {H : Heap} {locs : List Loc} {cells slots : Nat} (u : S), decode cc pc = .ok (.freturn, 1) → cells ≤ mc → slots ≤ ms → Wd D A (tys1 u) (w1 u) s s.heap H locs → post v u → W p l e rm s m args below meth c H locs cells slots Q (F0 m pc ls [.float v])) →
      ∀ ls : Array Slot, lv_has ls maxL (lv_args 0 av) → W p l e rm s m args below meth c s.heap [] 0 0 Q (F0 m 0 ls [])) : MXf l y ws rm av D tys w0 sz post tys1 w1 mc ms := by
  refine Met.ofW (cc := cc) (maxL := maxL) (ret := some .float) hy hw ?_
  intro p e s m args below meth c s₁ B hml hv
  obtain ⟨rfl, hz, hsz, hP, hK, hD0⟩ := hv
  have hb := B.bytes
  have hlocks := B.notSynchronized
  rw [lg_entry_eq]
  subst hsz
  refine body (Q := MQ below (va_Qf post (fun u => Bo D (va_A w0 s.heap.size) (tys1 u) (w1 u)) (va_A w0 s.heap.size)) av.toArray s mc ms (va_A w0 s.heap.size)) (A := va_A w0 s.heap.size) rfl ⟨B.exec, B.bytes, hml, by rw [← hoy]; exact findClass_of_methodNamed B.named, atoms_spec (ws := ws) B.pre⟩ hz ⟨hK, hP, hD0.self, va_S.rf⟩ (fun q h => Or.inr h) ?_ _ (lv_entry av hlen)
  intro pc ls v H locs cells slots u hd hc hs hw hp
  refine W.widen hc hs ?_
  exact W.fret B.exec hb B.returns (fun t ht hW => ⟨⟨v, u, rfl, hp, by rw [ht]; exact hw.2.1, va_K.moved hW.alike hw.1, hw.2.2.1⟩, hw.2.2.2.F ht⟩) hw.2.2.2.2.2 hd hlocks
abbrev MXd {S : Type} (l : Launch) (y : MethodName) (ws : List Cond) (rm : Room) (av : List Value) (D : va_G) (tys : List (ClassId × FieldType)) (w0 : va_W) (sz : Nat) (post : UInt64 → S → Prop) (tys1 : S → List (ClassId × FieldType)) (w1 : S → va_W) (mc ms : Nat) : Prop := Met l y ws rm (va_Pc av (Bx D tys w0 sz)) (va_Qd post (fun u => Bo D (va_A w0 sz) (tys1 u) (w1 u)) (va_A w0 sz)) mc ms (va_A w0 sz)
theorem met_xd {S : Type} {sz : Nat} {post : UInt64 → S → Prop} {tys1 : S → List (ClassId × FieldType)} {w1 : S → va_W} {mc ms : Nat} (hy : plainName y.cls = true) (hoy : y.cls = own) (hw : ws = Cond.code y cc maxL (some .double) :: ws') (hlen : (lg_sl av).length ≤ maxL)
    (body : ∀ {p : Program} {e : Env} {s : State} {m : MethodId} {args : Array Value} {below : List Frame} {meth : Method} {c : Code} {Q : State → Prop} {A : Nat → Prop}, s.heap.size = sz → CallFix p m c cc maxL s args ws own → XN s → Wd D A tys w0 s s.heap s.heap [] → (∀ q, s.heap.size ≤ q → A q) →
      (∀ {pc : Nat} {ls : Array Slot} {v : UInt64} {H : Heap} {locs : List Loc} {cells slots : Nat} (u : S), decode cc pc = .ok (.dreturn, 1) → cells ≤ mc → slots ≤ ms → Wd D A (tys1 u) (w1 u) s s.heap H locs → post v u → W p l e rm s m args below meth c H locs cells slots Q (F0 m pc ls [.double v])) →
      ∀ ls : Array Slot, lv_has ls maxL (lv_args 0 av) → W p l e rm s m args below meth c s.heap [] 0 0 Q (F0 m 0 ls [])) : MXd l y ws rm av D tys w0 sz post tys1 w1 mc ms := by
  refine Met.ofW (cc := cc) (maxL := maxL) (ret := some .double) hy hw ?_
  intro p e s m args below meth c s₁ B hml hv
  obtain ⟨rfl, hz, hsz, hP, hK, hD0⟩ := hv
  have hb := B.bytes
  have hlocks := B.notSynchronized
  rw [lg_entry_eq]
  subst hsz
  refine body (Q := MQ below (va_Qd post (fun u => Bo D (va_A w0 s.heap.size) (tys1 u) (w1 u)) (va_A w0 s.heap.size)) av.toArray s mc ms (va_A w0 s.heap.size)) (A := va_A w0 s.heap.size) rfl ⟨B.exec, B.bytes, hml, by rw [← hoy]; exact findClass_of_methodNamed B.named, atoms_spec (ws := ws) B.pre⟩ hz ⟨hK, hP, hD0.self, va_S.rf⟩ (fun q h => Or.inr h) ?_ _ (lv_entry av hlen)
  intro pc ls v H locs cells slots u hd hc hs hw hp
  refine W.widen hc hs ?_
  exact W.dret B.exec hb B.returns (fun t ht hW => ⟨⟨v, u, rfl, hp, by rw [ht]; exact hw.2.1, va_K.moved hW.alike hw.1, hw.2.2.1⟩, hw.2.2.2.F ht⟩) hw.2.2.2.2.2 hd hlocks
abbrev MUf {S : Type} (l : Launch) (y : MethodName) (ws : List Cond) (rm : Room) (av : List Value) (D : va_G) (tys : List (ClassId × FieldType)) (w0 : va_W) (sz : Nat) (post : UInt32 → S → Prop) (tys1 : S → List (ClassId × FieldType)) (w1 : S → va_W) (mc ms : Nat) : Prop := Met l y ws rm (va_Pc av (Bs D tys w0 sz)) (va_Qf post (fun u => Bo D (va_A w0 sz) (tys1 u) (w1 u)) (va_A w0 sz)) mc ms (va_A w0 sz)
theorem met_uf {S : Type} {sz : Nat} {post : UInt32 → S → Prop} {tys1 : S → List (ClassId × FieldType)} {w1 : S → va_W} {mc ms : Nat} (hy : plainName y.cls = true) (hoy : y.cls = own) (hw : ws = Cond.code y cc maxL (some .float) :: ws') (hlen : (lg_sl av).length ≤ maxL)
    (body : ∀ {p : Program} {e : Env} {s : State} {m : MethodId} {args : Array Value} {below : List Frame} {meth : Method} {c : Code} {Q : State → Prop} {A : Nat → Prop}, s.heap.size = sz → CallFix p m c cc maxL s args ws own → Wd D A tys w0 s s.heap s.heap [] → (∀ q, s.heap.size ≤ q → A q) →
      (∀ {pc : Nat} {ls : Array Slot} {v : UInt32} {H : Heap} {locs : List Loc} {cells slots : Nat} (u : S), decode cc pc = .ok (.freturn, 1) → cells ≤ mc → slots ≤ ms → Wd D A (tys1 u) (w1 u) s s.heap H locs → post v u → W p l e rm s m args below meth c H locs cells slots Q (F0 m pc ls [.float v])) →
      ∀ ls : Array Slot, lv_has ls maxL (lv_args 0 av) → W p l e rm s m args below meth c s.heap [] 0 0 Q (F0 m 0 ls [])) : MUf l y ws rm av D tys w0 sz post tys1 w1 mc ms := by
  refine Met.ofW (cc := cc) (maxL := maxL) (ret := some .float) hy hw ?_
  intro p e s m args below meth c s₁ B hml hv
  obtain ⟨rfl, hsz, hP, hK, hD0⟩ := hv
  have hb := B.bytes
  have hlocks := B.notSynchronized
  rw [lg_entry_eq]
  subst hsz
  refine body (Q := MQ below (va_Qf post (fun u => Bo D (va_A w0 s.heap.size) (tys1 u) (w1 u)) (va_A w0 s.heap.size)) av.toArray s mc ms (va_A w0 s.heap.size)) (A := va_A w0 s.heap.size) rfl ⟨B.exec, B.bytes, hml, by rw [← hoy]; exact findClass_of_methodNamed B.named, atoms_spec (ws := ws) B.pre⟩ ⟨hK, hP, hD0.self, va_S.rf⟩ (fun q h => Or.inr h) ?_ _ (lv_entry av hlen)
  intro pc ls v H locs cells slots u hd hc hs hw hp
  refine W.widen hc hs ?_
  exact W.fret B.exec hb B.returns (fun t ht hW => ⟨⟨v, u, rfl, hp, by rw [ht]; exact hw.2.1, va_K.moved hW.alike hw.1, hw.2.2.1⟩, hw.2.2.2.F ht⟩) hw.2.2.2.2.2 hd hlocks
abbrev MUd {S : Type} (l : Launch) (y : MethodName) (ws : List Cond) (rm : Room) (av : List Value) (D : va_G) (tys : List (ClassId × FieldType)) (w0 : va_W) (sz : Nat) (post : UInt64 → S → Prop) (tys1 : S → List (ClassId × FieldType)) (w1 : S → va_W) (mc ms : Nat) : Prop := Met l y ws rm (va_Pc av (Bs D tys w0 sz)) (va_Qd post (fun u => Bo D (va_A w0 sz) (tys1 u) (w1 u)) (va_A w0 sz)) mc ms (va_A w0 sz)
theorem met_ud {S : Type} {sz : Nat} {post : UInt64 → S → Prop} {tys1 : S → List (ClassId × FieldType)} {w1 : S → va_W} {mc ms : Nat} (hy : plainName y.cls = true) (hoy : y.cls = own) (hw : ws = Cond.code y cc maxL (some .double) :: ws') (hlen : (lg_sl av).length ≤ maxL)
    (body : ∀ {p : Program} {e : Env} {s : State} {m : MethodId} {args : Array Value} {below : List Frame} {meth : Method} {c : Code} {Q : State → Prop} {A : Nat → Prop}, s.heap.size = sz → CallFix p m c cc maxL s args ws own → Wd D A tys w0 s s.heap s.heap [] → (∀ q, s.heap.size ≤ q → A q) →
      (∀ {pc : Nat} {ls : Array Slot} {v : UInt64} {H : Heap} {locs : List Loc} {cells slots : Nat} (u : S), decode cc pc = .ok (.dreturn, 1) → cells ≤ mc → slots ≤ ms → Wd D A (tys1 u) (w1 u) s s.heap H locs → post v u → W p l e rm s m args below meth c H locs cells slots Q (F0 m pc ls [.double v])) →
      ∀ ls : Array Slot, lv_has ls maxL (lv_args 0 av) → W p l e rm s m args below meth c s.heap [] 0 0 Q (F0 m 0 ls [])) : MUd l y ws rm av D tys w0 sz post tys1 w1 mc ms := by
  refine Met.ofW (cc := cc) (maxL := maxL) (ret := some .double) hy hw ?_
  intro p e s m args below meth c s₁ B hml hv
  obtain ⟨rfl, hsz, hP, hK, hD0⟩ := hv
  have hb := B.bytes
  have hlocks := B.notSynchronized
  rw [lg_entry_eq]
  subst hsz
  refine body (Q := MQ below (va_Qd post (fun u => Bo D (va_A w0 s.heap.size) (tys1 u) (w1 u)) (va_A w0 s.heap.size)) av.toArray s mc ms (va_A w0 s.heap.size)) (A := va_A w0 s.heap.size) rfl ⟨B.exec, B.bytes, hml, by rw [← hoy]; exact findClass_of_methodNamed B.named, atoms_spec (ws := ws) B.pre⟩ ⟨hK, hP, hD0.self, va_S.rf⟩ (fun q h => Or.inr h) ?_ _ (lv_entry av hlen)
  intro pc ls v H locs cells slots u hd hc hs hw hp
  refine W.widen hc hs ?_
  exact W.dret B.exec hb B.returns (fun t ht hW => ⟨⟨v, u, rfl, hp, by rw [ht]; exact hw.2.1, va_K.moved hW.alike hw.1, hw.2.2.1⟩, hw.2.2.2.F ht⟩) hw.2.2.2.2.2 hd hlocks
end MF
section CZ
variable {p : Program} {l : Launch} {e : Env} {R : Room} {s : State} {m : MethodId} {args : Array Value} {below : List Frame} {meth : Method} {c : Code} {H H0 : Heap} {locs : List Loc} {cells slots : Nat} {Q : State → Prop}
variable {cc bytes : ByteArray} {pc : Nat} {ls : Array Slot} {rest As : List Value} {D : va_G} {A : Nat → Prop} {tys tysC : List (ClassId × FieldType)} {w X wc wr tail : va_W} {Ts ws : List Cond} {own C host : String} {nL maxL n index mc ms b : Nat} {y : MethodName} {ret : Option FieldType} {rm : Room}
theorem cpx_i {S1 : Type} {post : Int32 → S1 → Prop} {tys1 : S1 → List (ClassId × FieldType)} {w1 pl : S1 → va_W} (S : CallFix p m c cc nL s args Ts own) (hz : XN s) (hM : MXi l y ws rm (.ref b :: As) D tysC (wc ++ tail) H.size post tys1 (fun u => w1 u ++ pl u) mc ms) (cw : CallW R s args own C index y bytes maxL ret ws rm mc ms n) (hw : Wd D A tys (X ++ tail) s H0 H locs) (hA : ∀ q, H0.size ≤ q → A q) (isC isR tC : List Nat) (hC : isC.map (fun i => X[i]?) = wc.map some) (hR : isR.map (fun i => X[i]?) = wr.map some) {k0 : Nat} (hk0 : X.length = k0) (hpp : (isC ++ isR).Perm (List.range k0)) (htC : tC.filterMap (fun i => tys[i]?) = tysC) (q0 : Nat) {ci N : Nat} {T : u_T} {fs : List Value} (hc : vwCl[ci]? = some (C, T, N)) (he : (wc ++ tail)[q0]? = some (b, .inr (ci, fs))) (hn : As.length = n) (hsize : ls.size = nL) (hW : (rest.map fun v => v.category).sum ≤ 8) (hf : cells + mc ≤ R.cells ∧ slots + ms ≤ R.slots) {st : List Value} (hst : st = As.reverse ++ .ref b :: rest) (hdg : decode cc pc = .ok (.invokevirtual index, 3))
    (kk : ∀ (r : Int32) (u : S1) (H1 : Heap) (locs1 : List Loc), post r u → Wd D A tys ((w1 u ++ wr) ++ pl u) s H0 H1 locs1 → W p l e R s m args below meth c H1 locs1 (cells + mc) (slots + ms) Q (F0 m (pc + 3) ls (.int r :: rest))) : W p l e R s m args below meth c H locs cells slots Q (F0 m pc ls st) := by
  have hp : (X ++ tail).Perm ((wc ++ tail) ++ wr) := by
    refine ((perm_pick isC isR hC hR (by rw [hk0]; exact hpp)).append_right _).trans ?_
    rw [List.append_assoc, List.append_assoc]
    exact List.perm_append_comm.append_left _
  have hqc := hw.part hp tC htC
  have hFc := hw.free hA hp
  refine va_calli (va_runV S hM cw ⟨fb_x, va_recv hqc.1 hqc.2.1 hc he, fun U hU hW => ⟨rfl, XN.warm hW hz, by rw [hU], by rw [hU]; exact hqc.2.1, va_K.moved hW.alike hqc.1, hqc.2.2.1.weaken (fun _ _ _ _ => trivial)⟩⟩ rfl hn hsize hst (lv_room (m := m) (pc := 0) (ls := ls) (rest := []) hW) hdg hf) hw.2.2.2 (fun q _ h => hFc q h) hFc ?_
  intro r u t H1 locs1 ht hvm hpo hB hz1 hk hS1
  have hj := hw.join hA hp ht hB hk hS1
  refine kk r u H1 locs1 hpo (hj.perm ?_)
  rw [List.append_assoc, List.append_assoc]
  exact List.perm_append_comm.append_left _
theorem cpx_f {S1 : Type} {post : UInt32 → S1 → Prop} {tys1 : S1 → List (ClassId × FieldType)} {w1 pl : S1 → va_W} (S : CallFix p m c cc nL s args Ts own) (hz : XN s) (hM : MXf l y ws rm (.ref b :: As) D tysC (wc ++ tail) H.size post tys1 (fun u => w1 u ++ pl u) mc ms) (cw : CallW R s args own C index y bytes maxL ret ws rm mc ms n) (hw : Wd D A tys (X ++ tail) s H0 H locs) (hA : ∀ q, H0.size ≤ q → A q) (isC isR tC : List Nat) (hC : isC.map (fun i => X[i]?) = wc.map some) (hR : isR.map (fun i => X[i]?) = wr.map some) {k0 : Nat} (hk0 : X.length = k0) (hpp : (isC ++ isR).Perm (List.range k0)) (htC : tC.filterMap (fun i => tys[i]?) = tysC) (q0 : Nat) {ci N : Nat} {T : u_T} {fs : List Value} (hc : vwCl[ci]? = some (C, T, N)) (he : (wc ++ tail)[q0]? = some (b, .inr (ci, fs))) (hn : As.length = n) (hsize : ls.size = nL) (hW : (rest.map fun v => v.category).sum ≤ 8) (hf : cells + mc ≤ R.cells ∧ slots + ms ≤ R.slots) {st : List Value} (hst : st = As.reverse ++ .ref b :: rest) (hdg : decode cc pc = .ok (.invokevirtual index, 3))
    (kk : ∀ (r : UInt32) (u : S1) (H1 : Heap) (locs1 : List Loc), post r u → Wd D A tys ((w1 u ++ wr) ++ pl u) s H0 H1 locs1 → W p l e R s m args below meth c H1 locs1 (cells + mc) (slots + ms) Q (F0 m (pc + 3) ls (.float r :: rest))) : W p l e R s m args below meth c H locs cells slots Q (F0 m pc ls st) := by
  have hp : (X ++ tail).Perm ((wc ++ tail) ++ wr) := by
    refine ((perm_pick isC isR hC hR (by rw [hk0]; exact hpp)).append_right _).trans ?_
    rw [List.append_assoc, List.append_assoc]
    exact List.perm_append_comm.append_left _
  have hqc := hw.part hp tC htC
  have hFc := hw.free hA hp
  refine va_callf (va_runV S hM cw ⟨fb_x, va_recv hqc.1 hqc.2.1 hc he, fun U hU hW => ⟨rfl, XN.warm hW hz, by rw [hU], by rw [hU]; exact hqc.2.1, va_K.moved hW.alike hqc.1, hqc.2.2.1.weaken (fun _ _ _ _ => trivial)⟩⟩ rfl hn hsize hst (lv_room (m := m) (pc := 0) (ls := ls) (rest := []) hW) hdg hf) hw.2.2.2 (fun q _ h => hFc q h) hFc ?_
  intro r u t H1 locs1 ht hvm hpo hB hz1 hk hS1
  have hj := hw.join hA hp ht hB hk hS1
  refine kk r u H1 locs1 hpo (hj.perm ?_)
  rw [List.append_assoc, List.append_assoc]
  exact List.perm_append_comm.append_left _
theorem cpx_d {S1 : Type} {post : UInt64 → S1 → Prop} {tys1 : S1 → List (ClassId × FieldType)} {w1 pl : S1 → va_W} (S : CallFix p m c cc nL s args Ts own) (hz : XN s) (hM : MXd l y ws rm (.ref b :: As) D tysC (wc ++ tail) H.size post tys1 (fun u => w1 u ++ pl u) mc ms) (cw : CallW R s args own C index y bytes maxL ret ws rm mc ms n) (hw : Wd D A tys (X ++ tail) s H0 H locs) (hA : ∀ q, H0.size ≤ q → A q) (isC isR tC : List Nat) (hC : isC.map (fun i => X[i]?) = wc.map some) (hR : isR.map (fun i => X[i]?) = wr.map some) {k0 : Nat} (hk0 : X.length = k0) (hpp : (isC ++ isR).Perm (List.range k0)) (htC : tC.filterMap (fun i => tys[i]?) = tysC) (q0 : Nat) {ci N : Nat} {T : u_T} {fs : List Value} (hc : vwCl[ci]? = some (C, T, N)) (he : (wc ++ tail)[q0]? = some (b, .inr (ci, fs))) (hn : As.length = n) (hsize : ls.size = nL) (hW : (rest.map fun v => v.category).sum ≤ 8) (hf : cells + mc ≤ R.cells ∧ slots + ms ≤ R.slots) {st : List Value} (hst : st = As.reverse ++ .ref b :: rest) (hdg : decode cc pc = .ok (.invokevirtual index, 3))
    (kk : ∀ (r : UInt64) (u : S1) (H1 : Heap) (locs1 : List Loc), post r u → Wd D A tys ((w1 u ++ wr) ++ pl u) s H0 H1 locs1 → W p l e R s m args below meth c H1 locs1 (cells + mc) (slots + ms) Q (F0 m (pc + 3) ls (.double r :: rest))) : W p l e R s m args below meth c H locs cells slots Q (F0 m pc ls st) := by
  have hp : (X ++ tail).Perm ((wc ++ tail) ++ wr) := by
    refine ((perm_pick isC isR hC hR (by rw [hk0]; exact hpp)).append_right _).trans ?_
    rw [List.append_assoc, List.append_assoc]
    exact List.perm_append_comm.append_left _
  have hqc := hw.part hp tC htC
  have hFc := hw.free hA hp
  refine va_calld (va_runV S hM cw ⟨fb_x, va_recv hqc.1 hqc.2.1 hc he, fun U hU hW => ⟨rfl, XN.warm hW hz, by rw [hU], by rw [hU]; exact hqc.2.1, va_K.moved hW.alike hqc.1, hqc.2.2.1.weaken (fun _ _ _ _ => trivial)⟩⟩ rfl hn hsize hst (lv_room (m := m) (pc := 0) (ls := ls) (rest := []) hW) hdg hf) hw.2.2.2 (fun q _ h => hFc q h) hFc ?_
  intro r u t H1 locs1 ht hvm hpo hB hz1 hk hS1
  have hj := hw.join hA hp ht hB hk hS1
  refine kk r u H1 locs1 hpo (hj.perm ?_)
  rw [List.append_assoc, List.append_assoc]
  exact List.perm_append_comm.append_left _
theorem cp_Vf {S1 : Type} {post : UInt32 → S1 → Prop} {tys1 : S1 → List (ClassId × FieldType)} {w1 : S1 → va_W} (S : CallFix p m c cc nL s args Ts own) (hM : MUf l y ws rm (.ref b :: As) D tysC wc H.size post tys1 w1 mc ms) (cw : CallW R s args own C index y bytes maxL ret ws rm mc ms n) (hw : Wd D A tys (X ++ tail) s H0 H locs) (hA : ∀ q, H0.size ≤ q → A q) (isC isR tC : List Nat) (hC : isC.map (fun i => X[i]?) = wc.map some) (hR : isR.map (fun i => X[i]?) = wr.map some) {k0 : Nat} (hk0 : X.length = k0) (hpp : (isC ++ isR).Perm (List.range k0)) (htC : tC.filterMap (fun i => tys[i]?) = tysC) (q0 : Nat) {ci N : Nat} {T : u_T} {fs : List Value} (hc : vwCl[ci]? = some (C, T, N)) (he : wc[q0]? = some (b, .inr (ci, fs))) (hn : As.length = n) (hsize : ls.size = nL) (hW : (rest.map fun v => v.category).sum ≤ 8) (hf : cells + mc ≤ R.cells ∧ slots + ms ≤ R.slots) {st : List Value} (hst : st = As.reverse ++ .ref b :: rest) (hdg : decode cc pc = .ok (.invokevirtual index, 3))
    (kk : ∀ (r : UInt32) (u : S1) (H1 : Heap) (locs1 : List Loc), post r u → Wd D A tys ((w1 u ++ wr) ++ tail) s H0 H1 locs1 → W p l e R s m args below meth c H1 locs1 (cells + mc) (slots + ms) Q (F0 m (pc + 3) ls (.float r :: rest))) : W p l e R s m args below meth c H locs cells slots Q (F0 m pc ls st) := by
  have hp : (X ++ tail).Perm (wc ++ (wr ++ tail)) := by rw [← List.append_assoc]; exact (perm_pick isC isR hC hR (by rw [hk0]; exact hpp)).append_right _
  have hqc := hw.part hp tC htC
  have hFc := hw.free hA hp
  refine va_callf (va_runV S hM cw ⟨fb_s, va_recv hqc.1 hqc.2.1 hc he, fun U hU hW => ⟨rfl, by rw [hU], by rw [hU]; exact hqc.2.1, va_K.moved hW.alike hqc.1, hqc.2.2.1.weaken (fun _ _ _ _ => trivial)⟩⟩ rfl hn hsize hst (lv_room (m := m) (pc := 0) (ls := ls) (rest := []) hW) hdg hf) hw.2.2.2 (fun q _ h => hFc q h) hFc ?_
  intro r u t H1 locs1 ht hvm hpo hB hz hk hS1
  have hj := hw.join hA hp ht hB hk hS1
  rw [← List.append_assoc] at hj
  exact kk r u H1 locs1 hpo hj
theorem cp_Vd {S1 : Type} {post : UInt64 → S1 → Prop} {tys1 : S1 → List (ClassId × FieldType)} {w1 : S1 → va_W} (S : CallFix p m c cc nL s args Ts own) (hM : MUd l y ws rm (.ref b :: As) D tysC wc H.size post tys1 w1 mc ms) (cw : CallW R s args own C index y bytes maxL ret ws rm mc ms n) (hw : Wd D A tys (X ++ tail) s H0 H locs) (hA : ∀ q, H0.size ≤ q → A q) (isC isR tC : List Nat) (hC : isC.map (fun i => X[i]?) = wc.map some) (hR : isR.map (fun i => X[i]?) = wr.map some) {k0 : Nat} (hk0 : X.length = k0) (hpp : (isC ++ isR).Perm (List.range k0)) (htC : tC.filterMap (fun i => tys[i]?) = tysC) (q0 : Nat) {ci N : Nat} {T : u_T} {fs : List Value} (hc : vwCl[ci]? = some (C, T, N)) (he : wc[q0]? = some (b, .inr (ci, fs))) (hn : As.length = n) (hsize : ls.size = nL) (hW : (rest.map fun v => v.category).sum ≤ 8) (hf : cells + mc ≤ R.cells ∧ slots + ms ≤ R.slots) {st : List Value} (hst : st = As.reverse ++ .ref b :: rest) (hdg : decode cc pc = .ok (.invokevirtual index, 3))
    (kk : ∀ (r : UInt64) (u : S1) (H1 : Heap) (locs1 : List Loc), post r u → Wd D A tys ((w1 u ++ wr) ++ tail) s H0 H1 locs1 → W p l e R s m args below meth c H1 locs1 (cells + mc) (slots + ms) Q (F0 m (pc + 3) ls (.double r :: rest))) : W p l e R s m args below meth c H locs cells slots Q (F0 m pc ls st) := by
  have hp : (X ++ tail).Perm (wc ++ (wr ++ tail)) := by rw [← List.append_assoc]; exact (perm_pick isC isR hC hR (by rw [hk0]; exact hpp)).append_right _
  have hqc := hw.part hp tC htC
  have hFc := hw.free hA hp
  refine va_calld (va_runV S hM cw ⟨fb_s, va_recv hqc.1 hqc.2.1 hc he, fun U hU hW => ⟨rfl, by rw [hU], by rw [hU]; exact hqc.2.1, va_K.moved hW.alike hqc.1, hqc.2.2.1.weaken (fun _ _ _ _ => trivial)⟩⟩ rfl hn hsize hst (lv_room (m := m) (pc := 0) (ls := ls) (rest := []) hW) hdg hf) hw.2.2.2 (fun q _ h => hFc q h) hFc ?_
  intro r u t H1 locs1 ht hvm hpo hB hz hk hS1
  have hj := hw.join hA hp ht hB hk hS1
  rw [← List.append_assoc] at hj
  exact kk r u H1 locs1 hpo hj
/-- a constructor that needs the nest's links -/
theorem cx_Iv {S1 : Type} {post : S1 → Prop} {tys1 : S1 → List (ClassId × FieldType)} {w1 : S1 → va_W} (S : CallFix p m c cc nL s args Ts own) (hz : XN s) (hM : MXv l y ws rm (.ref b :: As) D tysC wc H.size post tys1 w1 mc ms) (cw : CallB R s args own index y bytes maxL none ws rm mc ms n ∧ y.name = "<init>" ∧ (Cond.instanceMethod y).before args s = true) (hw : Wd D A tys w s H0 H locs) (hA : ∀ q, H0.size ≤ q → A q) (isC isR tC : List Nat) (hC : isC.map (fun i => w[i]?) = wc.map some) (hR : isR.map (fun i => w[i]?) = wr.map some) (htC : tC.filterMap (fun i => tys[i]?) = tysC) (hnC : va_nd isC = true) (hnR : va_nd isR = true) (hdis : ∀ i ∈ isR, i ∉ isC) (hn : As.length = n) (hsize : ls.size = nL) (hW : (rest.map fun v => v.category).sum ≤ 8) (hf : cells + mc ≤ R.cells ∧ slots + ms ≤ R.slots) {st : List Value} (hst : st = As.reverse ++ .ref b :: rest) (hdg : decode cc pc = .ok (.invokespecial index, 3))
    (kk : ∀ (u : S1) (H1 : Heap) (locs1 : List Loc), post u → Wd D A (tys ++ tys1 u) (wr ++ w1 u) s H0 H1 locs1 → W p l e R s m args below meth c H1 locs1 (cells + mc) (slots + ms) Q (F0 m (pc + 3) ls rest)) : W p l e R s m args below meth c H locs cells slots Q (F0 m pc ls st) := by
  have hqc : Wd D A tysC wc s H0 H locs := hw.sub isC tC hnC hC htC
  have hFc := va_free hw.2.2.1 hw.2.2.2 hA isC hC
  refine va_callv (va_runI S hM cw ⟨fb_x, fun U hU hW => ⟨rfl, XN.warm hW hz, by rw [hU], by rw [hU]; exact hqc.2.1, va_K.moved hW.alike hqc.1, hqc.2.2.1.weaken (fun _ _ _ _ => trivial)⟩⟩ rfl hn hsize hst (lv_room (m := m) (pc := 0) (ls := ls) (rest := []) hW) hdg hf) hw.2.2.2 (fun q _ h => hFc q h) hFc ?_
  intro u t H1 locs1 ht hvm hp hB hz hk hS1
  exact kk u H1 locs1 hp (Wd.back (S := S1) hw hA isC isR hC hR hnR hdis ht hvm hB hk hS1)
-- arrays of longs and doubles, the script
theorem r_dald (hx : p.tables.exec = Jvm.exec) (hb : c.code = cc) (hq : Wq D tys w s H) (q0 t0 : Nat) {a : Nat} {cA : ClassId} {n : Nat} {f : Nat → UInt64} (ha : w[q0]? = some (a, .inl (cA, n, .inr (.inr (.inr (.inl f)))))) (ht : tys[t0]? = some (cA, .double)) {i : Nat} (hi : i < n) (hn : n < 2 ^ 31) (hdg : decode cc pc = .ok (.daload, 1))
    (kk : W p l e R s m args below meth c H locs cells slots Q (F0 m (pc + 1) ls (.double (f i) :: rest))) : W p l e R s m args below meth c H locs cells slots Q (F0 m pc ls (.int (nI i) :: .ref a :: rest)) :=
  va_dald hx hb hq.1 hq.2 q0 t0 ha ht (vp_in_nI hi hn) hdg (by rw [nI_clamp (Nat.lt_trans hi hn)]; exact kk)
theorem r_dast (hx : p.tables.exec = Jvm.exec) (hb : c.code = cc) (hw : Wd D A tys w s H0 H locs) (q0 t0 : Nat) {a : Nat} {cA : ClassId} {n : Nat} {f : Nat → UInt64} {x : UInt64} (ha : w[q0]? = some (a, .inl (cA, n, .inr (.inr (.inr (.inl f)))))) (ht : tys[t0]? = some (cA, .double)) {i : Nat} (hi : i < n) (hn : n < 2 ^ 31) (hdg : decode cc pc = .ok (.dastore, 1))
    (kk : ∀ (H1 : Heap) (locs1 : List Loc) (g : Nat → UInt64), g i = x → Wd D A tys (w.set q0 (a, .inl (cA, n, .inr (.inr (.inr (.inl g)))))) s H0 H1 locs1 → W p l e R s m args below meth c H1 locs1 cells slots Q (F0 m (pc + 1) ls rest)) : W p l e R s m args below meth c H locs cells slots Q (F0 m pc ls (.double x :: .int (nI i) :: .ref a :: rest)) :=
  va_dast hx hb hw.1 hw.2.1 hw.2.2.1 hw.2.2.2 q0 t0 ha ht (vp_in_nI hi hn) hdg (fun H1 l1 h1 h2 h3 => by
    rw [nI_clamp (Nat.lt_trans hi hn)] at h1 h2
    exact kk H1 l1 _ (if_pos rfl) ⟨hw.1, h1, h2, h3⟩)
end CZ
