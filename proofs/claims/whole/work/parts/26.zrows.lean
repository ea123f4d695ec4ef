/-! floats; contracts of methods that may throw; calls in worlds with a tail -/
theorem fl_n32 {x : UInt32} (h : FP.Core.fIsNaN x = false) : vf_n32 x := by
  unfold vf_n32
  rw [UInt32.le_iff_toNat_le, UInt32.toNat_and]
  have h1 : (0x7fffffff : UInt32).toNat = 2 ^ 31 - 1 := by decide
  have h2 : (0x7f800000 : UInt32).toNat = 2139095040 := by decide
  rw [h1, h2, Nat.and_two_pow_sub_one_eq_mod]
  rw [← Bool.not_eq_true, FP.Core.isNaN_bits32] at h
  omega
theorem fl_n64 {x : UInt64} (h : FP.Core.dIsNaN x = false) : vf_n64 x := by
  unfold vf_n64
  rw [UInt64.le_iff_toNat_le, UInt64.toNat_and]
  have h1 : (0x7fffffffffffffff : UInt64).toNat = 2 ^ 63 - 1 := by decide
  have h2 : (0x7ff0000000000000 : UInt64).toNat = 9218868437227405312 := by decide
  rw [h1, h2, Nat.and_two_pow_sub_one_eq_mod]
  rw [← Bool.not_eq_true, FP.Core.isNaN_bits] at h
  omega
theorem fl_fin32 {x : UInt32} (h : FP.Core.FFin x) : FP.Core.fIsNaN x = false := by
  rw [← Bool.not_eq_true, FP.Core.isNaN_bits32]
  have := (FP.Core.fin_bits32 x).mp h
  omega
theorem fl_fin64 {x : UInt64} (h : FP.Core.DFin x) : FP.Core.dIsNaN x = false := by
  rw [← Bool.not_eq_true, FP.Core.isNaN_bits]
  have := (FP.Core.fin_bits x).mp h
  omega
theorem fl_mean (a : Int32) {n : Nat} (h0 : 0 < n) (h : n < 2 ^ 31) : FP.Core.fIsNaN (FP.fdiv (FP.i2f a) (FP.i2f (nI n))) = false :=
  FP.Core.fdiv_out (fl_fin32 (FP.Core.i2f_fin a)) (FP.Core.i2f_fin (nI n)) (fun z => FP.Core.i2f_ne_zero (nI_ne0 h0 h) ((FP.Core.zero_bits232 _).mp z))
def d30 : UInt64 := 4629137466983448576
theorem d30_fin : FP.Core.DFin d30 := (FP.Core.fin_bits d30).mpr (by decide)
theorem d30_nz : ¬ FP.Core.DZero d30 := fun z => absurd ((FP.Core.zero_bits2 d30).mp z) (by decide)
theorem fl_agr (n : Nat) : FP.Core.dIsNaN (FP.ddiv (FP.i2d (nI n)) d30) = false := FP.Core.ddiv_out (fl_fin64 (FP.Core.i2d_fin (nI n))) d30_fin d30_nz
/-- a mean of n values with this sum -/
def mnF (n : Nat) (x : Int32) : UInt32 := if n = 0 then FP.fconst0 else FP.fdiv (FP.i2f x) (FP.i2f (nI n))
theorem mnF_0 {n : Nat} (x : Int32) (h : n = 0) : FP.fconst0 = mnF n x := by rw [mnF, if_pos h]
theorem mnF_p {n : Nat} (x : Int32) (h : 0 < n) : FP.fdiv (FP.i2f x) (FP.i2f (nI n)) = mnF n x := by rw [mnF, if_neg (Nat.ne_of_gt h)]
theorem mnF_n (n : Nat) (x : Int32) (h : n < 2 ^ 31) : FP.Core.fIsNaN (mnF n x) = false := by
  by_cases e : n = 0
  · rw [← mnF_0 x e]; decide +kernel
  · rw [← mnF_p x (Nat.pos_of_ne_zero e)]; exact fl_mean x (Nat.pos_of_ne_zero e) h
theorem mnF_d (n : Nat) (x : Int32) (h : n < 2 ^ 31) : FP.Core.dIsNaN (FP.f2d (mnF n x)) = false := (FP.f2d_nan _).trans (mnF_n n x h)
theorem fl_cmp {x : UInt64} (h : FP.Core.dIsNaN x = false) : Op.cmpValue (FP.dcmp x x) .l = 0 := by
  rw [show FP.dcmp x x = some .eq from FP.Core.dcmp_self ((FP.Core.notNaN_iff x).mp h)]
  rfl
def agF (n : Nat) : UInt64 := FP.ddiv (FP.i2d (nI n)) d30
/-! what a launch without stack traces, and the tables, give to a throw -/
def XNm : List String := ["java/lang/RuntimeException", "java/lang/Exception"]
def SLs : List (Nat × String) := [(39, "no column into which a value can be put"), (46, "the value is out of range"), (57, "the amount is out of range or 0"), (87, "the character code is out of range"), (95, "the text is full"), (106, "the text is not valid"), (121, "there is no saved state"), (129, "the index is negative"), (140, "no such column"), (164, "no such part"), (169, "no such part of a merge to come"), (177, "no such replica"), (179, "no such row"), (181, "the element is out of range"), (183, "both replicas are the same")]
def XW : List Cond := [.declares (Bundle.initS "java/lang/RuntimeException"), .declares (Bundle.initS "java/lang/Exception"), .declares (Bundle.initS Bundle.tN), .castable "java/lang/IndexOutOfBoundsException" "java/lang/IndexOutOfBoundsException", .castable "java/lang/IllegalArgumentException" "java/lang/IllegalArgumentException", .castable "java/lang/IllegalStateException" "java/lang/IllegalStateException"]
def XE (U : State) : Prop := (∀ w ∈ XW, va_Nw w U) ∧ va_Nc "java/lang/IllegalArgumentException" "java/lang/IndexOutOfBoundsException" U ∧ va_Nc "java/lang/IllegalStateException" "java/lang/IllegalArgumentException" U ∧ ∀ q ∈ SLs, ∃ sa : Nat, vk_R "CausalTable" q.1 q.2 sa U
theorem XW_on : ∀ w ∈ XW, w.onTables = true := by decide
theorem XE.same {u U : State} (h : u.vm = U.vm) (hz : XE u) : XE U := ⟨fun w hw => va_Nw.same (XW_on w hw) h (hz.1 w hw), va_Nc.moved (by rw [h]; exact Vm.Alike.refl _) hz.2.1, va_Nc.moved (by rw [h]; exact Vm.Alike.refl _) hz.2.2.1, fun q hq => by
  obtain ⟨sa, h1⟩ := hz.2.2.2 q hq
  exact ⟨sa, vk_R.same h.symm h1⟩⟩
theorem XE.warm {s U : State} (hW : s.WarmedH U.vm) (hz : XE s) : XE U := by
  refine ⟨fun w hw => ?_, va_Nc.moved hW.alike hz.2.1, va_Nc.moved hW.alike hz.2.2.1, fun q hq => ?_⟩
  · have h := hz.1 w hw
    simp only [XW, List.mem_cons, List.not_mem_nil, or_false] at hw
    rcases hw with rfl | rfl | rfl | rfl | rfl | rfl
    · exact va_Nw.warmD hW h
    · exact va_Nw.warmD hW h
    · exact va_Nw.warmD hW h
    · exact va_Nw.warmC hW h
    · exact va_Nw.warmC hW h
    · exact va_Nw.warmC hW h
  · obtain ⟨sa, h1⟩ := hz.2.2.2 q hq
    exact ⟨sa, vk_R.warm hW h1⟩
theorem XE.at {U : State} (hz : XE U) {args : Array Value} : ∀ w ∈ XW, w.before args U = true := fun w hw => va_Nw.use (XW_on w hw) (hz.1 w hw)
theorem XE.str {U : State} (hz : XE U) (k : Nat) {q : Nat × String} (hk : SLs[k]? = some q) : ∃ sa : Nat, vk_R "CausalTable" q.1 q.2 sa U := hz.2.2.2 q (List.mem_of_getElem? hk)
def ZQ (A : Nat → Prop) (U : State) (H : Heap) : Prop := vx_Zq Bundle.tN "UNASSIGNED_STACK" Bundle.steD A U H ∧ vx_Zq Bundle.tN "SUPPRESSED_SENTINEL" Bundle.listD A U H
theorem ZQ.moved {A : Nat → Prop} {u U : State} {H : Heap} (hvm : u.vm.Alike U.vm) (h : ZQ A u H) : ZQ A U H := ⟨vx_Zq.moved hvm h.1, vx_Zq.moved hvm h.2⟩
theorem ZQ.kept {A : Nat → Prop} {U : State} {H H1 : Heap} (h : ZQ A U H) (hq : ∀ a : Nat, a < H.size → ¬ A a → H1[a]? = H[a]?) : ZQ A U H1 := ⟨h.1.kept hq, h.2.kept hq⟩
theorem ZQ.narrow {A B : Nat → Prop} {U : State} {H : Heap} (h : ZQ A U H) (hAB : ∀ q, B q → A q) : ZQ B U H := ⟨h.1.narrow hAB, h.2.narrow hAB⟩
theorem xb_1 : ∀ w ∈ (vx_atS RX3 41 "java/lang/IndexOutOfBoundsException" ["java/lang/RuntimeException", "java/lang/Exception"]).filter (fun w => !goodWord w), w ∈ XW := by decide +kernel
theorem xa_1 {args : Array Value} {s : State} (h : ∀ w ∈ (vx_atS RX3 41 "java/lang/IndexOutOfBoundsException" ["java/lang/RuntimeException", "java/lang/Exception"]).filter goodWord, w.before args s = true) (he : XE s) : ∀ w ∈ vx_atS RX3 41 "java/lang/IndexOutOfBoundsException" ["java/lang/RuntimeException", "java/lang/Exception"], w.before args s = true := vx_hat h xb_1 he.at
theorem xg_1 : ∀ w ∈ Cond.classLink RX3 37 "java/lang/IndexOutOfBoundsException" :: Cond.initialized "java/lang/IndexOutOfBoundsException" :: vx_atS RX3 41 "java/lang/IndexOutOfBoundsException" ["java/lang/RuntimeException", "java/lang/Exception"], vx_ot w = true := by decide +kernel
theorem xb_2 : ∀ w ∈ (vx_atS RX3 48 "java/lang/IllegalArgumentException" ["java/lang/RuntimeException", "java/lang/Exception"]).filter (fun w => !goodWord w), w ∈ XW := by decide +kernel
theorem xa_2 {args : Array Value} {s : State} (h : ∀ w ∈ (vx_atS RX3 48 "java/lang/IllegalArgumentException" ["java/lang/RuntimeException", "java/lang/Exception"]).filter goodWord, w.before args s = true) (he : XE s) : ∀ w ∈ vx_atS RX3 48 "java/lang/IllegalArgumentException" ["java/lang/RuntimeException", "java/lang/Exception"], w.before args s = true := vx_hat h xb_2 he.at
theorem xg_2 : ∀ w ∈ Cond.classLink RX3 44 "java/lang/IllegalArgumentException" :: Cond.initialized "java/lang/IllegalArgumentException" :: vx_atS RX3 48 "java/lang/IllegalArgumentException" ["java/lang/RuntimeException", "java/lang/Exception"], vx_ot w = true := by decide +kernel
theorem xb_3 : ∀ w ∈ (vx_atS RX3 97 "java/lang/IllegalStateException" ["java/lang/RuntimeException", "java/lang/Exception"]).filter (fun w => !goodWord w), w ∈ XW := by decide +kernel
theorem xa_3 {args : Array Value} {s : State} (h : ∀ w ∈ (vx_atS RX3 97 "java/lang/IllegalStateException" ["java/lang/RuntimeException", "java/lang/Exception"]).filter goodWord, w.before args s = true) (he : XE s) : ∀ w ∈ vx_atS RX3 97 "java/lang/IllegalStateException" ["java/lang/RuntimeException", "java/lang/Exception"], w.before args s = true := vx_hat h xb_3 he.at
theorem xg_3 : ∀ w ∈ Cond.classLink RX3 93 "java/lang/IllegalStateException" :: Cond.initialized "java/lang/IllegalStateException" :: vx_atS RX3 97 "java/lang/IllegalStateException" ["java/lang/RuntimeException", "java/lang/Exception"], vx_ot w = true := by decide +kernel
def Bz (D : va_G) (tys : List (ClassId × FieldType)) (ws : va_W) (sz : Nat) : State → Prop := fun U => XN U ∧ XE U ∧ ZQ (va_A ws sz) U U.heap ∧ Bs D tys ws sz U
theorem fb_z {av : List Value} {D : va_G} {tys : List (ClassId × FieldType)} {ws : va_W} {sz : Nat} : FrameBlind (va_Pc av (Bz D tys ws sz)) := fun a U g mk q => by
  obtain ⟨h0, hz, he, hq, h1, h2, h3, h4⟩ := q
  exact ⟨h0, XN.same (u := U) (U := U.calling g mk a) rfl hz, XE.same (u := U) (U := U.calling g mk a) rfl he, ZQ.moved (u := U) (U := U.calling g mk a) (Vm.Alike.refl U.vm) hq, h1, h2, va_K.moved (u := U) (U := U.calling g mk a) (Vm.Alike.refl U.vm) h3, h4⟩
section MF
variable {l : Launch} {own : String} {y : MethodName} {ws ws' : List Cond} {rm : Room} {cc : ByteArray} {maxL : Nat} {D : va_G} {tys : List (ClassId × FieldType)} {w0 : va_W} {av : List Value}
abbrev MXf {S : Type} (l : Launch) (y : MethodName) (ws : List Cond) (rm : Room) (av : List Value) (D : va_G) (tys : List (ClassId × FieldType)) (w0 : va_W) (sz : Nat) (post : UInt32 → S → Prop) (tys1 : S → List (ClassId × FieldType)) (w1 : S → va_W) (mc ms : Nat) : Prop := Met l y ws rm (va_Pc av (Bx D tys w0 sz)) (va_Qf post (fun u => Bo D (va_A w0 sz) (tys1 u) (w1 u)) (va_A w0 sz)) mc ms (va_A w0 sz)
theorem met_xf {S : Type} {sz : Nat} {post : UInt32 → S → Prop} {tys1 : S → List (ClassId × FieldType)} {w1 : S → va_W} {mc ms : Nat} (hy : plainName y.cls = true) (hoy : y.cls = own) (hw : ws = Cond.code y cc maxL (some .float) :: ws') (hlen : (lg_sl av).length ≤ maxL)
    (body : ∀ {p : Program} {e : Env} {s : State} {m : MethodId} {args : Array Value} {below : List Frame} {meth : Method} {c : Code} {Q : State → Prop} {A : Nat → Prop}, s.heap.size = sz → CallFix p m c cc maxL s args ws own → XN s → Wd D A tys w0 s s.heap s.heap [] → (∀ q, s.heap.size ≤ q → A q) →
      (∀ {pc : Nat} {ls : Array Slot} {v : UInt32} {H : Heap} {locs : List Loc} {cells slots : Nat} (u : S), decode cc pc = .ok (.freturn, 1) → cells ≤ mc → slots ≤ ms → Wd D A (tys1 u) (w1 u) s s.heap H locs → post v u → W p l e rm s m args below meth c H locs cells slots Q (F0 m pc ls [.float v])) →
      ∀ ls : Array Slot, lv_has ls maxL (lv_args 0 av) → W p l e rm s m args below meth c s.heap [] 0 0 Q (F0 m 0 ls [])) : MXf l y ws rm av D tys w0 sz post tys1 w1 mc ms := by
  refine Met.ofW (cc := cc) (maxL := maxL) (ret := some .float) hy hw ?_
  intro p e s m args below meth c s₁ B hml hv
  obtain ⟨rfl, hz, hsz, hP, hK, hD0⟩ := hv
  have hb := B.bytes
  have hlocks := B.notSynchronized
  rw [lg_entry_eq]
  subst hsz
  refine body (Q := MQ below (va_Qf post (fun u => Bo D (va_A w0 s.heap.size) (tys1 u) (w1 u)) (va_A w0 s.heap.size)) av.toArray s mc ms (va_A w0 s.heap.size)) (A := va_A w0 s.heap.size) rfl ⟨B.exec, B.bytes, hml, by rw [← hoy]; exact findClass_of_methodNamed B.named, atoms_spec (ws := ws) B.pre⟩ hz ⟨hK, hP, hD0.self, va_S.rf⟩ (fun q h => Or.inr h) ?_ _ (lv_entry av hlen)
  intro pc ls v H locs cells slots u hd hc hs hw hp
  refine W.widen hc hs ?_
  exact W.fret B.exec hb B.returns (fun t ht hW => ⟨⟨v, u, rfl, hp, by rw [ht]; exact hw.2.1, va_K.moved hW.alike hw.1, hw.2.2.1⟩, hw.2.2.2.F ht⟩) hw.2.2.2.2.2 hd hlocks
abbrev MXd {S : Type} (l : Launch) (y : MethodName) (ws : List Cond) (rm : Room) (av : List Value) (D : va_G) (tys : List (ClassId × FieldType)) (w0 : va_W) (sz : Nat) (post : UInt64 → S → Prop) (tys1 : S → List (ClassId × FieldType)) (w1 : S → va_W) (mc ms : Nat) : Prop := Met l y ws rm (va_Pc av (Bx D tys w0 sz)) (va_Qd post (fun u => Bo D (va_A w0 sz) (tys1 u) (w1 u)) (va_A w0 sz)) mc ms (va_A w0 sz)
theorem met_xd {S : Type} {sz : Nat} {post : UInt64 → S → Prop} {tys1 : S → List (ClassId × FieldType)} {w1 : S → va_W} {mc ms : Nat} (hy : plainName y.cls = true) (hoy : y.cls = own) (hw : ws = Cond.code y cc maxL (some .double) :: ws') (hlen : (lg_sl av).length ≤ maxL)
    (body : ∀ {p : Program} {e : Env} {s : State} {m : MethodId} {args : Array Value} {below : List Frame} {meth : Method} {c : Code} {Q : State → Prop} {A : Nat → Prop}, s.heap.size = sz → CallFix p m c cc maxL s args ws own → XN s → Wd D A tys w0 s s.heap s.heap [] → (∀ q, s.heap.size ≤ q → A q) →
      (∀ {pc : Nat} {ls : Array Slot} {v : UInt64} {H : Heap} {locs : List Loc} {cells slots : Nat} (u : S), decode cc pc = .ok (.dreturn, 1) → cells ≤ mc → slots ≤ ms → Wd D A (tys1 u) (w1 u) s s.heap H locs → post v u → W p l e rm s m args below meth c H locs cells slots Q (F0 m pc ls [.double v])) →
      ∀ ls : Array Slot, lv_has ls maxL (lv_args 0 av) → W p l e rm s m args below meth c s.heap [] 0 0 Q (F0 m 0 ls [])) : MXd l y ws rm av D tys w0 sz post tys1 w1 mc ms := by
  refine Met.ofW (cc := cc) (maxL := maxL) (ret := some .double) hy hw ?_
  intro p e s m args below meth c s₁ B hml hv
  obtain ⟨rfl, hz, hsz, hP, hK, hD0⟩ := hv
  have hb := B.bytes
  have hlocks := B.notSynchronized
  rw [lg_entry_eq]
  subst hsz
  refine body (Q := MQ below (va_Qd post (fun u => Bo D (va_A w0 s.heap.size) (tys1 u) (w1 u)) (va_A w0 s.heap.size)) av.toArray s mc ms (va_A w0 s.heap.size)) (A := va_A w0 s.heap.size) rfl ⟨B.exec, B.bytes, hml, by rw [← hoy]; exact findClass_of_methodNamed B.named, atoms_spec (ws := ws) B.pre⟩ hz ⟨hK, hP, hD0.self, va_S.rf⟩ (fun q h => Or.inr h) ?_ _ (lv_entry av hlen)
  intro pc ls v H locs cells slots u hd hc hs hw hp
  refine W.widen hc hs ?_
  exact W.dret B.exec hb B.returns (fun t ht hW => ⟨⟨v, u, rfl, hp, by rw [ht]; exact hw.2.1, va_K.moved hW.alike hw.1, hw.2.2.1⟩, hw.2.2.2.F ht⟩) hw.2.2.2.2.2 hd hlocks
abbrev MUf {S : Type} (l : Launch) (y : MethodName) (ws : List Cond) (rm : Room) (av : List Value) (D : va_G) (tys : List (ClassId × FieldType)) (w0 : va_W) (sz : Nat) (post : UInt32 → S → Prop) (tys1 : S → List (ClassId × FieldType)) (w1 : S → va_W) (mc ms : Nat) : Prop := Met l y ws rm (va_Pc av (Bs D tys w0 sz)) (va_Qf post (fun u => Bo D (va_A w0 sz) (tys1 u) (w1 u)) (va_A w0 sz)) mc ms (va_A w0 sz)
theorem met_uf {S : Type} {sz : Nat} {post : UInt32 → S → Prop} {tys1 : S → List (ClassId × FieldType)} {w1 : S → va_W} {mc ms : Nat} (hy : plainName y.cls = true) (hoy : y.cls = own) (hw : ws = Cond.code y cc maxL (some .float) :: ws') (hlen : (lg_sl av).length ≤ maxL)
    (body : ∀ {p : Program} {e : Env} {s : State} {m : MethodId} {args : Array Value} {below : List Frame} {meth : Method} {c : Code} {Q : State → Prop} {A : Nat → Prop}, s.heap.size = sz → CallFix p m c cc maxL s args ws own → Wd D A tys w0 s s.heap s.heap [] → (∀ q, s.heap.size ≤ q → A q) →
      (∀ {pc : Nat} {ls : Array Slot} {v : UInt32} {H : Heap} {locs : List Loc} {cells slots : Nat} (u : S), decode cc pc = .ok (.freturn, 1) → cells ≤ mc → slots ≤ ms → Wd D A (tys1 u) (w1 u) s s.heap H locs → post v u → W p l e rm s m args below meth c H locs cells slots Q (F0 m pc ls [.float v])) →
      ∀ ls : Array Slot, lv_has ls maxL (lv_args 0 av) → W p l e rm s m args below meth c s.heap [] 0 0 Q (F0 m 0 ls [])) : MUf l y ws rm av D tys w0 sz post tys1 w1 mc ms := by
  refine Met.ofW (cc := cc) (maxL := maxL) (ret := some .float) hy hw ?_
  intro p e s m args below meth c s₁ B hml hv
  obtain ⟨rfl, hsz, hP, hK, hD0⟩ := hv
  have hb := B.bytes
  have hlocks := B.notSynchronized
  rw [lg_entry_eq]
  subst hsz
  refine body (Q := MQ below (va_Qf post (fun u => Bo D (va_A w0 s.heap.size) (tys1 u) (w1 u)) (va_A w0 s.heap.size)) av.toArray s mc ms (va_A w0 s.heap.size)) (A := va_A w0 s.heap.size) rfl ⟨B.exec, B.bytes, hml, by rw [← hoy]; exact findClass_of_methodNamed B.named, atoms_spec (ws := ws) B.pre⟩ ⟨hK, hP, hD0.self, va_S.rf⟩ (fun q h => Or.inr h) ?_ _ (lv_entry av hlen)
  intro pc ls v H locs cells slots u hd hc hs hw hp
  refine W.widen hc hs ?_
  exact W.fret B.exec hb B.returns (fun t ht hW => ⟨⟨v, u, rfl, hp, by rw [ht]; exact hw.2.1, va_K.moved hW.alike hw.1, hw.2.2.1⟩, hw.2.2.2.F ht⟩) hw.2.2.2.2.2 hd hlocks
abbrev MUd {S : Type} (l : Launch) (y : MethodName) (ws : List Cond) (rm : Room) (av : List Value) (D : va_G) (tys : List (ClassId × FieldType)) (w0 : va_W) (sz : Nat) (post : UInt64 → S → Prop) (tys1 : S → List (ClassId × FieldType)) (w1 : S → va_W) (mc ms : Nat) : Prop := Met l y ws rm (va_Pc av (Bs D tys w0 sz)) (va_Qd post (fun u => Bo D (va_A w0 sz) (tys1 u) (w1 u)) (va_A w0 sz)) mc ms (va_A w0 sz)
theorem met_ud {S : Type} {sz : Nat} {post : UInt64 → S → Prop} {tys1 : S → List (ClassId × FieldType)} {w1 : S → va_W} {mc ms : Nat} (hy : plainName y.cls = true) (hoy : y.cls = own) (hw : ws = Cond.code y cc maxL (some .double) :: ws') (hlen : (lg_sl av).length ≤ maxL)
    (body : ∀ {p : Program} {e : Env} {s : State} {m : MethodId} {args : Array Value} {below : List Frame} {meth : Method} {c : Code} {Q : State → Prop} {A : Nat → Prop}, s.heap.size = sz → CallFix p m c cc maxL s args ws own → Wd D A tys w0 s s.heap s.heap [] → (∀ q, s.heap.size ≤ q → A q) →
      (∀ {pc : Nat} {ls : Array Slot} {v : UInt64} {H : Heap} {locs : List Loc} {cells slots : Nat} (u : S), decode cc pc = .ok (.dreturn, 1) → cells ≤ mc → slots ≤ ms → Wd D A (tys1 u) (w1 u) s s.heap H locs → post v u → W p l e rm s m args below meth c H locs cells slots Q (F0 m pc ls [.double v])) →
      ∀ ls : Array Slot, lv_has ls maxL (lv_args 0 av) → W p l e rm s m args below meth c s.heap [] 0 0 Q (F0 m 0 ls [])) : MUd l y ws rm av D tys w0 sz post tys1 w1 mc ms := by
  refine Met.ofW (cc := cc) (maxL := maxL) (ret := some .double) hy hw ?_
  intro p e s m args below meth c s₁ B hml hv
  obtain ⟨rfl, hsz, hP, hK, hD0⟩ := hv
  have hb := B.bytes
  have hlocks := B.notSynchronized
  rw [lg_entry_eq]
  subst hsz
  refine body (Q := MQ below (va_Qd post (fun u => Bo D (va_A w0 s.heap.size) (tys1 u) (w1 u)) (va_A w0 s.heap.size)) av.toArray s mc ms (va_A w0 s.heap.size)) (A := va_A w0 s.heap.size) rfl ⟨B.exec, B.bytes, hml, by rw [← hoy]; exact findClass_of_methodNamed B.named, atoms_spec (ws := ws) B.pre⟩ ⟨hK, hP, hD0.self, va_S.rf⟩ (fun q h => Or.inr h) ?_ _ (lv_entry av hlen)
  intro pc ls v H locs cells slots u hd hc hs hw hp
  refine W.widen hc hs ?_
  exact W.dret B.exec hb B.returns (fun t ht hW => ⟨⟨v, u, rfl, hp, by rw [ht]; exact hw.2.1, va_K.moved hW.alike hw.1, hw.2.2.1⟩, hw.2.2.2.F ht⟩) hw.2.2.2.2.2 hd hlocks
/-- a method with a table of its own, that answers an int -/
abbrev MZi {S : Type} (l : Launch) (y : MethodName) (ws : List Cond) (rm : Room) (av : List Value) (D : va_G) (tys : List (ClassId × FieldType)) (w0 : va_W) (sz : Nat) (post : Int32 → S → Prop) (tys1 : S → List (ClassId × FieldType)) (w1 : S → va_W) (mc ms : Nat) : Prop := Met l y ws rm (va_Pc av (Bz D tys w0 sz)) (va_Qi post (fun u => Bo D (va_A w0 sz) (tys1 u) (w1 u)) (va_A w0 sz)) mc ms (va_A w0 sz)
theorem met_zi {S : Type} {sz : Nat} {hh : List (Nat × Nat × Nat × Nat)} {post : Int32 → S → Prop} {tys1 : S → List (ClassId × FieldType)} {w1 : S → va_W} {mc ms : Nat} (hy : plainName y.cls = true) (hoy : y.cls = own) (hw : ws = Cond.codeWith y cc maxL (some .int) hh :: ws') (hlen : (lg_sl av).length ≤ maxL)
    (body : ∀ {p : Program} {e : Env} {s : State} {m : MethodId} {args : Array Value} {below : List Frame} {meth : Method} {c : Code} {Q : State → Prop} {A : Nat → Prop}, s.heap.size = sz → CallFix p m c cc maxL s args ws own → c.exceptionTable.toList = tableOf hh → XN s → XE s → ZQ A s s.heap → Wd D A tys w0 s s.heap s.heap [] → (∀ q, s.heap.size ≤ q → A q) →
      (∀ {pc : Nat} {ls : Array Slot} {v : Int32} {H : Heap} {locs : List Loc} {cells slots : Nat} (u : S), decode cc pc = .ok (.ireturn, 1) → cells ≤ mc → slots ≤ ms → Wd D A (tys1 u) (w1 u) s s.heap H locs → post v u → W p l e rm s m args below meth c H locs cells slots Q (F0 m pc ls [.int v])) →
      ∀ ls : Array Slot, lv_has ls maxL (lv_args 0 av) → W p l e rm s m args below meth c s.heap [] 0 0 Q (F0 m 0 ls [])) : MZi l y ws rm av D tys w0 sz post tys1 w1 mc ms := by
  refine va_MetW (cc := cc) (maxL := maxL) (ret := some .int) (hh := hh) hy hw ?_
  intro p e s m args below meth c s₁ B hml hv
  obtain ⟨rfl, hz, he, hq, hsz, hP, hK, hD0⟩ := hv
  have hb := B.bytes
  have hlocks := B.notSynchronized
  have htab : c.exceptionTable.toList = tableOf hh := vx_table (x := y) B (atoms_spec (ws := ws) B.pre _ (by rw [hw]; exact List.mem_cons_self))
  rw [lg_entry_eq]
  subst hsz
  refine body (Q := MQ below (va_Qi post (fun u => Bo D (va_A w0 s.heap.size) (tys1 u) (w1 u)) (va_A w0 s.heap.size)) av.toArray s mc ms (va_A w0 s.heap.size)) (A := va_A w0 s.heap.size) rfl ⟨B.exec, B.bytes, hml, by rw [← hoy]; exact findClass_of_methodNamed B.named, atoms_spec (ws := ws) B.pre⟩ htab hz he hq ⟨hK, hP, hD0.self, va_S.rf⟩ (fun q h => Or.inr h) ?_ _ (lv_entry av hlen)
  intro pc ls v H locs cells slots u hd hc hs hw hp
  refine W.widen hc hs ?_
  exact W.iret B.exec hb B.returns (fun t ht hW => ⟨⟨v, u, rfl, hp, by rw [ht]; exact hw.2.1, va_K.moved hW.alike hw.1, hw.2.2.1⟩, hw.2.2.2.F ht⟩) hw.2.2.2.2.2 hd hlocks
/-- how a method ends that throws an E -/
abbrev XT {S : Type} (D : va_G) (A : Nat → Prop) (E : String) (px : S → Prop) (w1 : S → va_W) : String → State → State → Prop := vx_X px (fun E' u t => E' = E ∧ Bo D A [] (w1 u) t) A
abbrev MTi {S : Type} (l : Launch) (y : MethodName) (ws : List Cond) (rm : Room) (av : List Value) (D : va_G) (tys : List (ClassId × FieldType)) (w0 : va_W) (sz : Nat) (E : String) (px : S → Prop) (w1 : S → va_W) : Prop := vx_Met l y ws rm (va_Pc av (Bz D tys w0 sz)) (va_Qi (fun _ (_ : Unit) => False) (fun _ _ => True) (va_A w0 sz)) (XT D (va_A w0 sz) E px w1) 1 6 (va_A w0 sz)
abbrev MTf {S : Type} (l : Launch) (y : MethodName) (ws : List Cond) (rm : Room) (av : List Value) (D : va_G) (tys : List (ClassId × FieldType)) (w0 : va_W) (sz : Nat) (E : String) (px : S → Prop) (w1 : S → va_W) : Prop := vx_Met l y ws rm (va_Pc av (Bz D tys w0 sz)) (va_Qf (fun _ (_ : Unit) => False) (fun _ _ => True) (va_A w0 sz)) (XT D (va_A w0 sz) E px w1) 1 6 (va_A w0 sz)
abbrev MTv {S : Type} (l : Launch) (y : MethodName) (ws : List Cond) (rm : Room) (av : List Value) (D : va_G) (tys : List (ClassId × FieldType)) (w0 : va_W) (sz : Nat) (E : String) (px : S → Prop) (w1 : S → va_W) : Prop := vx_Met l y ws rm (va_Pc av (Bz D tys w0 sz)) (va_Qv (fun (_ : Unit) => False) (fun _ _ => True) (va_A w0 sz)) (XT D (va_A w0 sz) E px w1) 1 6 (va_A w0 sz)
theorem met_t {S : Type} {ret : Option FieldType} {Qc : Array Value → State → Outcome → State → Prop} {sz : Nat} {E : String} {px : S → Prop} {w1 : S → va_W} (hl9 : l.stackTraces = false) (hfit : Bundle.fit E = true) (hy : plainName y.cls = true) (hoy : y.cls = own) (hw : ws = Cond.code y cc maxL ret :: ws') (hlen : (lg_sl av).length ≤ maxL)
    (body : ∀ {p : Program} {e : Env} {s : State} {m : MethodId} {args : Array Value} {below : List Frame} {meth : Method} {c : Code} {Q : State → Prop} {A : Nat → Prop}, s.heap.size = sz → CallFix p m c cc maxL s args ws own → XN s → XE s → ZQ A s s.heap → Wd D A tys w0 s s.heap s.heap [] → (∀ q, s.heap.size ≤ q → A q) →
      (∀ {pc : Nat} {ls : Array Slot} {rest : List Value} {H : Heap} {locs : List Loc} {is ic ik sa : Nat} {text : String} {tysE : List (ClassId × FieldType)} (u : S), (Cond.classLink own ik E).before args s = true → (Cond.initialized E).before args s = true → vk_R own is text sa s → (∀ w ∈ vx_atS own ic E ["java/lang/RuntimeException", "java/lang/Exception"], w.before args s = true) → (∀ w ∈ Cond.classLink own ik E :: Cond.initialized E :: vx_atS own ic E ["java/lang/RuntimeException", "java/lang/Exception"], vx_ot w = true) →
        ls.size = maxL → decode cc pc = .ok (.new ik, 3) → decode cc (pc + 3) = .ok (.dup, 1) → decode cc (pc + 4) = .ok (.ldc is, 2) → decode cc (pc + 6) = .ok (.invokespecial ic, 3) → decode cc (pc + 9) = .ok (.athrow, 1) → 5 < rm.frames → (rest.map fun v => v.category).sum + 82 ≤ rm.locals → 1 ≤ rm.cells → 6 ≤ rm.slots → Wd D A tysE (w1 u) s s.heap H locs → px u → W p l e rm s m args below meth c H locs 0 0 Q (F0 m pc ls rest)) →
      (∀ {pc : Nat} {ls : Array Slot} {rest : List Value} {H : Heap} {locs : List Loc} {q : Nat} {ce : Cell} {cells slots : Nat} {tysE : List (ClassId × FieldType)} (u : S), cells ≤ 1 → slots ≤ 6 → Wd D A tysE (w1 u) s s.heap H locs → px u → H[q]? = some ce → ce.vm = .none → s.vm.findClass E = some ce.cls → vx_W p l e rm s m args below meth c H locs cells slots Q (F0 m pc ls rest) q) →
      ∀ ls : Array Slot, lv_has ls maxL (lv_args 0 av) → W p l e rm s m args below meth c s.heap [] 0 0 Q (F0 m 0 ls [])) : vx_Met l y ws rm (va_Pc av (Bz D tys w0 sz)) Qc (XT D (va_A w0 sz) E px w1) 1 6 (va_A w0 sz) := by
  refine vx_ofW (cc := cc) (maxL := maxL) (ret := ret) hy hw ?_
  intro p e s m args below meth c s₁ B hml hnt hv
  obtain ⟨rfl, hz, he, hq, hsz, hP, hK, hD0⟩ := hv
  have hb := B.bytes
  have hlocks := B.notSynchronized
  have hown : s.vm.findClass own = some m.cls := by rw [← hoy]; exact findClass_of_methodNamed B.named
  rw [lg_entry_eq]
  subst hsz
  refine body (Q := vx_MQ below Qc (XT D (va_A w0 s.heap.size) E px w1) av.toArray s 1 6 (va_A w0 s.heap.size)) (A := va_A w0 s.heap.size) rfl ⟨B.exec, B.bytes, hml, hown, atoms_spec (ws := ws) B.pre⟩ hz he hq ⟨hK, hP, hD0.self, va_S.rf⟩ (fun q h => Or.inr h) ?_ ?_ _ (lv_entry av hlen)
  · intro pc ls rest H locs is ic ik sa text tysE u g1 g2 g3 g4 g5 g6 g7 g8 g9 g10 g11 g12 g13 g14 g15 hw hp
    refine vx_throwS (names := ["java/lang/RuntimeException", "java/lang/Exception"]) B.exec hb hl9 hown hfit (by decide) g1 g2 g3 g4 g5 hq.1 hq.2 hw.2.2.2 (g6.trans hml.symm) g7 g8 g9 g10 g11 (fun x hx => absurd (hnt x hx) id) g12 g13 (by rw [Nat.zero_add]; exact g14) (by rw [Nat.zero_add]; exact g15) hlocks (fun t hvm hsz hk => ?_) hw.2.2.2.2.2 (Nat.le_refl _) (Nat.le_refl _)
    refine ⟨u, hp, ⟨rfl, P_iff.mpr fun x hx => (P_iff.mp hw.2.1 x hx).kept (hk x.1 (P_iff.mp hw.2.1 x hx).lt), ⟨(va_K.moved hvm hw.1).1, fun k q hk => by cases hk⟩, hw.2.2.1⟩, Nat.le_trans hw.2.2.2.1 hsz, fun q h1 h2 => ?_⟩
    rw [hk q (Nat.lt_of_lt_of_le h1 hw.2.2.2.1)]
    exact hw.2.2.2.2.1 q h1 h2
  · intro pc ls rest H locs q ce cells slots tysE u hc hs hw hp g1 g2 g3
    exact vx_out (fun x hx => absurd (hnt x hx) id) hlocks g1 g2 g3 (fun t ht hvm => ⟨u, hp, ⟨rfl, by rw [ht]; exact hw.2.1, ⟨(va_K.moved hvm hw.1).1, fun k q hk => by cases hk⟩, hw.2.2.1⟩, hw.2.2.2.F ht⟩) hw.2.2.2.2.2 hc hs
end MF
section CZ
variable {p : Program} {l : Launch} {e : Env} {R : Room} {s : State} {m : MethodId} {args : Array Value} {below : List Frame} {meth : Method} {c : Code} {H H0 : Heap} {locs : List Loc} {cells slots : Nat} {Q : State → Prop}
variable {cc bytes : ByteArray} {pc : Nat} {ls : Array Slot} {rest As : List Value} {D : va_G} {A : Nat → Prop} {tys tysC : List (ClassId × FieldType)} {w X wc wr tail : va_W} {Ts ws : List Cond} {own C host : String} {nL maxL n index mc ms b : Nat} {y : MethodName} {ret : Option FieldType} {rm : Room}
theorem ZQ.call {U : State} (hq : ZQ A s H0) (hw : Wd D A tys w s H0 H locs) (hA : ∀ q, H0.size ≤ q → A q) (hp : w.Perm (wc ++ wr)) (hU : U.heap = H) (hW : s.WarmedH U.vm) : ZQ (va_A wc H.size) U U.heap := by
  rw [hU]
  exact ((hq.kept hw.2.2.2.2.1).narrow (hw.free hA hp)).moved hW.alike
theorem cpx_i {S1 : Type} {post : Int32 → S1 → Prop} {tys1 : S1 → List (ClassId × FieldType)} {w1 pl : S1 → va_W} (S : CallFix p m c cc nL s args Ts own) (hz : XN s) (hM : MXi l y ws rm (.ref b :: As) D tysC (wc ++ tail) H.size post tys1 (fun u => w1 u ++ pl u) mc ms) (cw : CallW R s args own C index y bytes maxL ret ws rm mc ms n) (hw : Wd D A tys (X ++ tail) s H0 H locs) (hA : ∀ q, H0.size ≤ q → A q) (isC isR tC : List Nat) (hC : isC.map (fun i => X[i]?) = wc.map some) (hR : isR.map (fun i => X[i]?) = wr.map some) {k0 : Nat} (hk0 : X.length = k0) (hpp : (isC ++ isR).Perm (List.range k0)) (htC : tC.filterMap (fun i => tys[i]?) = tysC) (q0 : Nat) {ci N : Nat} {T : u_T} {fs : List Value} (hc : vwCl[ci]? = some (C, T, N)) (he : (wc ++ tail)[q0]? = some (b, .inr (ci, fs))) (hn : As.length = n) (hsize : ls.size = nL) (hW : (rest.map fun v => v.category).sum ≤ 8) (hf : cells + mc ≤ R.cells ∧ slots + ms ≤ R.slots) {st : List Value} (hst : st = As.reverse ++ .ref b :: rest) (hdg : decode cc pc = .ok (.invokevirtual index, 3))
    (kk : ∀ (r : Int32) (u : S1) (H1 : Heap) (locs1 : List Loc), post r u → Wd D A tys ((w1 u ++ wr) ++ pl u) s H0 H1 locs1 → W p l e R s m args below meth c H1 locs1 (cells + mc) (slots + ms) Q (F0 m (pc + 3) ls (.int r :: rest))) : W p l e R s m args below meth c H locs cells slots Q (F0 m pc ls st) := by
  have hp : (X ++ tail).Perm ((wc ++ tail) ++ wr) := by
    refine ((perm_pick isC isR hC hR (by rw [hk0]; exact hpp)).append_right _).trans ?_
    rw [List.append_assoc, List.append_assoc]
    exact List.perm_append_comm.append_left _
  have hqc := hw.part hp tC htC
  have hFc := hw.free hA hp
  refine va_calli (va_runV S hM cw ⟨fb_x, va_recv hqc.1 hqc.2.1 hc he, fun U hU hW => ⟨rfl, XN.warm hW hz, by rw [hU], by rw [hU]; exact hqc.2.1, va_K.moved hW.alike hqc.1, hqc.2.2.1.weaken (fun _ _ _ _ => trivial)⟩⟩ rfl hn hsize hst (lv_room (m := m) (pc := 0) (ls := ls) (rest := []) hW) hdg hf) hw.2.2.2 (fun q _ h => hFc q h) hFc ?_
  intro r u t H1 locs1 ht hvm hpo hB hz1 hk hS1
  have hj := hw.join hA hp ht hB hk hS1
  refine kk r u H1 locs1 hpo (hj.perm ?_)
  rw [List.append_assoc, List.append_assoc]
  exact List.perm_append_comm.append_left _
theorem cpx_f {S1 : Type} {post : UInt32 → S1 → Prop} {tys1 : S1 → List (ClassId × FieldType)} {w1 pl : S1 → va_W} (S : CallFix p m c cc nL s args Ts own) (hz : XN s) (hM : MXf l y ws rm (.ref b :: As) D tysC (wc ++ tail) H.size post tys1 (fun u => w1 u ++ pl u) mc ms) (cw : CallW R s args own C index y bytes maxL ret ws rm mc ms n) (hw : Wd D A tys (X ++ tail) s H0 H locs) (hA : ∀ q, H0.size ≤ q → A q) (isC isR tC : List Nat) (hC : isC.map (fun i => X[i]?) = wc.map some) (hR : isR.map (fun i => X[i]?) = wr.map some) {k0 : Nat} (hk0 : X.length = k0) (hpp : (isC ++ isR).Perm (List.range k0)) (htC : tC.filterMap (fun i => tys[i]?) = tysC) (q0 : Nat) {ci N : Nat} {T : u_T} {fs : List Value} (hc : vwCl[ci]? = some (C, T, N)) (he : (wc ++ tail)[q0]? = some (b, .inr (ci, fs))) (hn : As.length = n) (hsize : ls.size = nL) (hW : (rest.map fun v => v.category).sum ≤ 8) (hf : cells + mc ≤ R.cells ∧ slots + ms ≤ R.slots) {st : List Value} (hst : st = As.reverse ++ .ref b :: rest) (hdg : decode cc pc = .ok (.invokevirtual index, 3))
    (kk : ∀ (r : UInt32) (u : S1) (H1 : Heap) (locs1 : List Loc), post r u → Wd D A tys ((w1 u ++ wr) ++ pl u) s H0 H1 locs1 → W p l e R s m args below meth c H1 locs1 (cells + mc) (slots + ms) Q (F0 m (pc + 3) ls (.float r :: rest))) : W p l e R s m args below meth c H locs cells slots Q (F0 m pc ls st) := by
  have hp : (X ++ tail).Perm ((wc ++ tail) ++ wr) := by
    refine ((perm_pick isC isR hC hR (by rw [hk0]; exact hpp)).append_right _).trans ?_
    rw [List.append_assoc, List.append_assoc]
    exact List.perm_append_comm.append_left _
  have hqc := hw.part hp tC htC
  have hFc := hw.free hA hp
  refine va_callf (va_runV S hM cw ⟨fb_x, va_recv hqc.1 hqc.2.1 hc he, fun U hU hW => ⟨rfl, XN.warm hW hz, by rw [hU], by rw [hU]; exact hqc.2.1, va_K.moved hW.alike hqc.1, hqc.2.2.1.weaken (fun _ _ _ _ => trivial)⟩⟩ rfl hn hsize hst (lv_room (m := m) (pc := 0) (ls := ls) (rest := []) hW) hdg hf) hw.2.2.2 (fun q _ h => hFc q h) hFc ?_
  intro r u t H1 locs1 ht hvm hpo hB hz1 hk hS1
  have hj := hw.join hA hp ht hB hk hS1
  refine kk r u H1 locs1 hpo (hj.perm ?_)
  rw [List.append_assoc, List.append_assoc]
  exact List.perm_append_comm.append_left _
theorem cpx_d {S1 : Type} {post : UInt64 → S1 → Prop} {tys1 : S1 → List (ClassId × FieldType)} {w1 pl : S1 → va_W} (S : CallFix p m c cc nL s args Ts own) (hz : XN s) (hM : MXd l y ws rm (.ref b :: As) D tysC (wc ++ tail) H.size post tys1 (fun u => w1 u ++ pl u) mc ms) (cw : CallW R s args own C index y bytes maxL ret ws rm mc ms n) (hw : Wd D A tys (X ++ tail) s H0 H locs) (hA : ∀ q, H0.size ≤ q → A q) (isC isR tC : List Nat) (hC : isC.map (fun i => X[i]?) = wc.map some) (hR : isR.map (fun i => X[i]?) = wr.map some) {k0 : Nat} (hk0 : X.length = k0) (hpp : (isC ++ isR).Perm (List.range k0)) (htC : tC.filterMap (fun i => tys[i]?) = tysC) (q0 : Nat) {ci N : Nat} {T : u_T} {fs : List Value} (hc : vwCl[ci]? = some (C, T, N)) (he : (wc ++ tail)[q0]? = some (b, .inr (ci, fs))) (hn : As.length = n) (hsize : ls.size = nL) (hW : (rest.map fun v => v.category).sum ≤ 8) (hf : cells + mc ≤ R.cells ∧ slots + ms ≤ R.slots) {st : List Value} (hst : st = As.reverse ++ .ref b :: rest) (hdg : decode cc pc = .ok (.invokevirtual index, 3))
    (kk : ∀ (r : UInt64) (u : S1) (H1 : Heap) (locs1 : List Loc), post r u → Wd D A tys ((w1 u ++ wr) ++ pl u) s H0 H1 locs1 → W p l e R s m args below meth c H1 locs1 (cells + mc) (slots + ms) Q (F0 m (pc + 3) ls (.double r :: rest))) : W p l e R s m args below meth c H locs cells slots Q (F0 m pc ls st) := by
  have hp : (X ++ tail).Perm ((wc ++ tail) ++ wr) := by
    refine ((perm_pick isC isR hC hR (by rw [hk0]; exact hpp)).append_right _).trans ?_
    rw [List.append_assoc, List.append_assoc]
    exact List.perm_append_comm.append_left _
  have hqc := hw.part hp tC htC
  have hFc := hw.free hA hp
  refine va_calld (va_runV S hM cw ⟨fb_x, va_recv hqc.1 hqc.2.1 hc he, fun U hU hW => ⟨rfl, XN.warm hW hz, by rw [hU], by rw [hU]; exact hqc.2.1, va_K.moved hW.alike hqc.1, hqc.2.2.1.weaken (fun _ _ _ _ => trivial)⟩⟩ rfl hn hsize hst (lv_room (m := m) (pc := 0) (ls := ls) (rest := []) hW) hdg hf) hw.2.2.2 (fun q _ h => hFc q h) hFc ?_
  intro r u t H1 locs1 ht hvm hpo hB hz1 hk hS1
  have hj := hw.join hA hp ht hB hk hS1
  refine kk r u H1 locs1 hpo (hj.perm ?_)
  rw [List.append_assoc, List.append_assoc]
  exact List.perm_append_comm.append_left _
theorem cp_Vf {S1 : Type} {post : UInt32 → S1 → Prop} {tys1 : S1 → List (ClassId × FieldType)} {w1 : S1 → va_W} (S : CallFix p m c cc nL s args Ts own) (hM : MUf l y ws rm (.ref b :: As) D tysC wc H.size post tys1 w1 mc ms) (cw : CallW R s args own C index y bytes maxL ret ws rm mc ms n) (hw : Wd D A tys (X ++ tail) s H0 H locs) (hA : ∀ q, H0.size ≤ q → A q) (isC isR tC : List Nat) (hC : isC.map (fun i => X[i]?) = wc.map some) (hR : isR.map (fun i => X[i]?) = wr.map some) {k0 : Nat} (hk0 : X.length = k0) (hpp : (isC ++ isR).Perm (List.range k0)) (htC : tC.filterMap (fun i => tys[i]?) = tysC) (q0 : Nat) {ci N : Nat} {T : u_T} {fs : List Value} (hc : vwCl[ci]? = some (C, T, N)) (he : wc[q0]? = some (b, .inr (ci, fs))) (hn : As.length = n) (hsize : ls.size = nL) (hW : (rest.map fun v => v.category).sum ≤ 8) (hf : cells + mc ≤ R.cells ∧ slots + ms ≤ R.slots) {st : List Value} (hst : st = As.reverse ++ .ref b :: rest) (hdg : decode cc pc = .ok (.invokevirtual index, 3))
    (kk : ∀ (r : UInt32) (u : S1) (H1 : Heap) (locs1 : List Loc), post r u → Wd D A tys ((w1 u ++ wr) ++ tail) s H0 H1 locs1 → W p l e R s m args below meth c H1 locs1 (cells + mc) (slots + ms) Q (F0 m (pc + 3) ls (.float r :: rest))) : W p l e R s m args below meth c H locs cells slots Q (F0 m pc ls st) := by
  have hp : (X ++ tail).Perm (wc ++ (wr ++ tail)) := by rw [← List.append_assoc]; exact (perm_pick isC isR hC hR (by rw [hk0]; exact hpp)).append_right _
  have hqc := hw.part hp tC htC
  have hFc := hw.free hA hp
  refine va_callf (va_runV S hM cw ⟨fb_s, va_recv hqc.1 hqc.2.1 hc he, fun U hU hW => ⟨rfl, by rw [hU], by rw [hU]; exact hqc.2.1, va_K.moved hW.alike hqc.1, hqc.2.2.1.weaken (fun _ _ _ _ => trivial)⟩⟩ rfl hn hsize hst (lv_room (m := m) (pc := 0) (ls := ls) (rest := []) hW) hdg hf) hw.2.2.2 (fun q _ h => hFc q h) hFc ?_
  intro r u t H1 locs1 ht hvm hpo hB hz hk hS1
  have hj := hw.join hA hp ht hB hk hS1
  rw [← List.append_assoc] at hj
  exact kk r u H1 locs1 hpo hj
theorem cp_Vd {S1 : Type} {post : UInt64 → S1 → Prop} {tys1 : S1 → List (ClassId × FieldType)} {w1 : S1 → va_W} (S : CallFix p m c cc nL s args Ts own) (hM : MUd l y ws rm (.ref b :: As) D tysC wc H.size post tys1 w1 mc ms) (cw : CallW R s args own C index y bytes maxL ret ws rm mc ms n) (hw : Wd D A tys (X ++ tail) s H0 H locs) (hA : ∀ q, H0.size ≤ q → A q) (isC isR tC : List Nat) (hC : isC.map (fun i => X[i]?) = wc.map some) (hR : isR.map (fun i => X[i]?) = wr.map some) {k0 : Nat} (hk0 : X.length = k0) (hpp : (isC ++ isR).Perm (List.range k0)) (htC : tC.filterMap (fun i => tys[i]?) = tysC) (q0 : Nat) {ci N : Nat} {T : u_T} {fs : List Value} (hc : vwCl[ci]? = some (C, T, N)) (he : wc[q0]? = some (b, .inr (ci, fs))) (hn : As.length = n) (hsize : ls.size = nL) (hW : (rest.map fun v => v.category).sum ≤ 8) (hf : cells + mc ≤ R.cells ∧ slots + ms ≤ R.slots) {st : List Value} (hst : st = As.reverse ++ .ref b :: rest) (hdg : decode cc pc = .ok (.invokevirtual index, 3))
    (kk : ∀ (r : UInt64) (u : S1) (H1 : Heap) (locs1 : List Loc), post r u → Wd D A tys ((w1 u ++ wr) ++ tail) s H0 H1 locs1 → W p l e R s m args below meth c H1 locs1 (cells + mc) (slots + ms) Q (F0 m (pc + 3) ls (.double r :: rest))) : W p l e R s m args below meth c H locs cells slots Q (F0 m pc ls st) := by
  have hp : (X ++ tail).Perm (wc ++ (wr ++ tail)) := by rw [← List.append_assoc]; exact (perm_pick isC isR hC hR (by rw [hk0]; exact hpp)).append_right _
  have hqc := hw.part hp tC htC
  have hFc := hw.free hA hp
  refine va_calld (va_runV S hM cw ⟨fb_s, va_recv hqc.1 hqc.2.1 hc he, fun U hU hW => ⟨rfl, by rw [hU], by rw [hU]; exact hqc.2.1, va_K.moved hW.alike hqc.1, hqc.2.2.1.weaken (fun _ _ _ _ => trivial)⟩⟩ rfl hn hsize hst (lv_room (m := m) (pc := 0) (ls := ls) (rest := []) hW) hdg hf) hw.2.2.2 (fun q _ h => hFc q h) hFc ?_
  intro r u t H1 locs1 ht hvm hpo hB hz hk hS1
  have hj := hw.join hA hp ht hB hk hS1
  rw [← List.append_assoc] at hj
  exact kk r u H1 locs1 hpo hj
/-- a static method with a table of its own -/
theorem cpz_S {hh : List (Nat × Nat × Nat × Nat)} {S1 : Type} {post : Int32 → S1 → Prop} {tys1 : S1 → List (ClassId × FieldType)} {w1 pl : S1 → va_W} (S : CallFix p m c cc nL s args Ts own) (hz : XN s) (he : XE s) (hq : ZQ A s H0) (hM : MZi l y ws rm As D tysC (wc ++ tail) H.size post tys1 (fun u => w1 u ++ pl u) mc ms) (cw : vx_CSW R s args own index y bytes maxL ret hh ws rm mc ms n) (hw : Wd D A tys (X ++ tail) s H0 H locs) (hA : ∀ q, H0.size ≤ q → A q) (isC isR tC : List Nat) (hC : isC.map (fun i => X[i]?) = wc.map some) (hR : isR.map (fun i => X[i]?) = wr.map some) {k0 : Nat} (hk0 : X.length = k0) (hpp : (isC ++ isR).Perm (List.range k0)) (htC : tC.filterMap (fun i => tys[i]?) = tysC) (hn : As.length = n) (hsize : ls.size = nL) (hW : (rest.map fun v => v.category).sum ≤ 8) (hf : cells + mc ≤ R.cells ∧ slots + ms ≤ R.slots) {st : List Value} (hst : st = As.reverse ++ rest) (hdg : decode cc pc = .ok (.invokestatic index, 3))
    (kk : ∀ (r : Int32) (u : S1) (H1 : Heap) (locs1 : List Loc), post r u → Wd D A tys ((w1 u ++ wr) ++ pl u) s H0 H1 locs1 → W p l e R s m args below meth c H1 locs1 (cells + mc) (slots + ms) Q (F0 m (pc + 3) ls (.int r :: rest))) : W p l e R s m args below meth c H locs cells slots Q (F0 m pc ls st) := by
  have hp : (X ++ tail).Perm ((wc ++ tail) ++ wr) := by
    refine ((perm_pick isC isR hC hR (by rw [hk0]; exact hpp)).append_right _).trans ?_
    rw [List.append_assoc, List.append_assoc]
    exact List.perm_append_comm.append_left _
  have hqc := hw.part hp tC htC
  have hFc := hw.free hA hp
  refine va_calli (vx_runSW S hM cw ⟨fb_z, fun U hU hW => ⟨rfl, XN.warm hW hz, XE.warm hW he, hq.call hw hA hp hU hW, by rw [hU], by rw [hU]; exact hqc.2.1, va_K.moved hW.alike hqc.1, hqc.2.2.1.weaken (fun _ _ _ _ => trivial)⟩⟩ rfl hn hsize hst (lv_room (m := m) (pc := 0) (ls := ls) (rest := []) hW) hdg hf) hw.2.2.2 (fun q _ h => hFc q h) hFc ?_
  intro r u t H1 locs1 ht hvm hpo hB hz1 hk hS1
  have hj := hw.join hA hp ht hB hk hS1
  refine kk r u H1 locs1 hpo (hj.perm ?_)
  rw [List.append_assoc, List.append_assoc]
  exact List.perm_append_comm.append_left _
/-- a method that throws -/
theorem cpt_i {S1 : Type} {px : S1 → Prop} {w1 : S1 → va_W} {E : String} (S : CallFix p m c cc nL s args Ts own) (hz : XN s) (he : XE s) (hq : ZQ A s H0) (hM : MTi l y ws rm (.ref b :: As) D tysC wc H.size E px w1) (cw : CallW R s args own C index y bytes maxL ret ws rm 1 6 n) (hw : Wd D A tys (X ++ tail) s H0 H locs) (hA : ∀ q, H0.size ≤ q → A q) (isC isR tC : List Nat) (hC : isC.map (fun i => X[i]?) = wc.map some) (hR : isR.map (fun i => X[i]?) = wr.map some) {k0 : Nat} (hk0 : X.length = k0) (hpp : (isC ++ isR).Perm (List.range k0)) (htC : tC.filterMap (fun i => tys[i]?) = tysC) (q0 : Nat) {ci N : Nat} {T : u_T} {fs : List Value} (hc : vwCl[ci]? = some (C, T, N)) (hr : (X ++ tail)[q0]? = some (b, .inr (ci, fs))) (hn : As.length = n) (hsize : ls.size = nL) (hW : (rest.map fun v => v.category).sum ≤ 8) (hf : cells + 1 ≤ R.cells ∧ slots + 6 ≤ R.slots) {st : List Value} (hst : st = As.reverse ++ .ref b :: rest) (hdg : decode cc pc = .ok (.invokevirtual index, 3))
    (kx : ∀ (q9 : Nat) (ce : Cell) (u : S1) (H1 : Heap) (locs1 : List Loc), px u → Wd D A tys ((w1 u ++ wr) ++ tail) s H0 H1 locs1 → H1[q9]? = some ce → ce.vm = .none → s.vm.findClass E = some ce.cls → vx_W p l e R s m args below meth c H1 locs1 (cells + 1) (slots + 6) Q (F0 m pc ls rest) q9) : W p l e R s m args below meth c H locs cells slots Q (F0 m pc ls st) := by
  have hp : (X ++ tail).Perm (wc ++ (wr ++ tail)) := by rw [← List.append_assoc]; exact (perm_pick isC isR hC hR (by rw [hk0]; exact hpp)).append_right _
  have hqc := hw.part hp tC htC
  have hFc := hw.free hA hp
  refine vx_calli (vx_runV S hM cw ⟨fb_z, va_recv hw.1 hw.2.1 hc hr, fun U hU hW => ⟨rfl, XN.warm hW hz, XE.warm hW he, hq.call hw hA hp hU hW, by rw [hU], by rw [hU]; exact hqc.2.1, va_K.moved hW.alike hqc.1, hqc.2.2.1.weaken (fun _ _ _ _ => trivial)⟩⟩ rfl hn hsize hst (lv_room (m := m) (pc := 0) (ls := ls) (rest := []) hW) hdg hf) hw.2.2.2 (fun q _ h => hFc q h) hFc (fun q _ h => hFc q h) ?_ (fun r u t H1 locs1 _ _ hno => absurd hno id)
  intro E' ce q9 u t H1 locs1 ht hvm hpo hB hz1 hk hS1 hce hcv hcl
  obtain ⟨rfl, hB⟩ := hB
  have hj := hw.join hA hp ht hB hk hS1
  rw [← List.append_assoc] at hj
  exact kx q9 ce u H1 locs1 hpo hj hce hcv hcl
/-- a method that throws -/
theorem cpt_f {S1 : Type} {px : S1 → Prop} {w1 : S1 → va_W} {E : String} (S : CallFix p m c cc nL s args Ts own) (hz : XN s) (he : XE s) (hq : ZQ A s H0) (hM : MTf l y ws rm (.ref b :: As) D tysC wc H.size E px w1) (cw : CallW R s args own C index y bytes maxL ret ws rm 1 6 n) (hw : Wd D A tys (X ++ tail) s H0 H locs) (hA : ∀ q, H0.size ≤ q → A q) (isC isR tC : List Nat) (hC : isC.map (fun i => X[i]?) = wc.map some) (hR : isR.map (fun i => X[i]?) = wr.map some) {k0 : Nat} (hk0 : X.length = k0) (hpp : (isC ++ isR).Perm (List.range k0)) (htC : tC.filterMap (fun i => tys[i]?) = tysC) (q0 : Nat) {ci N : Nat} {T : u_T} {fs : List Value} (hc : vwCl[ci]? = some (C, T, N)) (hr : (X ++ tail)[q0]? = some (b, .inr (ci, fs))) (hn : As.length = n) (hsize : ls.size = nL) (hW : (rest.map fun v => v.category).sum ≤ 8) (hf : cells + 1 ≤ R.cells ∧ slots + 6 ≤ R.slots) {st : List Value} (hst : st = As.reverse ++ .ref b :: rest) (hdg : decode cc pc = .ok (.invokevirtual index, 3))
    (kx : ∀ (q9 : Nat) (ce : Cell) (u : S1) (H1 : Heap) (locs1 : List Loc), px u → Wd D A tys ((w1 u ++ wr) ++ tail) s H0 H1 locs1 → H1[q9]? = some ce → ce.vm = .none → s.vm.findClass E = some ce.cls → vx_W p l e R s m args below meth c H1 locs1 (cells + 1) (slots + 6) Q (F0 m pc ls rest) q9) : W p l e R s m args below meth c H locs cells slots Q (F0 m pc ls st) := by
  have hp : (X ++ tail).Perm (wc ++ (wr ++ tail)) := by rw [← List.append_assoc]; exact (perm_pick isC isR hC hR (by rw [hk0]; exact hpp)).append_right _
  have hqc := hw.part hp tC htC
  have hFc := hw.free hA hp
  refine vx_callf (vx_runV S hM cw ⟨fb_z, va_recv hw.1 hw.2.1 hc hr, fun U hU hW => ⟨rfl, XN.warm hW hz, XE.warm hW he, hq.call hw hA hp hU hW, by rw [hU], by rw [hU]; exact hqc.2.1, va_K.moved hW.alike hqc.1, hqc.2.2.1.weaken (fun _ _ _ _ => trivial)⟩⟩ rfl hn hsize hst (lv_room (m := m) (pc := 0) (ls := ls) (rest := []) hW) hdg hf) hw.2.2.2 (fun q _ h => hFc q h) hFc (fun q _ h => hFc q h) ?_ (fun r u t H1 locs1 _ _ hno => absurd hno id)
  intro E' ce q9 u t H1 locs1 ht hvm hpo hB hz1 hk hS1 hce hcv hcl
  obtain ⟨rfl, hB⟩ := hB
  have hj := hw.join hA hp ht hB hk hS1
  rw [← List.append_assoc] at hj
  exact kx q9 ce u H1 locs1 hpo hj hce hcv hcl
/-- a static check that throws -/
theorem cpt_S {E : String} (S : CallFix p m c cc nL s args Ts own) (hz : XN s) (he : XE s) (hq : ZQ A s H0) (hM : MTv l y ws rm As D [] [] H.size E (fun (_ : Unit) => True) (fun _ => [])) (cw : CallB R s args own index y bytes maxL ret ws rm 1 6 n ∧ (Cond.static y).before args s = true) (hw : Wd D A tys w s H0 H locs) (hA : ∀ q, H0.size ≤ q → A q) (hn : As.length = n) (hsize : ls.size = nL) (hW : (rest.map fun v => v.category).sum ≤ 8) (hf : cells + 1 ≤ R.cells ∧ slots + 6 ≤ R.slots) {st : List Value} (hst : st = As.reverse ++ rest) (hdg : decode cc pc = .ok (.invokestatic index, 3))
    (kx : ∀ (q9 : Nat) (ce : Cell) (H1 : Heap) (locs1 : List Loc), Wd D A tys w s H0 H1 locs1 → H1[q9]? = some ce → ce.vm = .none → s.vm.findClass E = some ce.cls → vx_W p l e R s m args below meth c H1 locs1 (cells + 1) (slots + 6) Q (F0 m pc ls rest) q9) : W p l e R s m args below meth c H locs cells slots Q (F0 m pc ls st) := by
  have hp : w.Perm ([] ++ w) := List.Perm.refl _
  have hqc := hw.part hp [] rfl
  have hFc := hw.free hA hp
  refine vx_callv (vx_runS S hM cw ⟨fb_z, fun U hU hW => ⟨rfl, XN.warm hW hz, XE.warm hW he, hq.call hw hA hp hU hW, by rw [hU], by rw [hU]; exact hqc.2.1, va_K.moved hW.alike hqc.1, hqc.2.2.1.weaken (fun _ _ _ _ => trivial)⟩⟩ rfl hn hsize hst (lv_room (m := m) (pc := 0) (ls := ls) (rest := []) hW) hdg hf) hw.2.2.2 (fun q _ h => hFc q h) hFc (fun q _ h => hFc q h) ?_ (fun u t H1 locs1 _ _ hno => absurd hno id)
  intro E' ce q9 u t H1 locs1 ht hvm hpo hB hz1 hk hS1 hce hcv hcl
  obtain ⟨rfl, hB⟩ := hB
  exact kx q9 ce H1 locs1 (hw.join hA hp ht hB hk hS1) hce hcv hcl
/-- a constructor that needs the nest's links -/
theorem cx_Iv {S1 : Type} {post : S1 → Prop} {tys1 : S1 → List (ClassId × FieldType)} {w1 : S1 → va_W} (S : CallFix p m c cc nL s args Ts own) (hz : XN s) (hM : MXv l y ws rm (.ref b :: As) D tysC wc H.size post tys1 w1 mc ms) (cw : CallB R s args own index y bytes maxL none ws rm mc ms n ∧ y.name = "<init>" ∧ (Cond.instanceMethod y).before args s = true) (hw : Wd D A tys w s H0 H locs) (hA : ∀ q, H0.size ≤ q → A q) (isC isR tC : List Nat) (hC : isC.map (fun i => w[i]?) = wc.map some) (hR : isR.map (fun i => w[i]?) = wr.map some) (htC : tC.filterMap (fun i => tys[i]?) = tysC) (hnC : va_nd isC = true) (hnR : va_nd isR = true) (hdis : ∀ i ∈ isR, i ∉ isC) (hn : As.length = n) (hsize : ls.size = nL) (hW : (rest.map fun v => v.category).sum ≤ 8) (hf : cells + mc ≤ R.cells ∧ slots + ms ≤ R.slots) {st : List Value} (hst : st = As.reverse ++ .ref b :: rest) (hdg : decode cc pc = .ok (.invokespecial index, 3))
    (kk : ∀ (u : S1) (H1 : Heap) (locs1 : List Loc), post u → Wd D A (tys ++ tys1 u) (wr ++ w1 u) s H0 H1 locs1 → W p l e R s m args below meth c H1 locs1 (cells + mc) (slots + ms) Q (F0 m (pc + 3) ls rest)) : W p l e R s m args below meth c H locs cells slots Q (F0 m pc ls st) := by
  have hqc : Wd D A tysC wc s H0 H locs := hw.sub isC tC hnC hC htC
  have hFc := va_free hw.2.2.1 hw.2.2.2 hA isC hC
  refine va_callv (va_runI S hM cw ⟨fb_x, fun U hU hW => ⟨rfl, XN.warm hW hz, by rw [hU], by rw [hU]; exact hqc.2.1, va_K.moved hW.alike hqc.1, hqc.2.2.1.weaken (fun _ _ _ _ => trivial)⟩⟩ rfl hn hsize hst (lv_room (m := m) (pc := 0) (ls := ls) (rest := []) hW) hdg hf) hw.2.2.2 (fun q _ h => hFc q h) hFc ?_
  intro u t H1 locs1 ht hvm hp hB hz hk hS1
  exact kk u H1 locs1 hp (Wd.back (S := S1) hw hA isC isR hC hR hnR hdis ht hvm hB hk hS1)
-- arrays of longs and doubles, the script
theorem r_lald (hx : p.tables.exec = Jvm.exec) (hb : c.code = cc) (hq : Wq D tys w s H) (q0 t0 : Nat) {a : Nat} {cA : ClassId} {n : Nat} {f : Nat → Int64} (ha : w[q0]? = some (a, .inl (cA, n, .inr (.inl f)))) (ht : tys[t0]? = some (cA, .long)) {i : Nat} (hi : i < n) (hn : n < 2 ^ 31) (hdg : decode cc pc = .ok (.laload, 1))
    (kk : W p l e R s m args below meth c H locs cells slots Q (F0 m (pc + 1) ls (.long (f i) :: rest))) : W p l e R s m args below meth c H locs cells slots Q (F0 m pc ls (.int (nI i) :: .ref a :: rest)) :=
  va_lald hx hb hq.1 hq.2 q0 t0 ha ht (vp_in_nI hi hn) hdg (by rw [nI_clamp (Nat.lt_trans hi hn)]; exact kk)
theorem r_dald (hx : p.tables.exec = Jvm.exec) (hb : c.code = cc) (hq : Wq D tys w s H) (q0 t0 : Nat) {a : Nat} {cA : ClassId} {n : Nat} {f : Nat → UInt64} (ha : w[q0]? = some (a, .inl (cA, n, .inr (.inr (.inr (.inl f)))))) (ht : tys[t0]? = some (cA, .double)) {i : Nat} (hi : i < n) (hn : n < 2 ^ 31) (hdg : decode cc pc = .ok (.daload, 1))
    (kk : W p l e R s m args below meth c H locs cells slots Q (F0 m (pc + 1) ls (.double (f i) :: rest))) : W p l e R s m args below meth c H locs cells slots Q (F0 m pc ls (.int (nI i) :: .ref a :: rest)) :=
  va_dald hx hb hq.1 hq.2 q0 t0 ha ht (vp_in_nI hi hn) hdg (by rw [nI_clamp (Nat.lt_trans hi hn)]; exact kk)
theorem r_last (hx : p.tables.exec = Jvm.exec) (hb : c.code = cc) (hw : Wd D A tys w s H0 H locs) (q0 t0 : Nat) {a : Nat} {cA : ClassId} {n : Nat} {f : Nat → Int64} {x : Int64} (ha : w[q0]? = some (a, .inl (cA, n, .inr (.inl f)))) (ht : tys[t0]? = some (cA, .long)) {i : Nat} (hi : i < n) (hn : n < 2 ^ 31) (hdg : decode cc pc = .ok (.lastore, 1))
    (kk : ∀ (H1 : Heap) (locs1 : List Loc), Wd D A tys (w.set q0 (a, .inl (cA, n, .inr (.inl (vp_updL f i x))))) s H0 H1 locs1 → W p l e R s m args below meth c H1 locs1 cells slots Q (F0 m (pc + 1) ls rest)) : W p l e R s m args below meth c H locs cells slots Q (F0 m pc ls (.long x :: .int (nI i) :: .ref a :: rest)) :=
  va_last hx hb hw.1 hw.2.1 hw.2.2.1 hw.2.2.2 q0 t0 ha ht (vp_in_nI hi hn) hdg (fun H1 l1 h1 h2 h3 => by
    rw [nI_clamp (Nat.lt_trans hi hn)] at h1 h2
    exact kk H1 l1 ⟨hw.1, h1, h2, h3⟩)
theorem r_dast (hx : p.tables.exec = Jvm.exec) (hb : c.code = cc) (hw : Wd D A tys w s H0 H locs) (q0 t0 : Nat) {a : Nat} {cA : ClassId} {n : Nat} {f : Nat → UInt64} {x : UInt64} (ha : w[q0]? = some (a, .inl (cA, n, .inr (.inr (.inr (.inl f)))))) (ht : tys[t0]? = some (cA, .double)) {i : Nat} (hi : i < n) (hn : n < 2 ^ 31) (hdg : decode cc pc = .ok (.dastore, 1))
    (kk : ∀ (H1 : Heap) (locs1 : List Loc) (g : Nat → UInt64), g i = x → Wd D A tys (w.set q0 (a, .inl (cA, n, .inr (.inr (.inr (.inl g)))))) s H0 H1 locs1 → W p l e R s m args below meth c H1 locs1 cells slots Q (F0 m (pc + 1) ls rest)) : W p l e R s m args below meth c H locs cells slots Q (F0 m pc ls (.double x :: .int (nI i) :: .ref a :: rest)) :=
  va_dast hx hb hw.1 hw.2.1 hw.2.2.1 hw.2.2.2 q0 t0 ha ht (vp_in_nI hi hn) hdg (fun H1 l1 h1 h2 h3 => by
    rw [nI_clamp (Nat.lt_trans hi hn)] at h1 h2
    exact kk H1 l1 _ (if_pos rfl) ⟨hw.1, h1, h2, h3⟩)
end CZ
