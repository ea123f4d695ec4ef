section
-- ===== PART A: goes FIRST, ahead of the names: the tables' words, and 'selects' of the private methods out of them =====
/-- a private method of a class that the tables say can be made, by its rows of tables_1 -/
def lw_okq (q : MethodName × Nat) : Prop := (q.1.cls ≠ "java/lang/invoke/MethodHandle" ∧ q.1.cls ≠ "java/lang/invoke/VarHandle") ∧ Cond.instantiable q.1.cls q.2 ∈ tables_1 ∧ Cond.privateMethod q.1 ∈ tables_1 ∧ Cond.instanceMethod q.1 ∈ tables_1
theorem lw_p0 : lw_okq (⟨"CausalTable$State", "isAdded", "(III)Z"⟩, 6) := ⟨⟨by decide +kernel, by decide +kernel⟩, List.mem_of_getElem? (i := 22) (by decide +kernel), List.mem_of_getElem? (i := 132) (by decide +kernel), List.mem_of_getElem? (i := 133) (by decide +kernel)⟩
theorem lw_p1 : lw_okq (⟨"CausalTable$State", "isRemoved", "(III)Z"⟩, 6) := ⟨⟨by decide +kernel, by decide +kernel⟩, List.mem_of_getElem? (i := 22) (by decide +kernel), List.mem_of_getElem? (i := 144) (by decide +kernel), List.mem_of_getElem? (i := 145) (by decide +kernel)⟩
theorem lw_p2 : lw_okq (⟨"CausalTable$State", "mergeSlot", "(III)V"⟩, 6) := ⟨⟨by decide +kernel, by decide +kernel⟩, List.mem_of_getElem? (i := 22) (by decide +kernel), List.mem_of_getElem? (i := 148) (by decide +kernel), List.mem_of_getElem? (i := 149) (by decide +kernel)⟩
theorem lw_p3 : lw_okq (⟨"CausalTable$State", "mergeKnowledge", "(II)V"⟩, 6) := ⟨⟨by decide +kernel, by decide +kernel⟩, List.mem_of_getElem? (i := 22) (by decide +kernel), List.mem_of_getElem? (i := 152) (by decide +kernel), List.mem_of_getElem? (i := 153) (by decide +kernel)⟩
theorem lw_p4 : lw_okq (⟨"java/lang/Throwable", "fillInStackTrace", "(I)Ljava/lang/Throwable;"⟩, 6) := ⟨⟨by decide +kernel, by decide +kernel⟩, List.mem_of_getElem? (i := 201) (by decide +kernel), List.mem_of_getElem? (i := 199) (by decide +kernel), List.mem_of_getElem? (i := 200) (by decide +kernel)⟩
theorem lw_p5 : lw_okq (⟨"CausalTable$State", "countEntries", "(II)I"⟩, 6) := ⟨⟨by decide +kernel, by decide +kernel⟩, List.mem_of_getElem? (i := 22) (by decide +kernel), List.mem_of_getElem? (i := 342) (by decide +kernel), List.mem_of_getElem? (i := 343) (by decide +kernel)⟩
theorem lw_p6 : lw_okq (⟨"CausalTable$State", "rankInCell", "(III)I"⟩, 6) := ⟨⟨by decide +kernel, by decide +kernel⟩, List.mem_of_getElem? (i := 22) (by decide +kernel), List.mem_of_getElem? (i := 355) (by decide +kernel), List.mem_of_getElem? (i := 356) (by decide +kernel)⟩
theorem lw_p7 : lw_okq (⟨"CausalTable$State", "beginUpdate", "(I)V"⟩, 6) := ⟨⟨by decide +kernel, by decide +kernel⟩, List.mem_of_getElem? (i := 22) (by decide +kernel), List.mem_of_getElem? (i := 403) (by decide +kernel), List.mem_of_getElem? (i := 404) (by decide +kernel)⟩
theorem lw_p8 : lw_okq (⟨"CausalTable$State", "removeGroup", "(III)I"⟩, 6) := ⟨⟨by decide +kernel, by decide +kernel⟩, List.mem_of_getElem? (i := 22) (by decide +kernel), List.mem_of_getElem? (i := 408) (by decide +kernel), List.mem_of_getElem? (i := 409) (by decide +kernel)⟩
theorem lw_p9 : lw_okq (⟨"CausalTable$State", "removeEntries", "(II)I"⟩, 6) := ⟨⟨by decide +kernel, by decide +kernel⟩, List.mem_of_getElem? (i := 22) (by decide +kernel), List.mem_of_getElem? (i := 412) (by decide +kernel), List.mem_of_getElem? (i := 413) (by decide +kernel)⟩
theorem lw_p10 : lw_okq (⟨"CausalTable$State", "makeEntry", "(IIII)V"⟩, 6) := ⟨⟨by decide +kernel, by decide +kernel⟩, List.mem_of_getElem? (i := 22) (by decide +kernel), List.mem_of_getElem? (i := 416) (by decide +kernel), List.mem_of_getElem? (i := 417) (by decide +kernel)⟩
def lw_privs_1 : List (MethodName × Nat) := [(⟨"CausalTable$State", "isAdded", "(III)Z"⟩, 6), (⟨"CausalTable$State", "isRemoved", "(III)Z"⟩, 6), (⟨"CausalTable$State", "mergeSlot", "(III)V"⟩, 6), (⟨"CausalTable$State", "mergeKnowledge", "(II)V"⟩, 6), (⟨"java/lang/Throwable", "fillInStackTrace", "(I)Ljava/lang/Throwable;"⟩, 6), (⟨"CausalTable$State", "countEntries", "(II)I"⟩, 6), (⟨"CausalTable$State", "rankInCell", "(III)I"⟩, 6), (⟨"CausalTable$State", "beginUpdate", "(I)V"⟩, 6), (⟨"CausalTable$State", "removeGroup", "(III)I"⟩, 6), (⟨"CausalTable$State", "removeEntries", "(II)I"⟩, 6), (⟨"CausalTable$State", "makeEntry", "(IIII)V"⟩, 6)]
theorem lw_r1 : ∀ q ∈ lw_privs_1, lw_okq q := List.forall_mem_cons.mpr ⟨lw_p0, List.forall_mem_cons.mpr ⟨lw_p1, List.forall_mem_cons.mpr ⟨lw_p2, List.forall_mem_cons.mpr ⟨lw_p3, List.forall_mem_cons.mpr ⟨lw_p4, List.forall_mem_cons.mpr ⟨lw_p5, List.forall_mem_cons.mpr ⟨lw_p6, List.forall_mem_cons.mpr ⟨lw_p7, List.forall_mem_cons.mpr ⟨lw_p8, List.forall_mem_cons.mpr ⟨lw_p9, List.forall_mem_cons.mpr ⟨lw_p10, fun _ h => absurd h List.not_mem_nil⟩⟩⟩⟩⟩⟩⟩⟩⟩⟩⟩
def lw_privs : List (MethodName × Nat) := lw_privs_1
def lw_tbl : List Cond := k2_sels lw_privs ++ tables_1
theorem lw_privs_ok : ∀ q ∈ lw_privs, lw_okq q := lw_r1
/-- the streams that the claim lets the run draw from -/
abbrev lw_cs : List Choice := [Jvm.Choice.named "NaN.bits"]
theorem lw_bits : nanBits ∈ lw_cs := by first | decide | exact List.mem_cons_self | simp [lw_cs, nanBits]
end
section
/-! ===== BEGIN words of one list among another's, by their places ===== -/
theorem goodIn_r {big : List Cond} (ws : List Cond) (ps : List Nat) (hp : ws = ps.filterMap (fun i => big[i]?)) (h : ws.all goodWord = true) : GoodIn big ws := by
  intro w hw
  have h1 := List.all_eq_true.mp h w hw
  rw [hp] at hw
  obtain ⟨i, -, hi⟩ := List.mem_filterMap.mp hw
  have hm : w ∈ big := by first | exact List.mem_of_getElem? hi | exact List.getElem?_mem hi
  exact ⟨hm, good_of_word h1⟩
theorem goodIn_app {big a b : List Cond} (ha : GoodIn big a) (hb : GoodIn big b) : GoodIn big (a ++ b) := fun w h => (List.mem_append.mp h).elim (ha w) (hb w)
theorem goodIn_ca {big a b : List Cond} {c : Cond} (ha : GoodIn big (c :: a)) (hb : GoodIn big b) : GoodIn big (c :: (a ++ b)) := fun w h => (List.mem_cons.mp h).elim (fun e => ha w (List.mem_cons.mpr (Or.inl e))) (fun h => (List.mem_append.mp h).elim (fun h => ha w (List.mem_cons.mpr (Or.inr h))) (hb w))
theorem goodIn_sub {big ws : List Cond} (hm : ∀ w ∈ ws, w ∈ big) (h : ws.all goodWord = true) : GoodIn big ws := fun w hw => ⟨hm w hw, good_of_word (List.all_eq_true.mp h w hw)⟩
/-! ===== END ===== -/

/-! ===== BEGIN exceptions that leave a method, and their catching by the caller (launches without stack traces) ===== -/
section VXA
/-! The laws vx_back, vx_callV, vx_callS, vx_callSW, vx_throw0, vx_throwS follow proofs of the library, with one case more: JvmDerived/Free/Laws.lean (Back.of_free), Shelf42/LK1.lean (callV, callS), Shelf/KitTraced.lean (throwNew0V, throwNewS). -/
/-- where a method has thrown q: the class by its name, the cell, what was written, the world -/
def vx_T (XC : String → State → State → Prop) (st : State) (q : Addr) (t : State) (mc ms : Nat) (free : Addr → Prop) : Prop :=
  ∃ (E : String) (ce : Cell) (L : List Loc), XC E st t ∧ t.heap[q]? = some ce ∧ ce.vm = .none ∧ st.vm.findClass E = some ce.cls ∧ st.WarmedH t.vm ∧ st.sameButNew ({ t with vm := st.vm } : State) L mc ms ∧ ∀ z ∈ L, free z.base
def vx_Q (Qc : Array Value → State → Outcome → State → Prop) (XC : String → State → State → Prop) (mc ms : Nat) (free : Addr → Prop) : Array Value → State → Outcome → State → Prop := fun a st o t =>
  (Qc a st o t ∧ ∃ L, FrameEnd st o t L mc ms ∧ ∀ q ∈ L, free q.base) ∨ ∃ q, o = .threw q ∧ vx_T XC st q t mc ms free
/-- a callee that returns or throws -/
def vx_Met (l : Launch) (y : MethodName) (ws : List Cond) (rm : Room) (Pc : Array Value → State → Prop) (Qc : Array Value → State → Outcome → State → Prop) (XC : String → State → State → Prop) (mc ms : Nat) (free : Addr → Prop) : Prop :=
  MetFree l y (headSpec ws rm) Pc (fun _ _ _ _ _ => True) (vx_Q Qc XC mc ms free)
def vx_Post (XC : String → State → State → Prop) (mc ms : Nat) (free : Addr → Prop) : Pt → Array Value → Addr → Pt → Prop := fun A a q B =>
  ∃ (g : JFrame) (mk : MethodId) (t : State) (L : List Loc) (E : String) (ce : Cell), B.U.heap = t.heap ∧ B.U.vm = t.vm ∧ XC E (A.U.calling g mk a) t ∧ t.heap[q]? = some ce ∧ ce.vm = .none ∧ A.U.vm.findClass E = some ce.cls ∧ B.locs = A.locs ++ L ∧ (∀ z ∈ L, free z.base) ∧ B.cells = A.cells + mc ∧ B.slots = A.slots + ms
def vx_Back (l : Launch) (R : Room) (p : Program) (e : Env) (below : List Frame) (s : State) (sargs : Array Value) (y : MethodName) (len W9 : Nat)
    (Pre : Pt → Array Value → Prop) (Post : Pt → Array Value → Option Value → Pt → Prop) (PostX : Pt → Array Value → Addr → Pt → Prop) : Prop :=
  ∀ (m : MethodId) (meth : Method) (c : Code) (A : Pt) (g : JFrame) (ig : Instr) (mk : MethodId) (a : Array Value),
    Stand p l e R s m sargs below meth c A.U A.locs A.cells A.slots → g.method = m → g.locals.size = c.maxLocals → decode c.code g.pc = .ok (ig, len) →
    2 * g.monitorRoom + (g.stack.map fun v => v.category).sum ≤ W9 → A.U.methodNamed? y = some mk → Pre A a →
    (∃ (v : Option Value) (B : Pt), Stand p l e R s m sargs below meth c B.U B.locs B.cells B.slots ∧ Post A a v B ∧
      Steps p.tables e below (doInvoke e (A.U.setTop g) [] mk a).1 (B.U.setTop { g with pc := g.pc + len, stack := v.toList ++ g.stack })) ∨
    (∃ (q : Addr) (B : Pt), Stand p l e R s m sargs below meth c B.U B.locs B.cells B.slots ∧ PostX A a q B ∧
      Steps p.tables e below (doInvoke e (A.U.setTop g) [] mk a).1 ((B.U.setTop g).pushFrame (.throwing q)))
section Payer
variable {l : Launch} {R : Room} {p : Program} {e : Env} {below : List Frame} {s : State} {sargs : Array Value} {y : MethodName} {len W9 : Nat}
theorem vx_back {ws : List Cond} {rm : Room} {Pc : Array Value → State → Prop} {Qc : Array Value → State → Outcome → State → Prop} {XC : String → State → State → Prop} {mc ms : Nat} {free : Addr → Prop} {bytes : ByteArray} {maxL : Nat} {ret : Option FieldType}
    (hM : vx_Met l y ws rm Pc Qc XC mc ms free) (hblind : FrameBlind Pc) (hrc : rm.cells = mc) (hrs : rm.slots = ms)
    (hframes : rm.frames + 1 ≤ R.frames) (hlocals : W9 + (maxL + 11) + rm.locals ≤ R.locals)
    (hws : ∀ w ∈ ws, ∀ a' U, s.WarmedH U.vm → w.before a' U = true) (hcode : Cond.code y bytes maxL ret ∈ ws) (hinit : ∀ a' U, s.WarmedH U.vm → (Cond.initialized y.cls).before a' U = true) :
    vx_Back l R p e below s sargs y len W9 (PreOf R mc ms Pc) (PostOf Qc mc ms free) (vx_Post XC mc ms free) := by
  intro m meth c A g ig mk a X hg hsize hdg hW hn hp
  have h1 : (headSpec ws rm).pre.before a A.U = true := atoms_intro fun w hw => hws w hw _ _ X.warmed
  have h2 : (Cond.code y bytes maxL ret).before a A.U = true := hws _ hcode _ _ X.warmed
  have h3 : (Cond.initialized y.cls).before a A.U = true := hinit _ _ X.warmed
  have h4 : A.cells + (headSpec ws rm).room.cells ≤ R.cells := by rw [show (headSpec ws rm).room.cells = mc from hrc]; exact hp.1
  have h5 : A.slots + (headSpec ws rm).room.slots ≤ R.slots := by rw [show (headSpec ws rm).room.slots = ms from hrs]; exact hp.2.1
  have hPc : Pc a (A.U.calling g mk a) := hblind _ _ _ _ hp.2.2
  obtain ⟨U, Ls, c0, s0⟩ := A
  dsimp only [Pt.U, Pt.locs, Pt.cells, Pt.slots] at h1 h2 h3 h4 h5 X hn hPc ⊢
  obtain ⟨methY, cY, hmY, hcY, -, hlY, -, -, -, -⟩ := Cond.code_spec hn h2
  obtain ⟨kY, hkY, -⟩ := className_of_methodNamed hn
  have hinitY : kY.init = .initialized := Cond.initialized_spec (findClass_of_methodNamed hn) hkY h3
  have h : At U g.method c below := by rw [hg]; exact X.here
  have hlocals9 : W9 + (maxL + 11) + (headSpec ws rm).room.locals ≤ R.locals := hlocals
  have happ : (headSpec ws rm).appliesLoose y e.platform (U.calling g mk a) = true :=
    Spec.appliesLoose_calling (g := g) h hdg hn hkY hinitY
      (X.room_calling (g := g) (R' := (headSpec ws rm).room) hsize hmY hcY hframes (by rw [hlY]; omega) h4 h5) h1
  obtain ⟨mid, hmid⟩ := h.above
  have hfr : (U.setTop g).frames = (.java g :: mid) ++ below := by rw [State.frames_setTop' g h.top, hmid]; rfl
  obtain ⟨o, s₂, hsteps, -, hend, hq⟩ := Steps.callFree hM p X.admits X.cas X.clock (acts := []) hfr happ hPc trivial
  have hq' : vx_Q Qc XC mc ms free a (U.calling g mk a) o s₂ := hq
  rw [State.frames_setTop' g h.top] at hend
  obtain ⟨g₀, hg0⟩ := Option.isSome_iff_exists.mp h.top
  obtain ⟨r, hr⟩ := State.topJava?_eq_some.mp hg0
  have hr' : (({ U with heap := s₂.heap, slotsUsed := s₂.slotsUsed } : State).setVm s₂.vm).frames = .java g₀ :: r := hr
  rcases hq' with ⟨hqc, L, hfe, hL⟩ | ⟨q, rfl, E, ce, L, hx, hce, hcv, hcl, hW₂, hsm, hL⟩
  · obtain ⟨⟨v, rfl⟩, hW₂, e2, q2, q3, q4, q5, q6⟩ := id hfe
    have e3 : s₂ = ({ (U.calling g mk a).setFrames s₂.frames with heap := s₂.heap, slotsUsed := s₂.slotsUsed } : State).setVm s₂.vm := by
      have : s₂ = ({ s₂ with vm := (U.calling g mk a).vm } : State).setVm s₂.vm := rfl
      rw [e2] at this
      exact this
    obtain ⟨c₂, i₂, len₂, hc₂, hd₂, hf₂⟩ := hend
    have hW' : U.WarmedH s₂.vm := hW₂
    have hcc : c₂ = c := by
      have h1 : s₂.code? g.method = U.code? g.method := by
        rw [State.code?_eq, State.code?_eq, hW'.alike.method?]
      exact Option.some.inj (hc₂.symm.trans (h1.trans h.code))
    subst hcc
    have hlen : len₂ = len := by rw [hdg] at hd₂; cases hd₂; rfl
    subst hlen
    have hs₂ : s₂ = (({ U with heap := s₂.heap, slotsUsed := s₂.slotsUsed } : State).setVm s₂.vm).setTop { g with pc := g.pc + len₂, stack := v.toList ++ g.stack } := by
      refine e3.trans ?_
      rw [hf₂, State.calling_eq h.top, State.setFrames_setFrames, State.setTop_of_frames _ hr', hr]
      rfl
    have hsame : U.sameButNew ({ U with heap := s₂.heap, slotsUsed := s₂.slotsUsed } : State) L mc ms := by
      refine ⟨?_, q2, q3, q4, q5, q6⟩
      obtain ⟨t, ht, -⟩ := State.frames_cons hr
      show ({ U with heap := s₂.heap, slotsUsed := s₂.slotsUsed } : State) = { U.setFrames U.frames with heap := s₂.heap, slotsUsed := s₂.slotsUsed }
      rw [State.setFrames_self ht]
    subst hg
    refine Or.inl ⟨v, ⟨(({ U with heap := s₂.heap, slotsUsed := s₂.slotsUsed } : State).setVm s₂.vm), Ls ++ L, c0 + mc, s0 + ms⟩,
      ⟨X.admits, X.cas, X.clock, X.frames, X.room, X.hears, X.method, X.code, (X.here.setHeapUsed s₂.heap s₂.slotsUsed).setVm hW'.alike, X.tail, State.WarmedH.trans X.warmed hW', X.limits, X.bytes, X.same.trans (hsame.setVm s.vm)⟩,
      ⟨g, mk, s₂, L, rfl, rfl, hqc, rfl, hL, rfl, rfl⟩, ?_⟩
    show Steps p.tables e below _ ((({ U with heap := s₂.heap, slotsUsed := s₂.slotsUsed } : State).setVm s₂.vm).setTop { g with pc := g.pc + len₂, stack := v.toList ++ g.stack })
    rw [← hs₂]
    exact hsteps
  · obtain ⟨e2, q2, q3, q4, q5, q6⟩ := id hsm
    have e3 : s₂ = ({ (U.calling g mk a).setFrames s₂.frames with heap := s₂.heap, slotsUsed := s₂.slotsUsed } : State).setVm s₂.vm := by
      have : s₂ = ({ s₂ with vm := (U.calling g mk a).vm } : State).setVm s₂.vm := rfl
      rw [e2] at this
      exact this
    have hf₂ : s₂.frames = .throwing q :: .java g :: U.frames.tail := hend
    have hW' : U.WarmedH s₂.vm := hW₂
    have hs₂ : s₂ = ((({ U with heap := s₂.heap, slotsUsed := s₂.slotsUsed } : State).setVm s₂.vm).setTop g).pushFrame (.throwing q) := by
      refine e3.trans ?_
      rw [hf₂, State.calling_eq h.top, State.setFrames_setFrames, State.pushFrame, State.frames_setTop _ hr', State.setTop_of_frames _ hr', State.setFrames_setFrames, hr]
      rfl
    have hsame : U.sameButNew ({ U with heap := s₂.heap, slotsUsed := s₂.slotsUsed } : State) L mc ms := by
      refine ⟨?_, q2, q3, q4, q5, q6⟩
      obtain ⟨t, ht, -⟩ := State.frames_cons hr
      show ({ U with heap := s₂.heap, slotsUsed := s₂.slotsUsed } : State) = { U.setFrames U.frames with heap := s₂.heap, slotsUsed := s₂.slotsUsed }
      rw [State.setFrames_self ht]
    subst hg
    refine Or.inr ⟨q, ⟨(({ U with heap := s₂.heap, slotsUsed := s₂.slotsUsed } : State).setVm s₂.vm), Ls ++ L, c0 + mc, s0 + ms⟩,
      ⟨X.admits, X.cas, X.clock, X.frames, X.room, X.hears, X.method, X.code, (X.here.setHeapUsed s₂.heap s₂.slotsUsed).setVm hW'.alike, X.tail, State.WarmedH.trans X.warmed hW', X.limits, X.bytes, X.same.trans (hsame.setVm s.vm)⟩,
      ⟨g, mk, s₂, L, E, ce, rfl, rfl, hx, hce, hcv, hcl, rfl, hL, rfl, rfl⟩, ?_⟩
    show Steps p.tables e below _ (((({ U with heap := s₂.heap, slotsUsed := s₂.slotsUsed } : State).setVm s₂.vm).setTop g).pushFrame (.throwing q))
    rw [← hs₂]
    exact hsteps
end Payer
section Calls
variable {p : Program} {l : Launch} {e : Env} {R : Room} {s : State} {m : MethodId} {args : Array Value} {below : List Frame} {meth : Method} {c : Code} {T : State} {locs : List Loc} {cells slots : Nat}
theorem vx_callV (X : Stand p l e R s m args below meth c T locs cells slots) (hexec : p.tables.exec = Jvm.exec) {own C : String} {index : Nat} {y : MethodName} {bytes : ByteArray} {maxL : Nat} {ret : Option FieldType}
    (hown : s.vm.findClass own = some m.cls) (hlink : (Cond.methodLink own index y).before args s = true) (hinst : (Cond.instanceMethod y).before args s = true) (hsel : (Cond.selects C y y).before args s = true)
    (hcode : (Cond.code y bytes maxL ret).before args s = true) (hy : y.cls ≠ "java/lang/invoke/MethodHandle" ∧ y.cls ≠ "java/lang/invoke/VarHandle")
    {W9 : Nat} {Pre : Pt → Array Value → Prop} {Post : Pt → Array Value → Option Value → Pt → Prop} {PostX : Pt → Array Value → Addr → Pt → Prop} (hK : vx_Back l R p e below s args y 3 W9 Pre Post PostX)
    {b : Addr} {cellB : Cell} (hcell : T.heap[b]? = some cellB) (hobj : cellB.vm.isStatics = false) (hcls : s.vm.findClass C = some cellB.cls)
    {g : JFrame} (hg : g.method = m) (hsize : g.locals.size = c.maxLocals) {argsL rest : List Value} (hlen : ∀ sig, parseMethodDescriptor y.desc = some sig → argsL.length = sig.parameters.length)
    (hstack : g.stack = argsL.reverse ++ .ref b :: rest) (hW : 2 * g.monitorRoom + (rest.map fun v => v.category).sum ≤ W9) (hdg : decode c.code g.pc = .ok (.invokevirtual index, 3))
    (hpre : ∀ vm₁, s.WarmedH vm₁ → Pre ⟨T.setVm vm₁, locs, cells, slots⟩ (Value.ref b :: argsL).toArray) :
    (∃ (v : Option Value) (vm₁ : Vm) (B : Pt), s.WarmedH vm₁ ∧ Stand p l e R s m args below meth c B.U B.locs B.cells B.slots ∧ Post ⟨T.setVm vm₁, locs, cells, slots⟩ (Value.ref b :: argsL).toArray v B ∧
      ∀ target, Steps p.tables e below (B.U.setTop { g with pc := g.pc + 3, stack := v.toList ++ rest }) target → Steps p.tables e below (T.setTop g) target) ∨
    (∃ (q : Addr) (vm₁ : Vm) (B : Pt), s.WarmedH vm₁ ∧ Stand p l e R s m args below meth c B.U B.locs B.cells B.slots ∧ PostX ⟨T.setVm vm₁, locs, cells, slots⟩ (Value.ref b :: argsL).toArray q B ∧
      Steps p.tables e below (T.setTop g) ((B.U.setTop { g with stack := rest }).pushFrame (.throwing q))) := by
  obtain ⟨mk, methM, hnamed, hmethM, hstM, habM⟩ := Cond.instanceMethod_spec hinst
  obtain ⟨methM', cM, hmethM', -, -, -, -, -, -, hsigM⟩ := Cond.code_spec hnamed hcode
  cases hmethM.symm.trans hmethM'
  obtain ⟨c2, r2, m2, q1, q2, q3, q4, kP, hkP, hkPi⟩ := Cond.selects_spec hsel
  cases hcls.symm.trans q1
  cases (State.methodFound?_of_named hnamed hy).symm.trans q2
  cases hnamed.symm.trans q3
  have hselP : selectMethod e.platform s.vm cellB.cls mk = .method mk := by rw [Launch.admits_selectMethod X.admits]; exact q4
  obtain ⟨vm₁, X₁, hstep₁⟩ := X.invokevirtual hexec hown hlink hnamed hmethM hstM hkP hkPi hy (a := b) (cell := cellB) hcell
    (fun z h => by rw [h] at hobj; cases hobj) hselP hmethM habM hkP hkPi (g := g) hg (argsL := argsL) (rest := rest) (hlen _ hsigM) hstack hdg
  rcases hK m meth c ⟨T.setVm vm₁, locs, cells, slots⟩ { g with stack := rest } (.invokevirtual index) mk (Value.ref b :: argsL).toArray X₁ hg hsize hdg hW (X₁.named hnamed) (hpre vm₁ X₁.warmed) with ⟨v, B, X', hpost, hsteps⟩ | ⟨q, B, X', hpost, hsteps⟩
  · exact Or.inl ⟨v, vm₁, B, X₁.warmed, X', hpost, fun target h => hstep₁ _ fun acts => by rw [doInvoke_state]; exact hsteps.trans h⟩
  · exact Or.inr ⟨q, vm₁, B, X₁.warmed, X', hpost, hstep₁ _ fun acts => by rw [doInvoke_state]; exact hsteps⟩
theorem vx_callS (X : Stand p l e R s m args below meth c T locs cells slots) (hexec : p.tables.exec = Jvm.exec) {own : String} {index : Nat} {y : MethodName} {bytes : ByteArray} {maxL : Nat} {ret : Option FieldType}
    (hown : s.vm.findClass own = some m.cls) (hlink : (Cond.methodLink own index y).before args s = true) (hstat : (Cond.static y).before args s = true) (hinit : (Cond.initialized y.cls).before args s = true)
    (hcode : (Cond.code y bytes maxL ret).before args s = true) (hy : y.cls ≠ "java/lang/invoke/MethodHandle" ∧ y.cls ≠ "java/lang/invoke/VarHandle")
    {W9 : Nat} {Pre : Pt → Array Value → Prop} {Post : Pt → Array Value → Option Value → Pt → Prop} {PostX : Pt → Array Value → Addr → Pt → Prop} (hK : vx_Back l R p e below s args y 3 W9 Pre Post PostX)
    {g : JFrame} (hg : g.method = m) (hsize : g.locals.size = c.maxLocals) {argsL rest : List Value} (hlen : ∀ sig, parseMethodDescriptor y.desc = some sig → argsL.length = sig.parameters.length)
    (hstack : g.stack = argsL.reverse ++ rest) (hW : 2 * g.monitorRoom + (rest.map fun v => v.category).sum ≤ W9) (hdg : decode c.code g.pc = .ok (.invokestatic index, 3))
    (hpre : ∀ vm₁, s.WarmedH vm₁ → Pre ⟨T.setVm vm₁, locs, cells, slots⟩ argsL.toArray) :
    (∃ (v : Option Value) (vm₁ : Vm) (B : Pt), s.WarmedH vm₁ ∧ Stand p l e R s m args below meth c B.U B.locs B.cells B.slots ∧ Post ⟨T.setVm vm₁, locs, cells, slots⟩ argsL.toArray v B ∧
      ∀ target, Steps p.tables e below (B.U.setTop { g with pc := g.pc + 3, stack := v.toList ++ rest }) target → Steps p.tables e below (T.setTop g) target) ∨
    (∃ (q : Addr) (vm₁ : Vm) (B : Pt), s.WarmedH vm₁ ∧ Stand p l e R s m args below meth c B.U B.locs B.cells B.slots ∧ PostX ⟨T.setVm vm₁, locs, cells, slots⟩ argsL.toArray q B ∧
      Steps p.tables e below (T.setTop g) ((B.U.setTop { g with stack := rest }).pushFrame (.throwing q))) := by
  obtain ⟨mk, hnamed⟩ := Cond.code_named hcode
  obtain ⟨methM, cM, hmethM, -, -, -, -, -, -, hsigM⟩ := Cond.code_spec hnamed hcode
  have hstatic : methM.isStatic = true := Cond.static_spec hnamed hmethM hstat
  obtain ⟨kP, hkP, -⟩ := className_of_methodNamed hnamed
  have hinitP : kP.init = .initialized := Cond.initialized_spec (findClass_of_methodNamed hnamed) hkP hinit
  obtain ⟨vm₁, X₁, hstep₁⟩ := X.invokestatic hexec hown hlink hnamed hmethM hstatic hkP hinitP hy (g := g) hg (argsL := argsL) (rest := rest) (hlen _ hsigM) hstack hdg
  rcases hK m meth c ⟨T.setVm vm₁, locs, cells, slots⟩ { g with stack := rest } (.invokestatic index) mk argsL.toArray X₁ hg hsize hdg hW (X₁.named hnamed) (hpre vm₁ X₁.warmed) with ⟨v, B, X', hpost, hsteps⟩ | ⟨q, B, X', hpost, hsteps⟩
  · exact Or.inl ⟨v, vm₁, B, X₁.warmed, X', hpost, fun target h => hstep₁ _ fun acts => by rw [doInvoke_state]; exact hsteps.trans h⟩
  · exact Or.inr ⟨q, vm₁, B, X₁.warmed, X', hpost, hstep₁ _ fun acts => by rw [doInvoke_state]; exact hsteps⟩
end Calls
theorem vx_cls {s : State} {T : State} {vm₁ : Vm} {E : String} {k : ClassId} (hW : s.WarmedH vm₁) (h : (T.setVm vm₁).vm.findClass E = some k) : s.vm.findClass E = some k := by
  have h1 : vm₁.findClass E = some k := h
  rw [hW.alike.findClass] at h1
  exact h1
/-- the method's frame g, with q thrown over it -/
def vx_W (p : Program) (l : Launch) (e : Env) (R : Room) (s : State) (m : MethodId) (args : Array Value) (below : List Frame) (meth : Method) (c : Code) (H : Heap) (locs : List Loc) (cells slots : Nat) (Q : State → Prop) (g : JFrame) (q : Addr) : Prop :=
  ∀ T : State, T.heap = H → Stand p l e R s m args below meth c T locs cells slots → ∃ t, Steps p.tables e below ((T.setTop g).pushFrame (.throwing q)) t ∧ Q t
def vx_Run (p : Program) (l : Launch) (e : Env) (R : Room) (s : State) (m : MethodId) (args : Array Value) (below : List Frame) (meth : Method) (c : Code) (H : Heap) (locs : List Loc) (cells slots mc ms : Nat) (g : JFrame) (rest : List Value) (Qa : State → Outcome → State → Prop) (XC : String → State → State → Prop) (free : Addr → Prop) : Prop :=
  ∀ T : State, T.heap = H → Stand p l e R s m args below meth c T locs cells slots →
    (∃ (v : Option Value) (st₀ t T' : State) (L : List Loc), st₀.heap = H ∧ Stand p l e R s m args below meth c T' (locs ++ L) (cells + mc) (slots + ms) ∧ (∀ q ∈ L, free q.base) ∧ T'.heap = t.heap ∧ T'.vm = t.vm ∧ Qa st₀ (.returned v) t ∧
      Goes p e below T g T' { g with pc := g.pc + 3, stack := v.toList ++ rest }) ∨
    (∃ (q : Addr) (st₀ t T' : State) (L : List Loc) (E : String) (ce : Cell), st₀.heap = H ∧ Stand p l e R s m args below meth c T' (locs ++ L) (cells + mc) (slots + ms) ∧ (∀ z ∈ L, free z.base) ∧ T'.heap = t.heap ∧ T'.vm = t.vm ∧ XC E st₀ t ∧ t.heap[q]? = some ce ∧ ce.vm = .none ∧ s.vm.findClass E = some ce.cls ∧
      Steps p.tables e below (T.setTop g) ((T'.setTop { g with stack := rest }).pushFrame (.throwing q)))
def vx_X {S : Type} (px : S → Prop) (B : String → S → State → Prop) (A : Nat → Prop) : String → State → State → Prop := fun E st t => ∃ u : S, px u ∧ B E u t ∧ va_F A st t
section Runs
variable {p : Program} {l : Launch} {e : Env} {R : Room} {s : State} {m : MethodId} {args : Array Value} {below : List Frame} {meth : Method} {c : Code} {H : Heap} {locs : List Loc} {cells slots : Nat}
variable {y : MethodName} {bytes cc : ByteArray} {maxL nL mc ms n index : Nat} {ret : Option FieldType} {ws : List Cond} {rm : Room} {Pc : Array Value → State → Prop} {Qc : Array Value → State → Outcome → State → Prop} {XC : String → State → State → Prop} {free : Addr → Prop} {Ts : List Cond} {own C : String} {b : Addr} {As rest : List Value} {g : JFrame}
theorem vx_callBack (cb : CallB R s args own index y bytes maxL ret ws rm mc ms n) (hM : vx_Met l y ws rm Pc Qc XC mc ms free) (hbl : FrameBlind Pc) : vx_Back l R p e below s args y 3 8 (PreOf R mc ms Pc) (PostOf Qc mc ms free) (vx_Post XC mc ms free) := by
  obtain ⟨hrc, hrs, hfr, hlo, hws, hcw, -, hini, -⟩ := cb
  exact vx_back (bytes := bytes) (maxL := maxL) (ret := ret) hM hbl hrc hrs hfr hlo hws hcw (fun a' U hW => word_at hW (Or.inl (by first | rfl | simp [Cond.onTables, Cond.keeps, Cond.steady])) hini)
theorem vx_runV (S : CallFix p m c cc nL s args Ts own) (hM : vx_Met l y ws rm Pc Qc XC mc ms free) (cw : CallW R s args own C index y bytes maxL ret ws rm mc ms n) (hp : PreV s H C b Pc As)
    (hg : g.method = m) (hn : As.length = n) (hsize : g.locals.size = nL) (hstack : g.stack = As.reverse ++ .ref b :: rest) (hW : 2 * g.monitorRoom + (rest.map fun v => v.category).sum ≤ 8) (hdg : decode cc g.pc = .ok (.invokevirtual index, 3)) (hf : cells + mc ≤ R.cells ∧ slots + ms ≤ R.slots) :
    vx_Run p l e R s m args below meth c H locs cells slots mc ms g rest (Qc (Value.ref b :: As).toArray) XC free := by
  have hK : vx_Back l R p e below s args y 3 8 (PreOf R mc ms Pc) (PostOf Qc mc ms free) (vx_Post XC mc ms free) := vx_callBack cw.1 hM hp.1
  obtain ⟨⟨-, -, -, -, -, -, hcode, -, hy, hlen, hl⟩, hin, hse⟩ := cw
  obtain ⟨hx, hb, hml, ho, -⟩ := S
  obtain ⟨-, ⟨cellB, hcB, hoB, hclB⟩, hPc⟩ := hp
  intro T hT X
  rcases vx_callV X hx (C := C) (bytes := bytes) (maxL := maxL) (ret := ret) ho hl hin hse hcode hy hK (by rw [hT]; exact hcB) hoB hclB hg (hsize.trans hml.symm) (argsL := As) (rest := rest) (fun sig h => hn.trans (hlen sig h)) hstack hW (by rw [hb]; exact hdg)
    (fun vm₁ hW₁ => ⟨hf.1, hf.2, hPc (T.setVm vm₁) hT hW₁⟩) with ⟨v, vm₁, ⟨U', l2, c2, s2⟩, hW₁, X', ⟨g', mk, t, L, e1, e2, hq, h1, hL, h2, h3⟩, st⟩ | ⟨q, vm₁, ⟨U', l2, c2, s2⟩, hW₁, X', ⟨g', mk, t, L, E, ce, e1, e2, hq, hce, hcv, hcl, h1, hL, h2, h3⟩, st⟩
  · dsimp only [Pt.U, Pt.locs, Pt.cells, Pt.slots] at X' e1 e2 h1 h2 h3 st
    subst h1; subst h2; subst h3
    exact Or.inl ⟨v, (T.setVm vm₁).calling g' mk (Value.ref b :: As).toArray, t, U', L, hT, X', hL, e1, e2, hq, st⟩
  · dsimp only [Pt.U, Pt.locs, Pt.cells, Pt.slots] at X' e1 e2 h1 h2 h3 st hcl
    subst h1; subst h2; subst h3
    exact Or.inr ⟨q, (T.setVm vm₁).calling g' mk (Value.ref b :: As).toArray, t, U', L, E, ce, hT, X', hL, e1, e2, hq, hce, hcv, vx_cls hW₁ hcl, st⟩
theorem vx_runS (S : CallFix p m c cc nL s args Ts own) (hM : vx_Met l y ws rm Pc Qc XC mc ms free) (cw : CallB R s args own index y bytes maxL ret ws rm mc ms n ∧ (Cond.static y).before args s = true) (hp : PreS s H Pc As)
    (hg : g.method = m) (hn : As.length = n) (hsize : g.locals.size = nL) (hstack : g.stack = As.reverse ++ rest) (hW : 2 * g.monitorRoom + (rest.map fun v => v.category).sum ≤ 8) (hdg : decode cc g.pc = .ok (.invokestatic index, 3)) (hf : cells + mc ≤ R.cells ∧ slots + ms ≤ R.slots) :
    vx_Run p l e R s m args below meth c H locs cells slots mc ms g rest (Qc As.toArray) XC free := by
  have hK : vx_Back l R p e below s args y 3 8 (PreOf R mc ms Pc) (PostOf Qc mc ms free) (vx_Post XC mc ms free) := vx_callBack cw.1 hM hp.1
  obtain ⟨⟨-, -, -, -, -, -, hcode, hini, hy, hlen, hl⟩, hstt⟩ := cw
  obtain ⟨hx, hb, hml, ho, -⟩ := S
  intro T hT X
  rcases vx_callS X hx (bytes := bytes) (maxL := maxL) (ret := ret) ho hl hstt hini hcode hy hK hg (hsize.trans hml.symm) (argsL := As) (rest := rest) (fun sig h => hn.trans (hlen sig h)) hstack hW (by rw [hb]; exact hdg)
    (fun vm₁ hW₁ => ⟨hf.1, hf.2, hp.2 (T.setVm vm₁) hT hW₁⟩) with ⟨v, vm₁, ⟨U', l2, c2, s2⟩, hW₁, X', ⟨g', mk, t, L, e1, e2, hq, h1, hL, h2, h3⟩, st⟩ | ⟨q, vm₁, ⟨U', l2, c2, s2⟩, hW₁, X', ⟨g', mk, t, L, E, ce, e1, e2, hq, hce, hcv, hcl, h1, hL, h2, h3⟩, st⟩
  · dsimp only [Pt.U, Pt.locs, Pt.cells, Pt.slots] at X' e1 e2 h1 h2 h3 st
    subst h1; subst h2; subst h3
    exact Or.inl ⟨v, (T.setVm vm₁).calling g' mk As.toArray, t, U', L, hT, X', hL, e1, e2, hq, st⟩
  · dsimp only [Pt.U, Pt.locs, Pt.cells, Pt.slots] at X' e1 e2 h1 h2 h3 st hcl
    subst h1; subst h2; subst h3
    exact Or.inr ⟨q, (T.setVm vm₁).calling g' mk As.toArray, t, U', L, E, ce, hT, X', hL, e1, e2, hq, hce, hcv, vx_cls hW₁ hcl, st⟩
end Runs
section Rows
variable {p : Program} {l : Launch} {e : Env} {R : Room} {s : State} {m : MethodId} {args : Array Value} {below : List Frame} {meth : Method} {c : Code} {H : Heap} {locs : List Loc} {cells slots : Nat} {Q : State → Prop}
variable {mc ms : Nat} {free : Addr → Prop} {A0 A1 : Nat → Prop} {H0 : Heap} {a : Array Value} {pc : Nat} {ls : Array Slot} {st0 rest : List Value}
theorem vx_keep {st₀ t T' : State} {L : List Loc} (h0 : st₀.heap = H) (e1 : T'.heap = t.heap) (hS : va_S A0 H0 H locs) (hA : ∀ q, q < H.size → A1 q → A0 q) (hf : ∀ q, free q → A0 q) (hL : ∀ q ∈ L, free q.base) (hF : va_F A1 st₀ t) :
    H.size ≤ T'.heap.size ∧ (∀ q : Nat, q < H.size → ¬ A1 q → T'.heap[q]? = H[q]?) ∧ va_S A0 H0 T'.heap (locs ++ L) := by
  obtain ⟨hz, hk⟩ := hF
  rw [h0] at hz hk
  exact ⟨by rw [e1]; exact hz, fun q h1 h2 => by rw [e1]; exact hk q h1 h2,
    ⟨Nat.le_trans hS.1 (by rw [e1]; exact hz), fun q h1 h2 => by rw [e1, hk q (Nat.lt_of_lt_of_le h1 hS.1) (fun z => h2 (hA q (Nat.lt_of_lt_of_le h1 hS.1) z))]; exact hS.2.1 q h1 h2, fun q hq => by
      rcases List.mem_append.mp hq with h | h
      · exact hS.2.2 q h
      · exact hf _ (hL q h)⟩⟩
theorem vx_calli {S SX : Type} {post : Int32 → S → Prop} {px : SX → Prop} {B : S → State → Prop} {BX : String → SX → State → Prop} {AX : Nat → Prop} (hr : vx_Run p l e R s m args below meth c H locs cells slots mc ms (F0 m pc ls st0) rest (va_Qi post B A1 a) (vx_X px BX AX) free) (hS : va_S A0 H0 H locs) (hA : ∀ q, q < H.size → A1 q → A0 q) (hf : ∀ q, free q → A0 q) (hAX : ∀ q, q < H.size → AX q → A0 q)
    (kx : ∀ (E : String) (ce : Cell) (q9 : Addr) (u : SX) (t : State) (H1 : Heap) (locs1 : List Loc), t.heap = H1 → s.vm.Alike t.vm → px u → BX E u t → H.size ≤ H1.size → (∀ q : Nat, q < H.size → ¬ AX q → H1[q]? = H[q]?) → va_S A0 H0 H1 locs1 → H1[q9]? = some ce → ce.vm = .none → s.vm.findClass E = some ce.cls → vx_W p l e R s m args below meth c H1 locs1 (cells + mc) (slots + ms) Q (F0 m pc ls rest) q9)
    (kk : ∀ (r : Int32) (u : S) (t : State) (H1 : Heap) (locs1 : List Loc), t.heap = H1 → s.vm.Alike t.vm → post r u → B u t → H.size ≤ H1.size → (∀ q : Nat, q < H.size → ¬ A1 q → H1[q]? = H[q]?) → va_S A0 H0 H1 locs1 → W p l e R s m args below meth c H1 locs1 (cells + mc) (slots + ms) Q (F0 m (pc + 3) ls (.int r :: rest))) : W p l e R s m args below meth c H locs cells slots Q (F0 m pc ls st0) := by
  intro T hT X
  rcases hr T hT X with ⟨v, st₀, t, T', L, h0, X', hL, e1, e2, ⟨⟨r, u, hv, hp, hb⟩, hF⟩, st⟩ | ⟨q, st₀, t, T', L, E, ce, h0, X', hL, e1, e2, ⟨u, hp, hb, hF⟩, hce, hcv, hcl, st⟩
  · cases hv
    obtain ⟨k1, k2, k3⟩ := vx_keep h0 e1 hS hA hf hL hF
    obtain ⟨t2, a1, b1⟩ := kk r u t T'.heap (locs ++ L) e1.symm (by rw [← e2]; exact X'.warmed.alike) hp hb k1 k2 k3 T' rfl X'
    exact ⟨t2, st t2 a1, b1⟩
  · obtain ⟨k1, k2, k3⟩ := vx_keep h0 e1 hS hAX hf hL hF
    obtain ⟨t2, a1, b1⟩ := kx E ce q u t T'.heap (locs ++ L) e1.symm (by rw [← e2]; exact X'.warmed.alike) hp hb k1 k2 k3 (by rw [e1]; exact hce) hcv hcl T' rfl X'
    exact ⟨t2, st.trans a1, b1⟩
theorem vx_calll {S SX : Type} {post : Int64 → S → Prop} {px : SX → Prop} {B : S → State → Prop} {BX : String → SX → State → Prop} {AX : Nat → Prop} (hr : vx_Run p l e R s m args below meth c H locs cells slots mc ms (F0 m pc ls st0) rest (va_Ql post B A1 a) (vx_X px BX AX) free) (hS : va_S A0 H0 H locs) (hA : ∀ q, q < H.size → A1 q → A0 q) (hf : ∀ q, free q → A0 q) (hAX : ∀ q, q < H.size → AX q → A0 q)
    (kx : ∀ (E : String) (ce : Cell) (q9 : Addr) (u : SX) (t : State) (H1 : Heap) (locs1 : List Loc), t.heap = H1 → s.vm.Alike t.vm → px u → BX E u t → H.size ≤ H1.size → (∀ q : Nat, q < H.size → ¬ AX q → H1[q]? = H[q]?) → va_S A0 H0 H1 locs1 → H1[q9]? = some ce → ce.vm = .none → s.vm.findClass E = some ce.cls → vx_W p l e R s m args below meth c H1 locs1 (cells + mc) (slots + ms) Q (F0 m pc ls rest) q9)
    (kk : ∀ (r : Int64) (u : S) (t : State) (H1 : Heap) (locs1 : List Loc), t.heap = H1 → s.vm.Alike t.vm → post r u → B u t → H.size ≤ H1.size → (∀ q : Nat, q < H.size → ¬ A1 q → H1[q]? = H[q]?) → va_S A0 H0 H1 locs1 → W p l e R s m args below meth c H1 locs1 (cells + mc) (slots + ms) Q (F0 m (pc + 3) ls (.long r :: rest))) : W p l e R s m args below meth c H locs cells slots Q (F0 m pc ls st0) := by
  intro T hT X
  rcases hr T hT X with ⟨v, st₀, t, T', L, h0, X', hL, e1, e2, ⟨⟨r, u, hv, hp, hb⟩, hF⟩, st⟩ | ⟨q, st₀, t, T', L, E, ce, h0, X', hL, e1, e2, ⟨u, hp, hb, hF⟩, hce, hcv, hcl, st⟩
  · cases hv
    obtain ⟨k1, k2, k3⟩ := vx_keep h0 e1 hS hA hf hL hF
    obtain ⟨t2, a1, b1⟩ := kk r u t T'.heap (locs ++ L) e1.symm (by rw [← e2]; exact X'.warmed.alike) hp hb k1 k2 k3 T' rfl X'
    exact ⟨t2, st t2 a1, b1⟩
  · obtain ⟨k1, k2, k3⟩ := vx_keep h0 e1 hS hAX hf hL hF
    obtain ⟨t2, a1, b1⟩ := kx E ce q u t T'.heap (locs ++ L) e1.symm (by rw [← e2]; exact X'.warmed.alike) hp hb k1 k2 k3 (by rw [e1]; exact hce) hcv hcl T' rfl X'
    exact ⟨t2, st.trans a1, b1⟩
theorem vx_callf {S SX : Type} {post : UInt32 → S → Prop} {px : SX → Prop} {B : S → State → Prop} {BX : String → SX → State → Prop} {AX : Nat → Prop} (hr : vx_Run p l e R s m args below meth c H locs cells slots mc ms (F0 m pc ls st0) rest (va_Qf post B A1 a) (vx_X px BX AX) free) (hS : va_S A0 H0 H locs) (hA : ∀ q, q < H.size → A1 q → A0 q) (hf : ∀ q, free q → A0 q) (hAX : ∀ q, q < H.size → AX q → A0 q)
    (kx : ∀ (E : String) (ce : Cell) (q9 : Addr) (u : SX) (t : State) (H1 : Heap) (locs1 : List Loc), t.heap = H1 → s.vm.Alike t.vm → px u → BX E u t → H.size ≤ H1.size → (∀ q : Nat, q < H.size → ¬ AX q → H1[q]? = H[q]?) → va_S A0 H0 H1 locs1 → H1[q9]? = some ce → ce.vm = .none → s.vm.findClass E = some ce.cls → vx_W p l e R s m args below meth c H1 locs1 (cells + mc) (slots + ms) Q (F0 m pc ls rest) q9)
    (kk : ∀ (r : UInt32) (u : S) (t : State) (H1 : Heap) (locs1 : List Loc), t.heap = H1 → s.vm.Alike t.vm → post r u → B u t → H.size ≤ H1.size → (∀ q : Nat, q < H.size → ¬ A1 q → H1[q]? = H[q]?) → va_S A0 H0 H1 locs1 → W p l e R s m args below meth c H1 locs1 (cells + mc) (slots + ms) Q (F0 m (pc + 3) ls (.float r :: rest))) : W p l e R s m args below meth c H locs cells slots Q (F0 m pc ls st0) := by
  intro T hT X
  rcases hr T hT X with ⟨v, st₀, t, T', L, h0, X', hL, e1, e2, ⟨⟨r, u, hv, hp, hb⟩, hF⟩, st⟩ | ⟨q, st₀, t, T', L, E, ce, h0, X', hL, e1, e2, ⟨u, hp, hb, hF⟩, hce, hcv, hcl, st⟩
  · cases hv
    obtain ⟨k1, k2, k3⟩ := vx_keep h0 e1 hS hA hf hL hF
    obtain ⟨t2, a1, b1⟩ := kk r u t T'.heap (locs ++ L) e1.symm (by rw [← e2]; exact X'.warmed.alike) hp hb k1 k2 k3 T' rfl X'
    exact ⟨t2, st t2 a1, b1⟩
  · obtain ⟨k1, k2, k3⟩ := vx_keep h0 e1 hS hAX hf hL hF
    obtain ⟨t2, a1, b1⟩ := kx E ce q u t T'.heap (locs ++ L) e1.symm (by rw [← e2]; exact X'.warmed.alike) hp hb k1 k2 k3 (by rw [e1]; exact hce) hcv hcl T' rfl X'
    exact ⟨t2, st.trans a1, b1⟩
theorem vx_calld {S SX : Type} {post : UInt64 → S → Prop} {px : SX → Prop} {B : S → State → Prop} {BX : String → SX → State → Prop} {AX : Nat → Prop} (hr : vx_Run p l e R s m args below meth c H locs cells slots mc ms (F0 m pc ls st0) rest (va_Qd post B A1 a) (vx_X px BX AX) free) (hS : va_S A0 H0 H locs) (hA : ∀ q, q < H.size → A1 q → A0 q) (hf : ∀ q, free q → A0 q) (hAX : ∀ q, q < H.size → AX q → A0 q)
    (kx : ∀ (E : String) (ce : Cell) (q9 : Addr) (u : SX) (t : State) (H1 : Heap) (locs1 : List Loc), t.heap = H1 → s.vm.Alike t.vm → px u → BX E u t → H.size ≤ H1.size → (∀ q : Nat, q < H.size → ¬ AX q → H1[q]? = H[q]?) → va_S A0 H0 H1 locs1 → H1[q9]? = some ce → ce.vm = .none → s.vm.findClass E = some ce.cls → vx_W p l e R s m args below meth c H1 locs1 (cells + mc) (slots + ms) Q (F0 m pc ls rest) q9)
    (kk : ∀ (r : UInt64) (u : S) (t : State) (H1 : Heap) (locs1 : List Loc), t.heap = H1 → s.vm.Alike t.vm → post r u → B u t → H.size ≤ H1.size → (∀ q : Nat, q < H.size → ¬ A1 q → H1[q]? = H[q]?) → va_S A0 H0 H1 locs1 → W p l e R s m args below meth c H1 locs1 (cells + mc) (slots + ms) Q (F0 m (pc + 3) ls (.double r :: rest))) : W p l e R s m args below meth c H locs cells slots Q (F0 m pc ls st0) := by
  intro T hT X
  rcases hr T hT X with ⟨v, st₀, t, T', L, h0, X', hL, e1, e2, ⟨⟨r, u, hv, hp, hb⟩, hF⟩, st⟩ | ⟨q, st₀, t, T', L, E, ce, h0, X', hL, e1, e2, ⟨u, hp, hb, hF⟩, hce, hcv, hcl, st⟩
  · cases hv
    obtain ⟨k1, k2, k3⟩ := vx_keep h0 e1 hS hA hf hL hF
    obtain ⟨t2, a1, b1⟩ := kk r u t T'.heap (locs ++ L) e1.symm (by rw [← e2]; exact X'.warmed.alike) hp hb k1 k2 k3 T' rfl X'
    exact ⟨t2, st t2 a1, b1⟩
  · obtain ⟨k1, k2, k3⟩ := vx_keep h0 e1 hS hAX hf hL hF
    obtain ⟨t2, a1, b1⟩ := kx E ce q u t T'.heap (locs ++ L) e1.symm (by rw [← e2]; exact X'.warmed.alike) hp hb k1 k2 k3 (by rw [e1]; exact hce) hcv hcl T' rfl X'
    exact ⟨t2, st.trans a1, b1⟩
theorem vx_callv {S SX : Type} {post : S → Prop} {px : SX → Prop} {B : S → State → Prop} {BX : String → SX → State → Prop} {AX : Nat → Prop} (hr : vx_Run p l e R s m args below meth c H locs cells slots mc ms (F0 m pc ls st0) rest (va_Qv post B A1 a) (vx_X px BX AX) free) (hS : va_S A0 H0 H locs) (hA : ∀ q, q < H.size → A1 q → A0 q) (hf : ∀ q, free q → A0 q) (hAX : ∀ q, q < H.size → AX q → A0 q)
    (kx : ∀ (E : String) (ce : Cell) (q9 : Addr) (u : SX) (t : State) (H1 : Heap) (locs1 : List Loc), t.heap = H1 → s.vm.Alike t.vm → px u → BX E u t → H.size ≤ H1.size → (∀ q : Nat, q < H.size → ¬ AX q → H1[q]? = H[q]?) → va_S A0 H0 H1 locs1 → H1[q9]? = some ce → ce.vm = .none → s.vm.findClass E = some ce.cls → vx_W p l e R s m args below meth c H1 locs1 (cells + mc) (slots + ms) Q (F0 m pc ls rest) q9)
    (kk : ∀ (u : S) (t : State) (H1 : Heap) (locs1 : List Loc), t.heap = H1 → s.vm.Alike t.vm → post u → B u t → H.size ≤ H1.size → (∀ q : Nat, q < H.size → ¬ A1 q → H1[q]? = H[q]?) → va_S A0 H0 H1 locs1 → W p l e R s m args below meth c H1 locs1 (cells + mc) (slots + ms) Q (F0 m (pc + 3) ls (rest))) : W p l e R s m args below meth c H locs cells slots Q (F0 m pc ls st0) := by
  intro T hT X
  rcases hr T hT X with ⟨v, st₀, t, T', L, h0, X', hL, e1, e2, ⟨⟨u, hv, hp, hb⟩, hF⟩, st⟩ | ⟨q, st₀, t, T', L, E, ce, h0, X', hL, e1, e2, ⟨u, hp, hb, hF⟩, hce, hcv, hcl, st⟩
  · cases hv
    obtain ⟨k1, k2, k3⟩ := vx_keep h0 e1 hS hA hf hL hF
    obtain ⟨t2, a1, b1⟩ := kk u t T'.heap (locs ++ L) e1.symm (by rw [← e2]; exact X'.warmed.alike) hp hb k1 k2 k3 T' rfl X'
    exact ⟨t2, st t2 a1, b1⟩
  · obtain ⟨k1, k2, k3⟩ := vx_keep h0 e1 hS hAX hf hL hF
    obtain ⟨t2, a1, b1⟩ := kx E ce q u t T'.heap (locs ++ L) e1.symm (by rw [← e2]; exact X'.warmed.alike) hp hb k1 k2 k3 (by rw [e1]; exact hce) hcv hcl T' rfl X'
    exact ⟨t2, st.trans a1, b1⟩
/-- caught by the row x of this method's table; the rows ahead don't take it -/
theorem vx_catch {own name : String} {E : String} {ce : Cell} {q : Addr} (hown : s.vm.findClass own = some m.cls) (pre : List ExceptionTableEntry) (x : ExceptionTableEntry) (suf : List ExceptionTableEntry) (hsplit : c.exceptionTable.toList = pre ++ x :: suf)
    (hpass : ∀ z ∈ pre, covers z pc = false ∨ (z.catchType ≠ 0 ∧ ∃ nm : String, (Cond.classLink own z.catchType nm).before args s = true ∧ va_Nc E nm s)) (hx : covers x pc = true) (h0 : x.catchType ≠ 0)
    (hlink : (Cond.classLink own x.catchType name).before args s = true) (hcast : (Cond.castable E name).before args s = true) (hcell : H[q]? = some ce) (hv : ce.vm = .none) (hcl : s.vm.findClass E = some ce.cls)
    (kk : W p l e R s m args below meth c H locs cells slots Q (F0 m x.handlerPc ls [.ref q])) : vx_W p l e R s m args below meth c H locs cells slots Q (F0 m pc ls rest) q := by
  intro T hT X
  have hpl : e.platform.magicAccessors = ({} : Platform).magicAccessors := by rw [X.admits.platform]
  obtain ⟨c3, c4, hc3, hc4, hasg⟩ := Cond.castable_spec hcast
  cases Option.some.inj (hc3.symm.trans hcl)
  obtain ⟨c5, hc5, hcl5⟩ := Cond.classLink_spec hown hlink e.platform hpl
  cases Option.some.inj (hc4.symm.trans hc5)
  obtain ⟨vm', X', st⟩ := X.thenCaughtThrough q (g := F0 m pc ls rest) rfl (Steps.refl _) (by rw [hT]; exact hcell) (by rw [hv]; rfl) (by obtain ⟨k9, h9, -⟩ := Vm.findClass_spec hcl; exact ⟨k9, h9⟩) pre x suf hsplit
    (fun z hz => by
      rcases hpass z hz with h | ⟨hz0, nm, hl1, hn1⟩
      · exact Or.inl h
      · obtain ⟨c6, hc6, hcl6⟩ := Cond.classLink_spec hown hl1 e.platform hpl
        obtain ⟨a8, b8, h1, h2, h3⟩ := hn1
        cases Option.some.inj (h1.symm.trans hcl)
        cases Option.some.inj (h2.symm.trans hc6)
        exact Or.inr ⟨hz0, _, hcl6, h3⟩) hx (Or.inr ⟨h0, c4, hcl5, hasg⟩)
  obtain ⟨t, a1, b1⟩ := kk (T.setVm vm') hT X'
  exact ⟨t, st.trans a1, b1⟩
end Rows
section Ends
variable {p : Program} {l : Launch} {e : Env} {R : Room} {s : State} {m : MethodId} {args : Array Value} {below : List Frame} {meth : Method} {c : Code} {H : Heap} {locs : List Loc} {cells slots : Nat} {Q : State → Prop}
variable {mc ms : Nat} {free : Addr → Prop} {A0 A1 : Nat → Prop} {H0 : Heap} {a : Array Value} {ls : Array Slot} {st0 rest : List Value}
variable {Qc : Array Value → State → Outcome → State → Prop} {XC : String → State → State → Prop}
/-- what a body that may throw owes at its end -/
def vx_MQ (below : List Frame) (Qc : Array Value → State → Outcome → State → Prop) (XC : String → State → State → Prop) (a : Array Value) (s : State) (mc ms : Nat) (free : Addr → Prop) : State → Prop := fun t =>
  ∃ o, t.status = .running ∧ Ended t below o ∧ vx_Q Qc XC mc ms free a s o t
theorem vx_ret {g : JFrame} {mc ms : Nat} (k : W p l e R s m args below meth c H locs cells slots (MQ below Qc args s mc ms free) g) : W p l e R s m args below meth c H locs cells slots (vx_MQ below Qc XC args s mc ms free) g := by
  intro T hT X
  obtain ⟨t, a1, o, b1, b2, b3, b4⟩ := k T hT X
  exact ⟨t, a1, o, b1, b2, Or.inl ⟨b3, b4⟩⟩
/-- not caught here: it goes on to the caller -/
theorem vx_widen {g : JFrame} {q : Addr} {k n : Nat} (h1 : cells ≤ k) (h2 : slots ≤ n) (kk : vx_W p l e R s m args below meth c H locs k n Q g q) : vx_W p l e R s m args below meth c H locs cells slots Q g q := fun T hT X => kk T hT (stand_widen X h1 h2)
theorem vx_out {pc : Nat} {E : String} {ce : Cell} {q : Addr} {mc ms : Nat} (hout : ∀ x ∈ c.exceptionTable.toList, covers x pc = false) (hlocks : meth.locks = false) (hcell : H[q]? = some ce) (hv : ce.vm = .none) (hcl : s.vm.findClass E = some ce.cls)
    (hx : ∀ t : State, t.heap = H → s.vm.Alike t.vm → XC E s t) (hf : ∀ z ∈ locs, free z.base) (hc : cells ≤ mc) (hs : slots ≤ ms) :
    vx_W p l e R s m args below meth c H locs cells slots (vx_MQ below Qc XC args s mc ms free) (F0 m pc ls rest) q := by
  intro T hT X
  obtain ⟨st1, hrun, hend, hW, hsm⟩ := X.leaveThrown q (g := F0 m pc ls rest) rfl rfl rfl hout hlocks
  have hcell9 : (T.setFrames (.throwing q :: below)).heap[q]? = some ce := by
    show T.heap[q]? = some ce
    rw [hT]; exact hcell
  exact ⟨_, st1, .threw q, hrun, hend, Or.inr ⟨q, rfl, E, ce, locs, hx _ hT hW.alike, hcell9, hv, hcl, hW, hsm.mono hc hs, hf⟩⟩
theorem vx_frame {U : State} {k n : Nat} (h : s.sameButNew ({ U with vm := s.vm } : State) locs k n) : s.heap.size ≤ U.heap.size ∧ ∀ q : Nat, q < s.heap.size → (∀ z ∈ locs, z.base ≠ q) → U.heap[q]? = s.heap[q]? := by
  obtain ⟨-, h2, -, -, -, h6⟩ := h
  refine ⟨h2, fun q hq hz => ?_⟩
  obtain ⟨c9, e1, e2, e3, e4⟩ := h6 q _ (Array.getElem?_eq_getElem hq)
  have hs : c9.slots = (s.heap[q]).slots := Array.ext_getElem? fun i => e4 i fun hm => hz _ hm rfl
  have h9 : c9 = s.heap[q] := by
    rw [hs] at e2
    exact e2
  have e5 : U.heap[q]? = some c9 := e1
  rw [e5, h9, Array.getElem?_eq_getElem hq]
/-- the words of a throw but the four that speak of the heap -/
def vx_no (w : Cond) : Bool := decide (w ≠ .isRef (.static Bundle.tN "UNASSIGNED_STACK" Bundle.steD)) && decide (w ≠ .isRef (.static Bundle.tN "SUPPRESSED_SENTINEL" Bundle.listD)) && decide (w ≠ .laysStatic Bundle.tN "UNASSIGNED_STACK" Bundle.steD) && decide (w ≠ .laysStatic Bundle.tN "SUPPRESSED_SENTINEL" Bundle.listD)
def vx_at0 (own : String) (ic : Nat) (X : String) (names : List String) : List Cond := (Bundle.ownAtoms0 own ic X names).filter vx_no
def vx_atS (own : String) (ic : Nat) (X : String) (names : List String) : List Cond := (Bundle.ownAtoms own ic X names).filter vx_no
/-- a word that the tables alone decide, or a good one -/
def vx_ot (w : Cond) : Bool := w.onTables || goodWord w
theorem vx_ot_at {args a' : Array Value} {s U : State} {w : Cond} (hW : s.WarmedH U.vm) (hvm : s.vm = U.vm) (hg : vx_ot w = true) (h : w.before args s = true) : w.before a' U = true := by
  simp only [vx_ot, Bool.or_eq_true] at hg
  rcases hg with hg | hg
  · exact va_tabs hg hvm h
  · exact word_at hW (good_of_word hg) h
/-- a list's words: the good ones out of the method's own list, the others by premises of their own -/
theorem vx_hat {args : Array Value} {s : State} {L B : List Cond} (h1 : ∀ w ∈ L.filter goodWord, w.before args s = true) (h2 : ∀ w ∈ L.filter (fun w => !goodWord w), w ∈ B) (h3 : ∀ w ∈ B, w.before args s = true) : ∀ w ∈ L, w.before args s = true := by
  intro w hw
  by_cases g : goodWord w = true
  · exact h1 w (List.mem_filter.mpr ⟨hw, g⟩)
  · refine h3 w (h2 w (List.mem_filter.mpr ⟨hw, ?_⟩))
    show (!goodWord w) = true
    cases hgw : goodWord w
    · rfl
    · exact absurd hgw g
theorem vx_c {args : Array Value} {s : State} {w : Cond} {B : List Cond} (h : w.before args s = true) (t : ∀ w ∈ B, w.before args s = true) : ∀ w' ∈ w :: B, w'.before args s = true := fun w' h' => (List.mem_cons.mp h').elim (fun e => by rw [e]; exact h) (t w')
theorem vx_n {args : Array Value} {s : State} : ∀ w ∈ ([] : List Cond), w.before args s = true := fun _ h => nomatch h
theorem vx_own {args : Array Value} {s : State} {L : List Cond} (h1 : ∀ w ∈ L.filter vx_no, w.before args s = true)
    (hU : (Cond.isRef (.static Bundle.tN "UNASSIGNED_STACK" Bundle.steD)).before args s = true) (hN : (Cond.isRef (.static Bundle.tN "SUPPRESSED_SENTINEL" Bundle.listD)).before args s = true)
    (lU : (Cond.laysStatic Bundle.tN "UNASSIGNED_STACK" Bundle.steD).before args s = true) (lN : (Cond.laysStatic Bundle.tN "SUPPRESSED_SENTINEL" Bundle.listD).before args s = true) : ∀ w ∈ L, w.before args s = true := by
  intro w hw
  by_cases e1 : w = .isRef (.static Bundle.tN "UNASSIGNED_STACK" Bundle.steD)
  · rw [e1]; exact hU
  · by_cases e2 : w = .isRef (.static Bundle.tN "SUPPRESSED_SENTINEL" Bundle.listD)
    · rw [e2]; exact hN
    · by_cases e3 : w = .laysStatic Bundle.tN "UNASSIGNED_STACK" Bundle.steD
      · rw [e3]; exact lU
      · by_cases e4 : w = .laysStatic Bundle.tN "SUPPRESSED_SENTINEL" Bundle.listD
        · rw [e4]; exact lN
        · exact h1 w (List.mem_filter.mpr ⟨hw, by unfold vx_no; rw [decide_eq_true e1, decide_eq_true e2, decide_eq_true e3, decide_eq_true e4]; rfl⟩)
/-- where a static field lies, its class's statics cell in H -/
def vx_L (C n d : String) (A : Nat → Prop) (U : State) (H : Heap) : Prop := ∃ (c : ClassId) (k : Class) (i : Nat) (f : Field) (a : Nat) (cell : Cell), U.vm.findClass C = some c ∧ U.fieldFound? C n d = some (c, k, i, f) ∧ f.isStatic = true ∧ k.statics = some a ∧ H[a]? = some cell ∧ cell.vm.isStatics = true ∧ cell.cls = c ∧ f.slot < cell.slots.size ∧ k.staticTypes[f.slot]? = some f.type ∧ ¬ A a
theorem vx_L.moved {C n d : String} {A : Nat → Prop} {u U : State} {H : Heap} (hvm : u.vm.Alike U.vm) (h : vx_L C n d A u H) : vx_L C n d A U H := by
  obtain ⟨c, k, i, f, a, cell, h1, h2, h3, h4, h5, h6, h7, h8, h9, h10⟩ := h
  obtain ⟨k', hi', he⟩ := State.fieldFound?_setVm hvm h2
  exact ⟨c, k', i, f, a, cell, by rw [hvm.findClass]; exact h1, hi', h3, by rw [he]; exact h4, h5, h6, h7, h8, by rw [he]; exact h9, h10⟩
theorem vx_L.kept {C n d : String} {A : Nat → Prop} {U : State} {H H1 : Heap} (h : vx_L C n d A U H) (hq : ∀ a : Nat, a < H.size → ¬ A a → H1[a]? = H[a]?) : vx_L C n d A U H1 := by
  obtain ⟨c, k, i, f, a, cell, h1, h2, h3, h4, h5, h6, h7, h8, h9, h10⟩ := h
  exact ⟨c, k, i, f, a, cell, h1, h2, h3, h4, by rw [hq a (Array.getElem?_eq_some_iff.mp h5).1 h10]; exact h5, h6, h7, h8, h9, h10⟩
theorem vx_L.narrow {C n d : String} {A B : Nat → Prop} {U : State} {H : Heap} (h : vx_L C n d A U H) (hAB : ∀ q, B q → A q) : vx_L C n d B U H := by
  obtain ⟨c, k, i, f, a, cell, h1, h2, h3, h4, h5, h6, h7, h8, h9, h10⟩ := h
  exact ⟨c, k, i, f, a, cell, h1, h2, h3, h4, h5, h6, h7, h8, h9, fun z => h10 (hAB _ z)⟩
theorem vx_L.word {C n d : String} {A : Nat → Prop} {s : State} {args : Array Value} (h : vx_L C n d A s s.heap) : (Cond.laysStatic C n d).before args s = true := by
  obtain ⟨c, k, i, f, a, cell, h1, h2, h3, h4, h5, h6, h7, h8, h9, -⟩ := h
  show (Cond.laysStatic C n d).holds args s none s [] = true
  exact Cond.laysStatic_of h1 h2 h3 h4 h5 h6 h7 h8 h9
/-- .. and what it holds: null or some reference -/
def vx_Zq (C n d : String) (A : Nat → Prop) (U : State) (H : Heap) : Prop := va_Zq C n d A U H ∧ vx_L C n d A U H
theorem vx_Zq.moved {C n d : String} {A : Nat → Prop} {u U : State} {H : Heap} (hvm : u.vm.Alike U.vm) (h : vx_Zq C n d A u H) : vx_Zq C n d A U H := ⟨va_Zq.moved hvm h.1, vx_L.moved hvm h.2⟩
theorem vx_Zq.kept {C n d : String} {A : Nat → Prop} {U : State} {H H1 : Heap} (h : vx_Zq C n d A U H) (hq : ∀ a : Nat, a < H.size → ¬ A a → H1[a]? = H[a]?) : vx_Zq C n d A U H1 := ⟨va_Zq.kept h.1 hq, vx_L.kept h.2 hq⟩
theorem vx_Zq.narrow {C n d : String} {A B : Nat → Prop} {U : State} {H : Heap} (h : vx_Zq C n d A U H) (hAB : ∀ q, B q → A q) : vx_Zq C n d B U H := ⟨va_Zq.narrow h.1 hAB, vx_L.narrow h.2 hAB⟩
theorem vx_Zqof {args : Array Value} {s : State} {C n d : String} {A : Nat → Prop} (hl : (Cond.laysStatic C n d).before args s = true) (hini : (Cond.initialized C).before args s = true) (h : (Cond.isRef (.static C n d)).before args s = true) (hA : ∀ a : Nat, a < s.heap.size → ¬ A a) : vx_Zq C n d A s s.heap := by
  refine ⟨va_Zqof hl hini h hA, ?_⟩
  obtain ⟨c, k, i, f, a, cell, h1, h2, h3, h4, h5, h6, h7, h8, h9⟩ := Cond.laysStatic_spec hl
  exact ⟨c, k, i, f, a, cell, h1, h2, h3, h4, h5, h6, h7, h8, h9, hA a (Array.getElem?_eq_some_iff.mp h5).1⟩
theorem vx_isRef {C n d : String} {v : Value} {A : Nat → Prop} {s : State} {args : Array Value} (h : va_Z C n d v A s s.heap) (hv : v.isRef = true) : (Cond.isRef (.static C n d)).before args s = true := by
  obtain ⟨cf, kf, fi, f, a, cell, h1, h2, h3, h4, h5, h6, h7, -⟩ := h
  have he : (Term.static C n d).eval args s none [] s = some v := by
    simp [Term.eval, State.fieldNamed?, h1, h2, h4, h5, h6, h7]
  simp only [Cond.before, Cond.holds, Cond.value, he]
  cases v <;> simp_all [Value.isRef]
theorem vx_isRefq {C n d : String} {A : Nat → Prop} {s : State} {args : Array Value} (h : va_Zq C n d A s s.heap) : (Cond.isRef (.static C n d)).before args s = true := by
  rcases h with h | ⟨t, h⟩
  · exact vx_isRef h rfl
  · exact vx_isRef h rfl
/-- the same frame, seen from here: as if the method were called anew in this heap -/
theorem vx_rebase {T : State} (X : Stand p l e R s m args below meth c T locs cells slots) {R' : Room} (hf : R'.frames ≤ R.frames) (hl : R'.locals ≤ R.locals) (hc : cells + R'.cells ≤ R.cells) (hs : slots + R'.slots ≤ R.slots) :
    Stand p l e R' ((T.setVm s.vm).setFrames (.invoking m args :: below)) m args below meth c T [] 0 0 := by
  have htop : (T.setVm s.vm).topJava?.isSome := X.here.top
  have hF : ((T.setVm s.vm).setFrames (.invoking m args :: below)).frames = .invoking m args :: below := State.frames_setFrames _ (State.cur_lt_of_top htop)
  obtain ⟨g₀, hg0⟩ := Option.isSome_iff_exists.mp htop
  obtain ⟨r, hr⟩ := State.topJava?_eq_some.mp hg0
  have hl9 : e.platform.stackLimits (T.setVm s.vm).me = e.platform.stackLimits s.me := X.limits
  have hb9 : (T.setVm s.vm).me.stackBytes = s.me.stackBytes := X.bytes
  refine ⟨X.admits, X.cas, X.clock, hF, ?_, X.hears, X.method, X.code, X.here, X.tail, X.warmed, ?_, ?_, ?_⟩
  · have h := X.room
    have hU : ((T.setVm s.vm).setFrames (.invoking m args :: below)).localsInUse = s.localsInUse := by
      rw [State.localsInUse_invoking hF (meth := meth) (c := c) X.method X.code, State.localsInUse_invoking X.frames X.method X.code]
    simp only [State.hasRoom, Bool.and_eq_true, decide_eq_true_eq] at h ⊢
    obtain ⟨⟨⟨⟨h1, h2, h3, h4, h5, h6⟩, h7⟩, h8⟩, h9⟩ := h
    rw [X.frames, List.length_cons] at h2 h3
    have q1 := X.heapSize
    have q2 := X.used
    simp only [hF, hU, List.length_cons, State.stackLimits_setFrames, State.stackBytes_setFrames, hl9, hb9]
    refine ⟨⟨⟨⟨by omega, by omega, by omega, by omega, by omega, h6⟩, ?_⟩, ?_⟩, X.book⟩
    · show T.heap.size + R'.cells ≤ e.platform.maxCells
      omega
    · show T.slotsUsed + R'.slots ≤ e.platform.maxSlots
      omega
  · rw [State.stackLimits_setFrames]; rfl
  · rw [State.stackBytes_setFrames]; rfl
  · refine ⟨?_, Nat.le_refl _, Nat.le_refl _, ?_, ?_, fun a c9 h9 => ⟨c9, h9, rfl, rfl, fun _ _ => rfl⟩⟩
    · obtain ⟨t, ht, -⟩ := State.frames_cons hr
      show T.setVm s.vm = { ((T.setVm s.vm).setFrames (.invoking m args :: below)).setFrames (T.setVm s.vm).frames with heap := T.heap, slotsUsed := T.slotsUsed }
      rw [State.setFrames_setFrames, State.setFrames_self ht]
      rfl
    · show T.slotsUsed = T.slotsUsed + ((T.heap.toList.drop T.heap.size).map (·.slots.size)).sum
      rw [List.drop_eq_nil_of_le (Nat.le_of_eq Array.length_toList)]
      rfl
    · show ((T.heap.toList.drop T.heap.size).map (·.slots.size)).sum ≤ 0
      rw [List.drop_eq_nil_of_le (Nat.le_of_eq Array.length_toList)]
      exact Nat.le_refl _
/-- 'throw new E()': new; dup; invokespecial; athrow -/
theorem vx_throw0 {cc : ByteArray} {pc : Nat} (hexec : p.tables.exec = Jvm.exec) (hb : c.code = cc) (hl : l.stackTraces = false) {own cls : String} {names : List String} {ik ic mc ms : Nat} {A : Nat → Prop}
    (hown : s.vm.findClass own = some m.cls) (hcls : Bundle.fit cls = true) (hnames : ∀ n ∈ names, Bundle.fit n = true)
    (hk : (Cond.classLink own ik cls).before args s = true) (hini : (Cond.initialized cls).before args s = true) (hat : ∀ w ∈ vx_at0 own ic cls names, w.before args s = true)
    (hgood : ∀ w ∈ Cond.classLink own ik cls :: Cond.initialized cls :: vx_at0 own ic cls names, vx_ot w = true)
    (hU : vx_Zq Bundle.tN "UNASSIGNED_STACK" Bundle.steD A s s.heap) (hN : vx_Zq Bundle.tN "SUPPRESSED_SENTINEL" Bundle.listD A s s.heap) (hS : va_S A s.heap H locs) (hsize : ls.size = c.maxLocals)
    (d0 : decode cc pc = .ok (.new ik, 3)) (d3 : decode cc (pc + 3) = .ok (.dup, 1)) (d4 : decode cc (pc + 4) = .ok (.invokespecial ic, 3)) (d7 : decode cc (pc + 7) = .ok (.athrow, 1))
    (hout : ∀ x ∈ c.exceptionTable.toList, covers x (pc + 7) = false)
    (hRframes : names.length + 3 < R.frames) (hRlocals : (rest.map fun v => v.category).sum + (13 * (names.length + 1) + 42) ≤ R.locals) (hRcells : cells + 1 ≤ R.cells) (hRslots : slots + 6 ≤ R.slots) (hlocks : meth.locks = false)
    (hx : ∀ t : State, s.vm.Alike t.vm → H.size ≤ t.heap.size → (∀ q : Nat, q < H.size → t.heap[q]? = H[q]?) → XC cls s t)
    (hf : ∀ z ∈ locs, free z.base) (hc : cells + 1 ≤ mc) (hs : slots + 6 ≤ ms) :
    W p l e R s m args below meth c H locs cells slots (vx_MQ below Qc XC args s mc ms free) (F0 m pc ls rest) := by
  intro T hT X
  have htr : e.platform.stackTraces = false := (show e.platform.stackTraces = l.stackTraces by rw [X.admits.platform]).trans hl
  have Y := vx_rebase X (R' := { frames := R.frames, locals := R.locals, cells := 1, slots := 6 }) (Nat.le_refl _) (Nat.le_refl _) hRcells hRslots
  obtain ⟨s', hA⟩ : ∃ z, z = (T.setVm s.vm).setFrames (.invoking m args :: below) := ⟨_, rfl⟩
  rw [← hA] at Y
  have hvm : s'.vm = s.vm := by rw [hA]; rfl
  have hhp : s'.heap = H := by rw [hA]; exact hT
  have hW0 : s.WarmedH s'.vm := by rw [hvm]; exact State.WarmedH.refl s
  have hat' : ∀ w ∈ vx_at0 own ic cls names, w.before args s' = true := fun w hw => vx_ot_at hW0 hvm.symm (hgood w (List.mem_cons_of_mem _ (List.mem_cons_of_mem _ hw))) (hat w hw)
  have hk' : (Cond.classLink own ik cls).before args s' = true := vx_ot_at hW0 hvm.symm (hgood _ List.mem_cons_self) hk
  have hini' : (Cond.initialized cls).before args s' = true := vx_ot_at hW0 hvm.symm (hgood _ (List.mem_cons_of_mem _ List.mem_cons_self)) hini
  have hU' : vx_Zq Bundle.tN "UNASSIGNED_STACK" Bundle.steD A s' s'.heap := by rw [hhp]; exact vx_Zq.moved hW0.alike (hU.kept hS.2.1)
  have hN' : vx_Zq Bundle.tN "SUPPRESSED_SENTINEL" Bundle.listD A s' s'.heap := by rw [hhp]; exact vx_Zq.moved hW0.alike (hN.kept hS.2.1)
  have h : ∀ w ∈ Bundle.ownAtoms0 own ic cls names, w.before args s' = true := vx_own hat' (vx_isRefq hU'.1) (vx_isRefq hN'.1) hU'.2.word hN'.2.word
  have hown' : s'.vm.findClass own = some m.cls := by rw [hvm]; exact hown
  have hins : (Cond.instantiable cls 6).before args s' = true := h _ (by simp [Bundle.ownAtoms0])
  obtain ⟨vm₁, cX, kX, hfX, hkX, -, -, X₁, st1⟩ := Y.newCold hexec (own := own) (C := cls) (index := ik) (n := 6) hown' hk' hins hini'
    (g := F0 m pc ls rest) rfl (by rw [hb]; exact d0) (Nat.le_refl _) (Nat.le_refl _)
  generalize hT1 : (T.setVm vm₁).pushCell { cls := cX, slots := kX.instanceTypes.map defaultValue, vm := .none } = T1 at X₁ st1
  have hcat : (Value.ref T.heap.size).category = 1 := rfl
  have hcellA : T1.heap[T.heap.size]? = some (freshCell cX kX) := by rw [← hT1]; exact State.heap_pushCell_size _ _
  have d3' : decode c.code (pc + 3) = .ok (.dup, 1) := by rw [hb]; exact d3
  obtain ⟨U, hsteps, hrun, hend, hW, hsame, ce, hce, hO⟩ := X₁.ctorThrow0 hexec htr (own := own) (cls := cls) (names := names) (ic := ic) hown' hcls hnames h (fun x hx => nomatch hx) hfX hkX hcellA (by rw [hhp, hT]; exact Nat.le_refl _)
    (g := { method := m, pc := pc + 4, locals := ls, stack := .ref T.heap.size :: .ref T.heap.size :: rest, locked := none }) rfl hsize rfl rfl (rest := rest) rfl
    (by rw [hb]; exact d4) (by rw [hb]; exact d7) hout hRframes (by simp only [List.map_cons, List.sum_cons, hcat]; omega) hlocks
  obtain ⟨f1, f2⟩ := vx_frame hsame
  rw [hhp] at f1 f2
  have hWs : s.WarmedH U.vm := State.WarmedH.trans hW0 hW
  have hcl : s.vm.findClass cls = some ce.cls := by
    have h9 := hO.cls
    rw [hvm] at h9
    exact h9
  have hall : s.sameButNew ({ U with vm := s.vm } : State) locs mc ms := by
    subst hA
    obtain ⟨e1, e2⟩ := hsame
    rw [State.setFrames_setFrames] at e1
    have h2 : (T.setVm s.vm).sameButNew ({ U with vm := s.vm } : State) [] (0 + 1) (0 + 6) := ⟨e1, e2⟩
    have h3 := X.same.trans h2
    rw [List.append_nil] at h3
    exact h3.mono hc hs
  refine ⟨U, ?_, .threw T.heap.size, hrun, hend, Or.inr ⟨T.heap.size, rfl, cls, ce, locs, hx U hWs.alike f1 (fun q hq => f2 q hq (fun z hz => nomatch hz)), hce, hO.vm, hcl, hWs, hall, hf⟩⟩
  refine st1 _ ?_
  show Steps p.tables e below (T1.setTop { method := m, pc := pc + 3, locals := ls, stack := .ref T.heap.size :: rest, locked := none }) _
  jvm_step X₁.here [X₁.here.top, hexec, d3', Value.category]
  exact hsteps
/-- 'throw new E("text")': new; dup; ldc; invokespecial; athrow -/
theorem vx_throwS {cc : ByteArray} {pc : Nat} (hexec : p.tables.exec = Jvm.exec) (hb : c.code = cc) (hl : l.stackTraces = false) {own cls text : String} {names : List String} {ik is ic mc ms sa : Nat} {A : Nat → Prop}
    (hown : s.vm.findClass own = some m.cls) (hcls : Bundle.fit cls = true) (hnames : ∀ n ∈ names, Bundle.fit n = true)
    (hk : (Cond.classLink own ik cls).before args s = true) (hini : (Cond.initialized cls).before args s = true) (hstr : vk_R own is text sa s) (hat : ∀ w ∈ vx_atS own ic cls names, w.before args s = true)
    (hgood : ∀ w ∈ Cond.classLink own ik cls :: Cond.initialized cls :: vx_atS own ic cls names, vx_ot w = true)
    (hU : vx_Zq Bundle.tN "UNASSIGNED_STACK" Bundle.steD A s s.heap) (hN : vx_Zq Bundle.tN "SUPPRESSED_SENTINEL" Bundle.listD A s s.heap) (hS : va_S A s.heap H locs) (hsize : ls.size = c.maxLocals)
    (d0 : decode cc pc = .ok (.new ik, 3)) (d3 : decode cc (pc + 3) = .ok (.dup, 1)) (d4 : decode cc (pc + 4) = .ok (.ldc is, 2)) (d6 : decode cc (pc + 6) = .ok (.invokespecial ic, 3)) (d9 : decode cc (pc + 9) = .ok (.athrow, 1))
    (hout : ∀ x ∈ c.exceptionTable.toList, covers x (pc + 9) = false)
    (hRframes : names.length + 3 < R.frames) (hRlocals : (rest.map fun v => v.category).sum + (13 * (names.length + 1) + 43) ≤ R.locals) (hRcells : cells + 1 ≤ R.cells) (hRslots : slots + 6 ≤ R.slots) (hlocks : meth.locks = false)
    (hx : ∀ t : State, s.vm.Alike t.vm → H.size ≤ t.heap.size → (∀ q : Nat, q < H.size → t.heap[q]? = H[q]?) → XC cls s t)
    (hf : ∀ z ∈ locs, free z.base) (hc : cells + 1 ≤ mc) (hs : slots + 6 ≤ ms) :
    W p l e R s m args below meth c H locs cells slots (vx_MQ below Qc XC args s mc ms free) (F0 m pc ls rest) := by
  intro T hT X
  have htr : e.platform.stackTraces = false := (show e.platform.stackTraces = l.stackTraces by rw [X.admits.platform]).trans hl
  have Y := vx_rebase X (R' := { frames := R.frames, locals := R.locals, cells := 1, slots := 6 }) (Nat.le_refl _) (Nat.le_refl _) hRcells hRslots
  obtain ⟨s', hA⟩ : ∃ z, z = (T.setVm s.vm).setFrames (.invoking m args :: below) := ⟨_, rfl⟩
  rw [← hA] at Y
  have hvm : s'.vm = s.vm := by rw [hA]; rfl
  have hhp : s'.heap = H := by rw [hA]; exact hT
  have hW0 : s.WarmedH s'.vm := by rw [hvm]; exact State.WarmedH.refl s
  have hat' : ∀ w ∈ vx_atS own ic cls names, w.before args s' = true := fun w hw => vx_ot_at hW0 hvm.symm (hgood w (List.mem_cons_of_mem _ (List.mem_cons_of_mem _ hw))) (hat w hw)
  have hk' : (Cond.classLink own ik cls).before args s' = true := vx_ot_at hW0 hvm.symm (hgood _ List.mem_cons_self) hk
  have hini' : (Cond.initialized cls).before args s' = true := vx_ot_at hW0 hvm.symm (hgood _ (List.mem_cons_of_mem _ List.mem_cons_self)) hini
  have hU' : vx_Zq Bundle.tN "UNASSIGNED_STACK" Bundle.steD A s' s'.heap := by rw [hhp]; exact vx_Zq.moved hW0.alike (hU.kept hS.2.1)
  have hN' : vx_Zq Bundle.tN "SUPPRESSED_SENTINEL" Bundle.listD A s' s'.heap := by rw [hhp]; exact vx_Zq.moved hW0.alike (hN.kept hS.2.1)
  have h : ∀ w ∈ Bundle.ownAtoms own ic cls names, w.before args s' = true := vx_own hat' (vx_isRefq hU'.1) (vx_isRefq hN'.1) hU'.2.word hN'.2.word
  have hown' : s'.vm.findClass own = some m.cls := by rw [hvm]; exact hown
  have hins : (Cond.instantiable cls 6).before args s' = true := h _ (by simp [Bundle.ownAtoms])
  obtain ⟨vm₁, cX, kX, hfX, hkX, -, -, X₁, st1⟩ := Y.newCold hexec (own := own) (C := cls) (index := ik) (n := 6) hown' hk' hins hini'
    (g := F0 m pc ls rest) rfl (by rw [hb]; exact d0) (Nat.le_refl _) (Nat.le_refl _)
  generalize hT1 : (T.setVm vm₁).pushCell { cls := cX, slots := kX.instanceTypes.map defaultValue, vm := .none } = T1 at X₁ st1
  have hcat : (Value.ref T.heap.size).category = 1 := rfl
  have hcellA : T1.heap[T.heap.size]? = some (freshCell cX kX) := by rw [← hT1]; exact State.heap_pushCell_size _ _
  have d3' : decode c.code (pc + 3) = .ok (.dup, 1) := by rw [hb]; exact d3
  have d4' : decode c.code (pc + 4) = .ok (.ldc is, 2) := by rw [hb]; exact d4
  have hstr' : vk_R own is text sa s' := vk_R.warm hW0 hstr
  obtain ⟨U, hsteps, hrun, hend, hW, hsame, ce, hce, hO⟩ := X₁.ctorThrowS hexec htr (own := own) (cls := cls) (names := names) (ic := ic) hown' hcls hnames h (fun x hx => nomatch hx) hfX hkX hcellA (by rw [hhp, hT]; exact Nat.le_refl _) (msg := .ref sa) rfl
    (g := { method := m, pc := pc + 6, locals := ls, stack := .ref sa :: .ref T.heap.size :: .ref T.heap.size :: rest, locked := none }) rfl hsize rfl rfl (rest := rest) rfl
    (by rw [hb]; exact d6) (by rw [hb]; exact d9) hout hRframes (by simp only [List.map_cons, List.sum_cons, hcat]; omega) hlocks
  obtain ⟨f1, f2⟩ := vx_frame hsame
  rw [hhp] at f1 f2
  have hWs : s.WarmedH U.vm := State.WarmedH.trans hW0 hW
  have hcl : s.vm.findClass cls = some ce.cls := by
    have h9 := hO.cls
    rw [hvm] at h9
    exact h9
  have hall : s.sameButNew ({ U with vm := s.vm } : State) locs mc ms := by
    subst hA
    obtain ⟨e1, e2⟩ := hsame
    rw [State.setFrames_setFrames] at e1
    have h2 : (T.setVm s.vm).sameButNew ({ U with vm := s.vm } : State) [] (0 + 1) (0 + 6) := ⟨e1, e2⟩
    have h3 := X.same.trans h2
    rw [List.append_nil] at h3
    exact h3.mono hc hs
  refine ⟨U, ?_, .threw T.heap.size, hrun, hend, Or.inr ⟨T.heap.size, rfl, cls, ce, locs, hx U hWs.alike f1 (fun q hq => f2 q hq (fun z hz => nomatch hz)), hce, hO.vm, hcl, hWs, hall, hf⟩⟩
  refine st1 _ ?_
  show Steps p.tables e below (T1.setTop { method := m, pc := pc + 3, locals := ls, stack := .ref T.heap.size :: rest, locked := none }) _
  jvm_step X₁.here [X₁.here.top, hexec, d3', Value.category]
  exact X₁.ldcString hexec (own := own) (text := text) (index := is) (a := sa) hown' hstr'.1 hstr'.2
    (g := { method := m, pc := pc + 4, locals := ls, stack := .ref T.heap.size :: .ref T.heap.size :: rest, locked := none }) rfl d4' _ hsteps
/-- 'throw new E("text")', the text by a wide index -/
theorem vx_throwSW {cc : ByteArray} {pc : Nat} (hexec : p.tables.exec = Jvm.exec) (hb : c.code = cc) (hl : l.stackTraces = false) {own cls text : String} {names : List String} {ik is ic mc ms sa : Nat} {A : Nat → Prop}
    (hown : s.vm.findClass own = some m.cls) (hcls : Bundle.fit cls = true) (hnames : ∀ n ∈ names, Bundle.fit n = true)
    (hk : (Cond.classLink own ik cls).before args s = true) (hini : (Cond.initialized cls).before args s = true) (hstr : vk_R own is text sa s) (hat : ∀ w ∈ vx_atS own ic cls names, w.before args s = true)
    (hgood : ∀ w ∈ Cond.classLink own ik cls :: Cond.initialized cls :: vx_atS own ic cls names, vx_ot w = true)
    (hU : vx_Zq Bundle.tN "UNASSIGNED_STACK" Bundle.steD A s s.heap) (hN : vx_Zq Bundle.tN "SUPPRESSED_SENTINEL" Bundle.listD A s s.heap) (hS : va_S A s.heap H locs) (hsize : ls.size = c.maxLocals)
    (d0 : decode cc pc = .ok (.new ik, 3)) (d3 : decode cc (pc + 3) = .ok (.dup, 1)) (d4 : decode cc (pc + 4) = .ok (.ldc_w is, 3)) (d7 : decode cc (pc + 7) = .ok (.invokespecial ic, 3)) (d10 : decode cc (pc + 10) = .ok (.athrow, 1))
    (hout : ∀ x ∈ c.exceptionTable.toList, covers x (pc + 10) = false)
    (hRframes : names.length + 3 < R.frames) (hRlocals : (rest.map fun v => v.category).sum + (13 * (names.length + 1) + 43) ≤ R.locals) (hRcells : cells + 1 ≤ R.cells) (hRslots : slots + 6 ≤ R.slots) (hlocks : meth.locks = false)
    (hx : ∀ t : State, s.vm.Alike t.vm → H.size ≤ t.heap.size → (∀ q : Nat, q < H.size → t.heap[q]? = H[q]?) → XC cls s t)
    (hf : ∀ z ∈ locs, free z.base) (hc : cells + 1 ≤ mc) (hs : slots + 6 ≤ ms) :
    W p l e R s m args below meth c H locs cells slots (vx_MQ below Qc XC args s mc ms free) (F0 m pc ls rest) := by
  intro T hT X
  have htr : e.platform.stackTraces = false := (show e.platform.stackTraces = l.stackTraces by rw [X.admits.platform]).trans hl
  have Y := vx_rebase X (R' := { frames := R.frames, locals := R.locals, cells := 1, slots := 6 }) (Nat.le_refl _) (Nat.le_refl _) hRcells hRslots
  obtain ⟨s', hA⟩ : ∃ z, z = (T.setVm s.vm).setFrames (.invoking m args :: below) := ⟨_, rfl⟩
  rw [← hA] at Y
  have hvm : s'.vm = s.vm := by rw [hA]; rfl
  have hhp : s'.heap = H := by rw [hA]; exact hT
  have hW0 : s.WarmedH s'.vm := by rw [hvm]; exact State.WarmedH.refl s
  have hat' : ∀ w ∈ vx_atS own ic cls names, w.before args s' = true := fun w hw => vx_ot_at hW0 hvm.symm (hgood w (List.mem_cons_of_mem _ (List.mem_cons_of_mem _ hw))) (hat w hw)
  have hk' : (Cond.classLink own ik cls).before args s' = true := vx_ot_at hW0 hvm.symm (hgood _ List.mem_cons_self) hk
  have hini' : (Cond.initialized cls).before args s' = true := vx_ot_at hW0 hvm.symm (hgood _ (List.mem_cons_of_mem _ List.mem_cons_self)) hini
  have hU' : vx_Zq Bundle.tN "UNASSIGNED_STACK" Bundle.steD A s' s'.heap := by rw [hhp]; exact vx_Zq.moved hW0.alike (hU.kept hS.2.1)
  have hN' : vx_Zq Bundle.tN "SUPPRESSED_SENTINEL" Bundle.listD A s' s'.heap := by rw [hhp]; exact vx_Zq.moved hW0.alike (hN.kept hS.2.1)
  have h : ∀ w ∈ Bundle.ownAtoms own ic cls names, w.before args s' = true := vx_own hat' (vx_isRefq hU'.1) (vx_isRefq hN'.1) hU'.2.word hN'.2.word
  have hown' : s'.vm.findClass own = some m.cls := by rw [hvm]; exact hown
  have hins : (Cond.instantiable cls 6).before args s' = true := h _ (by simp [Bundle.ownAtoms])
  obtain ⟨vm₁, cX, kX, hfX, hkX, -, -, X₁, st1⟩ := Y.newCold hexec (own := own) (C := cls) (index := ik) (n := 6) hown' hk' hins hini'
    (g := F0 m pc ls rest) rfl (by rw [hb]; exact d0) (Nat.le_refl _) (Nat.le_refl _)
  generalize hT1 : (T.setVm vm₁).pushCell { cls := cX, slots := kX.instanceTypes.map defaultValue, vm := .none } = T1 at X₁ st1
  have hcat : (Value.ref T.heap.size).category = 1 := rfl
  have hcellA : T1.heap[T.heap.size]? = some (freshCell cX kX) := by rw [← hT1]; exact State.heap_pushCell_size _ _
  have d3' : decode c.code (pc + 3) = .ok (.dup, 1) := by rw [hb]; exact d3
  have d4' : decode c.code (pc + 4) = .ok (.ldc_w is, 3) := by rw [hb]; exact d4
  have hstr' : vk_R own is text sa s' := vk_R.warm hW0 hstr
  obtain ⟨U, hsteps, hrun, hend, hW, hsame, ce, hce, hO⟩ := X₁.ctorThrowS hexec htr (own := own) (cls := cls) (names := names) (ic := ic) hown' hcls hnames h (fun x hx => nomatch hx) hfX hkX hcellA (by rw [hhp, hT]; exact Nat.le_refl _) (msg := .ref sa) rfl
    (g := { method := m, pc := pc + 7, locals := ls, stack := .ref sa :: .ref T.heap.size :: .ref T.heap.size :: rest, locked := none }) rfl hsize rfl rfl (rest := rest) rfl
    (by rw [hb]; exact d7) (by rw [hb]; exact d10) hout hRframes (by simp only [List.map_cons, List.sum_cons, hcat]; omega) hlocks
  obtain ⟨f1, f2⟩ := vx_frame hsame
  rw [hhp] at f1 f2
  have hWs : s.WarmedH U.vm := State.WarmedH.trans hW0 hW
  have hcl : s.vm.findClass cls = some ce.cls := by
    have h9 := hO.cls
    rw [hvm] at h9
    exact h9
  have hall : s.sameButNew ({ U with vm := s.vm } : State) locs mc ms := by
    subst hA
    obtain ⟨e1, e2⟩ := hsame
    rw [State.setFrames_setFrames] at e1
    have h2 : (T.setVm s.vm).sameButNew ({ U with vm := s.vm } : State) [] (0 + 1) (0 + 6) := ⟨e1, e2⟩
    have h3 := X.same.trans h2
    rw [List.append_nil] at h3
    exact h3.mono hc hs
  refine ⟨U, ?_, .threw T.heap.size, hrun, hend, Or.inr ⟨T.heap.size, rfl, cls, ce, locs, hx U hWs.alike f1 (fun q hq => f2 q hq (fun z hz => nomatch hz)), hce, hO.vm, hcl, hWs, hall, hf⟩⟩
  refine st1 _ ?_
  show Steps p.tables e below (T1.setTop { method := m, pc := pc + 3, locals := ls, stack := .ref T.heap.size :: rest, locked := none }) _
  jvm_step X₁.here [X₁.here.top, hexec, d3', Value.category]
  exact X₁.ldcStringW hexec (own := own) (text := text) (index := is) (a := sa) hown' hstr'.1 hstr'.2
    (g := { method := m, pc := pc + 4, locals := ls, stack := .ref T.heap.size :: .ref T.heap.size :: rest, locked := none }) rfl d4' _ hsteps
end Ends
section Bodies
variable {l : Launch}
theorem vx_ofW {y : MethodName} {ws ws' : List Cond} {rm : Room} {Pc : Array Value → State → Prop} {Qc : Array Value → State → Outcome → State → Prop} {XC : String → State → State → Prop} {mc ms : Nat} {free : Addr → Prop} {cc : ByteArray} {maxL : Nat} {ret : Option FieldType}
    (hy : plainName y.cls = true) (hw : ws = Cond.code y cc maxL ret :: ws')
    (body : ∀ p e s m args below meth c s₁, BodyLoose p l y (headSpec ws rm) cc maxL ret e s m args below meth c s₁ → c.maxLocals = maxL → (∀ x ∈ c.exceptionTable.toList, False) → Pc args s →
      W p l e (headSpec ws rm).room s m args below meth c s.heap [] 0 0 (vx_MQ below Qc XC args s mc ms free) (entryFrame m args maxL)) : vx_Met l y ws rm Pc Qc XC mc ms free := by
  refine MetFree.of_bodyS (code := cc) (maxLocals := maxL) (ret := ret) hy ?_ ?_
  · intro args s m h hn
    obtain ⟨meth, c, h1, h2, h3, h4, h5, h6, -, -⟩ := Cond.code_spec hn (atoms_spec (ws := ws) h _ (by rw [hw]; exact List.mem_cons_self))
    exact ⟨meth, c, h1, h2, h3, h4, h5, h6⟩
  · intro p e s m args below meth c s₁ B hml hP _
    have hh0 : s₁.heap = s.heap := by rw [B.state]; rfl
    have ht : ∀ x ∈ c.exceptionTable.toList, False := by
      obtain ⟨meth9, c9, h1, h2, -, -, -, -, h7, -⟩ := Cond.code_spec B.named (atoms_spec (ws := ws) B.pre _ (by rw [hw]; exact List.mem_cons_self))
      cases Option.some.inj (h1.symm.trans B.method)
      cases Option.some.inj (h2.symm.trans (Stand.of_body B).code)
      intro x hx
      rw [Array.isEmpty_iff.mp h7] at hx
      cases hx
    obtain ⟨t, a1, o, b1, b2, b3⟩ := body p e s m args below meth c s₁ B hml ht hP s₁ hh0 (Stand.of_body B)
    exact ⟨t, o, a1, b1, b2, b3⟩
/-- the table of a body with handlers -/
theorem vx_table {p : Program} {x y : MethodName} {S : Spec} {cc bytes : ByteArray} {maxL maxL' : Nat} {ret ret' : Option FieldType} {e : Env} {s s₁ : State} {m : MethodId} {args : Array Value} {below : List Frame} {meth : Method} {c : Code} {hh : List (Nat × Nat × Nat × Nat)}
    (B : BodyLoose p l y S cc maxL ret e s m args below meth c s₁) (h : (Cond.codeWith y bytes maxL' ret' hh).before args s = true) : c.exceptionTable.toList = tableOf hh := by
  obtain ⟨m9, meth9, c9, hn9, h1, h2, -, -, h6, -⟩ := Cond.codeWith_spec h
  cases Option.some.inj (hn9.symm.trans B.named)
  cases Option.some.inj (h1.symm.trans B.method)
  cases Option.some.inj (h2.symm.trans (Stand.of_body B).code)
  rw [← h6, table_eq]
end Bodies
end VXA
/-! ===== END ===== -/
/-! ===== BEGIN a static call of a method with an exception table ===== -/
section VXS
variable {p : Program} {l : Launch} {e : Env} {R : Room} {s : State} {m : MethodId} {args : Array Value} {below : List Frame} {meth : Method} {c : Code} {T : State} {H : Heap} {locs : List Loc} {cells slots : Nat}
abbrev vx_CSW (R : Room) (s : State) (args : Array Value) (own : String) (index : Nat) (y : MethodName) (bytes : ByteArray) (maxL : Nat) (ret : Option FieldType) (hh : List (Nat × Nat × Nat × Nat)) (ws : List Cond) (rm : Room) (mc ms n : Nat) : Prop :=
  (rm.cells = mc ∧ rm.slots = ms ∧ rm.frames + 1 ≤ R.frames ∧ 8 + (maxL + 11) + rm.locals ≤ R.locals ∧ (∀ w ∈ ws, ∀ (a' : Array Value) (U : State), s.WarmedH U.vm → w.before a' U = true) ∧ Cond.codeWith y bytes maxL ret hh ∈ ws) ∧
  (Cond.codeWith y bytes maxL ret hh).before args s = true ∧ (Cond.initialized y.cls).before args s = true ∧ (y.cls ≠ "java/lang/invoke/MethodHandle" ∧ y.cls ≠ "java/lang/invoke/VarHandle") ∧
  (∀ sig, parseMethodDescriptor y.desc = some sig → n = sig.parameters.length) ∧ (Cond.methodLink own index y).before args s = true ∧ (Cond.static y).before args s = true
theorem vx_cwSW {own : String} {index maxL mc ms : Nat} {y : MethodName} {bytes : ByteArray} {ret : Option FieldType} {hh : List (Nat × Nat × Nat × Nat)} {Ts ws ws' : List Cond} {rm : Room} (n : Nat) (ht : ∀ w ∈ Ts, w.before args s = true) (hT : GoodIn Ts (va_wsS own index y ws)) (hw : ws = Cond.codeWith y bytes maxL ret hh :: ws') (hrc : rm.cells = mc) (hrs : rm.slots = ms)
    (hd : y.cls ≠ "java/lang/invoke/MethodHandle" ∧ y.cls ≠ "java/lang/invoke/VarHandle" ∧ (parseMethodDescriptor y.desc).map (fun d => d.parameters.length) = some n) (hR : rm.frames + 1 ≤ R.frames ∧ 8 + (maxL + 11) + rm.locals ≤ R.locals) :
    vx_CSW R s args own index y bytes maxL ret hh ws rm mc ms n := by
  have ok : ∀ w ∈ va_wsS own index y ws, w.before args s = true := fun w h => ht w (hT w h).1
  have hG : GoodIn Ts ws := fun w h => hT w (by unfold va_wsS; exact List.mem_append_right _ h)
  have hc : Cond.codeWith y bytes maxL ret hh ∈ ws := by rw [hw]; exact List.mem_cons_self
  refine ⟨⟨hrc, hrs, hR.1, hR.2, pay_in ht hG, hc⟩, ht _ (hG _ hc).1, ok _ (by simp [va_wsS]), ⟨hd.1, hd.2.1⟩, fun sig h => ?_, ok _ (by simp [va_wsS]), ok _ (by simp [va_wsS])⟩
  have h2 := hd.2.2
  rw [h] at h2
  exact (Option.some.inj h2).symm
theorem vx_callSW (X : Stand p l e R s m args below meth c T locs cells slots) (hexec : p.tables.exec = Jvm.exec) {own : String} {index : Nat} {y : MethodName} {bytes : ByteArray} {maxL : Nat} {ret : Option FieldType} {hh : List (Nat × Nat × Nat × Nat)}
    (hown : s.vm.findClass own = some m.cls) (hlink : (Cond.methodLink own index y).before args s = true) (hstat : (Cond.static y).before args s = true) (hinit : (Cond.initialized y.cls).before args s = true)
    (hcode : (Cond.codeWith y bytes maxL ret hh).before args s = true) (hy : y.cls ≠ "java/lang/invoke/MethodHandle" ∧ y.cls ≠ "java/lang/invoke/VarHandle")
    {W9 : Nat} {Pre : Pt → Array Value → Prop} {Post : Pt → Array Value → Option Value → Pt → Prop} (hK : Back l R p e below s args y 3 W9 Pre Post)
    {g : JFrame} (hg : g.method = m) (hsize : g.locals.size = c.maxLocals) {argsL rest : List Value} (hlen : ∀ sig, parseMethodDescriptor y.desc = some sig → argsL.length = sig.parameters.length)
    (hstack : g.stack = argsL.reverse ++ rest) (hW : 2 * g.monitorRoom + (rest.map fun v => v.category).sum ≤ W9) (hdg : decode c.code g.pc = .ok (.invokestatic index, 3))
    (hpre : ∀ vm₁, s.WarmedH vm₁ → Pre ⟨T.setVm vm₁, locs, cells, slots⟩ argsL.toArray) :
    ∃ (v : Option Value) (vm₁ : Vm) (B : Pt), s.WarmedH vm₁ ∧ Stand p l e R s m args below meth c B.U B.locs B.cells B.slots ∧ Post ⟨T.setVm vm₁, locs, cells, slots⟩ argsL.toArray v B ∧
      ∀ target, Steps p.tables e below (B.U.setTop { g with pc := g.pc + 3, stack := v.toList ++ rest }) target → Steps p.tables e below (T.setTop g) target := by
  obtain ⟨mk, methM, cM, hnamed, hmethM, -, -, -, -, -, -, hsigM⟩ := Cond.codeWith_spec hcode
  have hstatic : methM.isStatic = true := Cond.static_spec hnamed hmethM hstat
  obtain ⟨kP, hkP, -⟩ := className_of_methodNamed hnamed
  have hinitP : kP.init = .initialized := Cond.initialized_spec (findClass_of_methodNamed hnamed) hkP hinit
  obtain ⟨vm₁, X₁, hstep₁⟩ := X.invokestatic hexec hown hlink hnamed hmethM hstatic hkP hinitP hy (g := g) hg (argsL := argsL) (rest := rest) (hlen _ hsigM) hstack hdg
  obtain ⟨v, B, X', hpost, hsteps⟩ := hK m meth c ⟨T.setVm vm₁, locs, cells, slots⟩ { g with stack := rest } (.invokestatic index) mk argsL.toArray X₁ hg hsize hdg hW (X₁.named hnamed) (hpre vm₁ X₁.warmed)
  exact ⟨v, vm₁, B, X₁.warmed, X', hpost, fun target h => hstep₁ _ fun acts => by rw [doInvoke_state]; exact hsteps.trans h⟩
theorem vx_runSW {y : MethodName} {bytes cc : ByteArray} {maxL nL mc ms n index : Nat} {ret : Option FieldType} {hh : List (Nat × Nat × Nat × Nat)} {ws : List Cond} {rm : Room} {Pc : Array Value → State → Prop} {Qc : Array Value → State → Outcome → State → Prop} {free : Addr → Prop} {Ts : List Cond} {own : String} {As rest : List Value} {g : JFrame}
    (S : CallFix p m c cc nL s args Ts own) (hM : Met l y ws rm Pc Qc mc ms free) (cw : vx_CSW R s args own index y bytes maxL ret hh ws rm mc ms n) (hp : PreS s H Pc As)
    (hg : g.method = m) (hn : As.length = n) (hsize : g.locals.size = nL) (hstack : g.stack = As.reverse ++ rest) (hW : 2 * g.monitorRoom + (rest.map fun v => v.category).sum ≤ 8) (hdg : decode cc g.pc = .ok (.invokestatic index, 3)) (hf : cells + mc ≤ R.cells ∧ slots + ms ≤ R.slots) :
    va_Run p l e R s m args below meth c H locs cells slots mc ms g rest (Qc As.toArray) (free) := by
  obtain ⟨⟨hrc, hrs, hfr, hlo, hws, hcw⟩, hcode, hini, hy, hlen, hl, hstt⟩ := cw
  have hK : Back l R p e below s args y 3 8 (PreOf R mc ms Pc) (PostOf Qc mc ms free) := va_backW (hh := hh) (bytes := bytes) (maxL := maxL) (ret := ret) hM hp.1 hrc hrs hfr hlo hws hcw (fun a' U hW => word_at hW (Or.inl (by first | rfl | simp [Cond.onTables, Cond.keeps, Cond.steady])) hini)
  obtain ⟨hx, hb, hml, ho, -⟩ := S
  intro T hT X
  obtain ⟨v, vm₁, ⟨U', l2, c2, s2⟩, hW₁, X', ⟨g', mk, t, L, e1, e2, hq, h1, hL, h2, h3⟩, st⟩ := vx_callSW X hx (hh := hh) (bytes := bytes) (maxL := maxL) (ret := ret) ho hl hstt hini hcode hy hK hg (hsize.trans hml.symm) (argsL := As) (rest := rest) (fun sig h => hn.trans (hlen sig h)) hstack hW (by rw [hb]; exact hdg)
    (fun vm₁ hW₁ => ⟨hf.1, hf.2, hp.2 (T.setVm vm₁) hT hW₁⟩)
  dsimp only [Pt.U, Pt.locs, Pt.cells, Pt.slots] at X' e1 e2 h1 h2 h3 st
  subst h1; subst h2; subst h3
  exact ⟨v, (T.setVm vm₁).calling g' mk As.toArray, t, U', L, hT, X', hL, e1, e2, hq, st⟩
/-- not caught here, past rows that name other classes: it goes on to the caller -/
theorem vx_outP {p : Program} {l : Launch} {e : Env} {R : Room} {s : State} {m : MethodId} {args : Array Value} {below : List Frame} {meth : Method} {c : Code} {H : Heap} {locs : List Loc} {cells slots : Nat} {free : Addr → Prop} {ls : Array Slot} {rest : List Value} {Qc : Array Value → State → Outcome → State → Prop} {XC : String → State → State → Prop}
    {pc : Nat} {own E : String} {ce : Cell} {q : Addr} {mc ms : Nat} (hown : s.vm.findClass own = some m.cls) (hlocks : meth.locks = false)
    (hpass : ∀ z ∈ c.exceptionTable.toList, covers z pc = false ∨ (z.catchType ≠ 0 ∧ ∃ nm : String, (Cond.classLink own z.catchType nm).before args s = true ∧ va_Nc E nm s)) (hcell : H[q]? = some ce) (hv : ce.vm = .none) (hcl : s.vm.findClass E = some ce.cls)
    (hx : ∀ t : State, t.heap = H → s.vm.Alike t.vm → XC E s t) (hf : ∀ z ∈ locs, free z.base) (hc : cells ≤ mc) (hs : slots ≤ ms) :
    vx_W p l e R s m args below meth c H locs cells slots (vx_MQ below Qc XC args s mc ms free) (F0 m pc ls rest) q := by
  intro T hT X
  have hpl : e.platform.magicAccessors = ({} : Platform).magicAccessors := by rw [X.admits.platform]
  obtain ⟨vm', hW', X', st⟩ := X.outThrough hlocks q (g := F0 m pc ls rest) rfl rfl rfl (cell := ce) (by rw [hT]; exact hcell) (by rw [hv]; rfl)
    (by obtain ⟨k9, h9, -⟩ := Vm.findClass_spec hcl; exact ⟨k9, h9⟩) (fun z hz => by
      rcases hpass z hz with h | ⟨hz0, nm, hl1, hn1⟩
      · exact Or.inl h
      · obtain ⟨c6, hc6, hcl6⟩ := Cond.classLink_spec hown hl1 e.platform hpl
        obtain ⟨a8, b8, h1, h2, h3⟩ := hn1
        cases Option.some.inj (h1.symm.trans hcl)
        cases Option.some.inj (h2.symm.trans hc6)
        exact Or.inr ⟨hz0, _, hcl6, h3⟩)
  obtain ⟨g₀, hfr⟩ := X'.frames_eq
  have hcell9 : ((T.setVm vm').setFrames (.throwing q :: below)).heap[q]? = some ce := by
    show T.heap[q]? = some ce
    rw [hT]; exact hcell
  have hend : Ended ((T.setVm vm').setFrames (.throwing q :: below)) below (.threw q) := State.frames_setFrames _ (State.cur_lt_of_frames hfr)
  refine ⟨(T.setVm vm').setFrames (.throwing q :: below), ?_, .threw q, X'.here.running, hend, Or.inr ⟨q, rfl, E, ce, locs, hx _ hT (X'.ends _).1.alike, hcell9, hv, hcl, (X'.ends _).1, (X'.ends _).2.mono hc hs, hf⟩⟩
  rw [X.pushThrowing_eq]
  exact st
/-- a thing of a world lies in the heap -/
theorem vx_lt {D : va_G} {cl : List vw_C} {ws : va_W} {H1 : Heap} (h : va_P D cl ws H1) {k : Nat} {q : Nat × va_E} (hk : ws[k]? = some q) : q.1 < H1.size := (h k q hk).lt
end VXS
/-! ===== END ===== -/
/-! ===== BEGIN methods with a table of their own: called by a name, returning or throwing ===== -/
section VXH
/-! vx_backW, vx_callVX, vx_callSX, vx_callVW, vx_runVW, vx_runVX, vx_runSX, vx_ofWH follow the same proofs as their sisters above (Free/Laws.lean, Shelf42/LK1.lean); vx_outP calls Shelf42/NT130.lean (outThrough). -/
section
variable {l : Launch} {R : Room} {p : Program} {e : Env} {below : List Frame} {s : State} {sargs : Array Value} {y : MethodName} {len W9 : Nat}
theorem vx_backW {ws : List Cond} {rm : Room} {Pc : Array Value → State → Prop} {Qc : Array Value → State → Outcome → State → Prop} {XC : String → State → State → Prop} {mc ms : Nat} {free : Addr → Prop} {bytes : ByteArray} {maxL : Nat} {ret : Option FieldType} {hh : List (Nat × Nat × Nat × Nat)}
    (hM : vx_Met l y ws rm Pc Qc XC mc ms free) (hblind : FrameBlind Pc) (hrc : rm.cells = mc) (hrs : rm.slots = ms)
    (hframes : rm.frames + 1 ≤ R.frames) (hlocals : W9 + (maxL + 11) + rm.locals ≤ R.locals)
    (hws : ∀ w ∈ ws, ∀ a' U, s.WarmedH U.vm → w.before a' U = true) (hcode : Cond.codeWith y bytes maxL ret hh ∈ ws) (hinit : ∀ a' U, s.WarmedH U.vm → (Cond.initialized y.cls).before a' U = true) :
    vx_Back l R p e below s sargs y len W9 (PreOf R mc ms Pc) (PostOf Qc mc ms free) (vx_Post XC mc ms free) := by
  intro m meth c A g ig mk a X hg hsize hdg hW hn hp
  have h1 : (headSpec ws rm).pre.before a A.U = true := atoms_intro fun w hw => hws w hw _ _ X.warmed
  have h2 : (Cond.codeWith y bytes maxL ret hh).before a A.U = true := hws _ hcode _ _ X.warmed
  have h3 : (Cond.initialized y.cls).before a A.U = true := hinit _ _ X.warmed
  have h4 : A.cells + (headSpec ws rm).room.cells ≤ R.cells := by rw [show (headSpec ws rm).room.cells = mc from hrc]; exact hp.1
  have h5 : A.slots + (headSpec ws rm).room.slots ≤ R.slots := by rw [show (headSpec ws rm).room.slots = ms from hrs]; exact hp.2.1
  have hPc : Pc a (A.U.calling g mk a) := hblind _ _ _ _ hp.2.2
  obtain ⟨U, Ls, c0, s0⟩ := A
  dsimp only [Pt.U, Pt.locs, Pt.cells, Pt.slots] at h1 h2 h3 h4 h5 X hn hPc ⊢
  obtain ⟨m9, methY, cY, hn9, hmY, hcY, -, hlY, -⟩ := Cond.codeWith_spec h2
  cases Option.some.inj (hn9.symm.trans hn)
  obtain ⟨kY, hkY, -⟩ := className_of_methodNamed hn
  have hinitY : kY.init = .initialized := Cond.initialized_spec (findClass_of_methodNamed hn) hkY h3
  have h : At U g.method c below := by rw [hg]; exact X.here
  have hlocals9 : W9 + (maxL + 11) + (headSpec ws rm).room.locals ≤ R.locals := hlocals
  have happ : (headSpec ws rm).appliesLoose y e.platform (U.calling g mk a) = true :=
    Spec.appliesLoose_calling (g := g) h hdg hn hkY hinitY
      (X.room_calling (g := g) (R' := (headSpec ws rm).room) hsize hmY hcY hframes (by rw [hlY]; omega) h4 h5) h1
  obtain ⟨mid, hmid⟩ := h.above
  have hfr : (U.setTop g).frames = (.java g :: mid) ++ below := by rw [State.frames_setTop' g h.top, hmid]; rfl
  obtain ⟨o, s₂, hsteps, -, hend, hq⟩ := Steps.callFree hM p X.admits X.cas X.clock (acts := []) hfr happ hPc trivial
  have hq' : vx_Q Qc XC mc ms free a (U.calling g mk a) o s₂ := hq
  rw [State.frames_setTop' g h.top] at hend
  obtain ⟨g₀, hg0⟩ := Option.isSome_iff_exists.mp h.top
  obtain ⟨r, hr⟩ := State.topJava?_eq_some.mp hg0
  have hr' : (({ U with heap := s₂.heap, slotsUsed := s₂.slotsUsed } : State).setVm s₂.vm).frames = .java g₀ :: r := hr
  rcases hq' with ⟨hqc, L, hfe, hL⟩ | ⟨q, rfl, E, ce, L, hx, hce, hcv, hcl, hW₂, hsm, hL⟩
  · obtain ⟨⟨v, rfl⟩, hW₂, e2, q2, q3, q4, q5, q6⟩ := id hfe
    have e3 : s₂ = ({ (U.calling g mk a).setFrames s₂.frames with heap := s₂.heap, slotsUsed := s₂.slotsUsed } : State).setVm s₂.vm := by
      have : s₂ = ({ s₂ with vm := (U.calling g mk a).vm } : State).setVm s₂.vm := rfl
      rw [e2] at this
      exact this
    obtain ⟨c₂, i₂, len₂, hc₂, hd₂, hf₂⟩ := hend
    have hW' : U.WarmedH s₂.vm := hW₂
    have hcc : c₂ = c := by
      have h1 : s₂.code? g.method = U.code? g.method := by
        rw [State.code?_eq, State.code?_eq, hW'.alike.method?]
      exact Option.some.inj (hc₂.symm.trans (h1.trans h.code))
    subst hcc
    have hlen : len₂ = len := by rw [hdg] at hd₂; cases hd₂; rfl
    subst hlen
    have hs₂ : s₂ = (({ U with heap := s₂.heap, slotsUsed := s₂.slotsUsed } : State).setVm s₂.vm).setTop { g with pc := g.pc + len₂, stack := v.toList ++ g.stack } := by
      refine e3.trans ?_
      rw [hf₂, State.calling_eq h.top, State.setFrames_setFrames, State.setTop_of_frames _ hr', hr]
      rfl
    have hsame : U.sameButNew ({ U with heap := s₂.heap, slotsUsed := s₂.slotsUsed } : State) L mc ms := by
      refine ⟨?_, q2, q3, q4, q5, q6⟩
      obtain ⟨t, ht, -⟩ := State.frames_cons hr
      show ({ U with heap := s₂.heap, slotsUsed := s₂.slotsUsed } : State) = { U.setFrames U.frames with heap := s₂.heap, slotsUsed := s₂.slotsUsed }
      rw [State.setFrames_self ht]
    subst hg
    refine Or.inl ⟨v, ⟨(({ U with heap := s₂.heap, slotsUsed := s₂.slotsUsed } : State).setVm s₂.vm), Ls ++ L, c0 + mc, s0 + ms⟩,
      ⟨X.admits, X.cas, X.clock, X.frames, X.room, X.hears, X.method, X.code, (X.here.setHeapUsed s₂.heap s₂.slotsUsed).setVm hW'.alike, X.tail, State.WarmedH.trans X.warmed hW', X.limits, X.bytes, X.same.trans (hsame.setVm s.vm)⟩,
      ⟨g, mk, s₂, L, rfl, rfl, hqc, rfl, hL, rfl, rfl⟩, ?_⟩
    show Steps p.tables e below _ ((({ U with heap := s₂.heap, slotsUsed := s₂.slotsUsed } : State).setVm s₂.vm).setTop { g with pc := g.pc + len₂, stack := v.toList ++ g.stack })
    rw [← hs₂]
    exact hsteps
  · obtain ⟨e2, q2, q3, q4, q5, q6⟩ := id hsm
    have e3 : s₂ = ({ (U.calling g mk a).setFrames s₂.frames with heap := s₂.heap, slotsUsed := s₂.slotsUsed } : State).setVm s₂.vm := by
      have : s₂ = ({ s₂ with vm := (U.calling g mk a).vm } : State).setVm s₂.vm := rfl
      rw [e2] at this
      exact this
    have hf₂ : s₂.frames = .throwing q :: .java g :: U.frames.tail := hend
    have hW' : U.WarmedH s₂.vm := hW₂
    have hs₂ : s₂ = ((({ U with heap := s₂.heap, slotsUsed := s₂.slotsUsed } : State).setVm s₂.vm).setTop g).pushFrame (.throwing q) := by
      refine e3.trans ?_
      rw [hf₂, State.calling_eq h.top, State.setFrames_setFrames, State.pushFrame, State.frames_setTop _ hr', State.setTop_of_frames _ hr', State.setFrames_setFrames, hr]
      rfl
    have hsame : U.sameButNew ({ U with heap := s₂.heap, slotsUsed := s₂.slotsUsed } : State) L mc ms := by
      refine ⟨?_, q2, q3, q4, q5, q6⟩
      obtain ⟨t, ht, -⟩ := State.frames_cons hr
      show ({ U with heap := s₂.heap, slotsUsed := s₂.slotsUsed } : State) = { U.setFrames U.frames with heap := s₂.heap, slotsUsed := s₂.slotsUsed }
      rw [State.setFrames_self ht]
    subst hg
    refine Or.inr ⟨q, ⟨(({ U with heap := s₂.heap, slotsUsed := s₂.slotsUsed } : State).setVm s₂.vm), Ls ++ L, c0 + mc, s0 + ms⟩,
      ⟨X.admits, X.cas, X.clock, X.frames, X.room, X.hears, X.method, X.code, (X.here.setHeapUsed s₂.heap s₂.slotsUsed).setVm hW'.alike, X.tail, State.WarmedH.trans X.warmed hW', X.limits, X.bytes, X.same.trans (hsame.setVm s.vm)⟩,
      ⟨g, mk, s₂, L, E, ce, rfl, rfl, hx, hce, hcv, hcl, rfl, hL, rfl, rfl⟩, ?_⟩
    show Steps p.tables e below _ (((({ U with heap := s₂.heap, slotsUsed := s₂.slotsUsed } : State).setVm s₂.vm).setTop g).pushFrame (.throwing q))
    rw [← hs₂]
    exact hsteps
end
variable {p : Program} {l : Launch} {e : Env} {R : Room} {s : State} {m : MethodId} {args : Array Value} {below : List Frame} {meth : Method} {c : Code} {T : State} {H : Heap} {locs : List Loc} {cells slots : Nat}
theorem vx_callVX (X : Stand p l e R s m args below meth c T locs cells slots) (hexec : p.tables.exec = Jvm.exec) {own C : String} {index : Nat} {y : MethodName} {bytes : ByteArray} {maxL : Nat} {ret : Option FieldType} {hh : List (Nat × Nat × Nat × Nat)}
    (hown : s.vm.findClass own = some m.cls) (hlink : (Cond.methodLink own index y).before args s = true) (hinst : (Cond.instanceMethod y).before args s = true) (hsel : (Cond.selects C y y).before args s = true)
    (hcode : (Cond.codeWith y bytes maxL ret hh).before args s = true) (hy : y.cls ≠ "java/lang/invoke/MethodHandle" ∧ y.cls ≠ "java/lang/invoke/VarHandle")
    {W9 : Nat} {Pre : Pt → Array Value → Prop} {Post : Pt → Array Value → Option Value → Pt → Prop} {PostX : Pt → Array Value → Addr → Pt → Prop} (hK : vx_Back l R p e below s args y 3 W9 Pre Post PostX)
    {b : Addr} {cellB : Cell} (hcell : T.heap[b]? = some cellB) (hobj : cellB.vm.isStatics = false) (hcls : s.vm.findClass C = some cellB.cls)
    {g : JFrame} (hg : g.method = m) (hsize : g.locals.size = c.maxLocals) {argsL rest : List Value} (hlen : ∀ sig, parseMethodDescriptor y.desc = some sig → argsL.length = sig.parameters.length)
    (hstack : g.stack = argsL.reverse ++ .ref b :: rest) (hW : 2 * g.monitorRoom + (rest.map fun v => v.category).sum ≤ W9) (hdg : decode c.code g.pc = .ok (.invokevirtual index, 3))
    (hpre : ∀ vm₁, s.WarmedH vm₁ → Pre ⟨T.setVm vm₁, locs, cells, slots⟩ (Value.ref b :: argsL).toArray) :
    (∃ (v : Option Value) (vm₁ : Vm) (B : Pt), s.WarmedH vm₁ ∧ Stand p l e R s m args below meth c B.U B.locs B.cells B.slots ∧ Post ⟨T.setVm vm₁, locs, cells, slots⟩ (Value.ref b :: argsL).toArray v B ∧
      ∀ target, Steps p.tables e below (B.U.setTop { g with pc := g.pc + 3, stack := v.toList ++ rest }) target → Steps p.tables e below (T.setTop g) target) ∨
    (∃ (q : Addr) (vm₁ : Vm) (B : Pt), s.WarmedH vm₁ ∧ Stand p l e R s m args below meth c B.U B.locs B.cells B.slots ∧ PostX ⟨T.setVm vm₁, locs, cells, slots⟩ (Value.ref b :: argsL).toArray q B ∧
      Steps p.tables e below (T.setTop g) ((B.U.setTop { g with stack := rest }).pushFrame (.throwing q))) := by
  obtain ⟨mk, methM, hnamed, hmethM, hstM, habM⟩ := Cond.instanceMethod_spec hinst
  obtain ⟨m8, methM', cM, hn8, hmethM', -, -, -, -, -, -, hsigM⟩ := Cond.codeWith_spec hcode
  cases Option.some.inj (hn8.symm.trans hnamed)
  cases hmethM.symm.trans hmethM'
  obtain ⟨c2, r2, m2, q1, q2, q3, q4, kP, hkP, hkPi⟩ := Cond.selects_spec hsel
  cases hcls.symm.trans q1
  cases (State.methodFound?_of_named hnamed hy).symm.trans q2
  cases hnamed.symm.trans q3
  have hselP : selectMethod e.platform s.vm cellB.cls mk = .method mk := by rw [Launch.admits_selectMethod X.admits]; exact q4
  obtain ⟨vm₁, X₁, hstep₁⟩ := X.invokevirtual hexec hown hlink hnamed hmethM hstM hkP hkPi hy (a := b) (cell := cellB) hcell
    (fun z h => by rw [h] at hobj; cases hobj) hselP hmethM habM hkP hkPi (g := g) hg (argsL := argsL) (rest := rest) (hlen _ hsigM) hstack hdg
  rcases hK m meth c ⟨T.setVm vm₁, locs, cells, slots⟩ { g with stack := rest } (.invokevirtual index) mk (Value.ref b :: argsL).toArray X₁ hg hsize hdg hW (X₁.named hnamed) (hpre vm₁ X₁.warmed) with ⟨v, B, X', hpost, hsteps⟩ | ⟨q, B, X', hpost, hsteps⟩
  · exact Or.inl ⟨v, vm₁, B, X₁.warmed, X', hpost, fun target h => hstep₁ _ fun acts => by rw [doInvoke_state]; exact hsteps.trans h⟩
  · exact Or.inr ⟨q, vm₁, B, X₁.warmed, X', hpost, hstep₁ _ fun acts => by rw [doInvoke_state]; exact hsteps⟩
theorem vx_callSX (X : Stand p l e R s m args below meth c T locs cells slots) (hexec : p.tables.exec = Jvm.exec) {own : String} {index : Nat} {y : MethodName} {bytes : ByteArray} {maxL : Nat} {ret : Option FieldType} {hh : List (Nat × Nat × Nat × Nat)}
    (hown : s.vm.findClass own = some m.cls) (hlink : (Cond.methodLink own index y).before args s = true) (hstat : (Cond.static y).before args s = true) (hinit : (Cond.initialized y.cls).before args s = true)
    (hcode : (Cond.codeWith y bytes maxL ret hh).before args s = true) (hy : y.cls ≠ "java/lang/invoke/MethodHandle" ∧ y.cls ≠ "java/lang/invoke/VarHandle")
    {W9 : Nat} {Pre : Pt → Array Value → Prop} {Post : Pt → Array Value → Option Value → Pt → Prop} {PostX : Pt → Array Value → Addr → Pt → Prop} (hK : vx_Back l R p e below s args y 3 W9 Pre Post PostX)
    {g : JFrame} (hg : g.method = m) (hsize : g.locals.size = c.maxLocals) {argsL rest : List Value} (hlen : ∀ sig, parseMethodDescriptor y.desc = some sig → argsL.length = sig.parameters.length)
    (hstack : g.stack = argsL.reverse ++ rest) (hW : 2 * g.monitorRoom + (rest.map fun v => v.category).sum ≤ W9) (hdg : decode c.code g.pc = .ok (.invokestatic index, 3))
    (hpre : ∀ vm₁, s.WarmedH vm₁ → Pre ⟨T.setVm vm₁, locs, cells, slots⟩ argsL.toArray) :
    (∃ (v : Option Value) (vm₁ : Vm) (B : Pt), s.WarmedH vm₁ ∧ Stand p l e R s m args below meth c B.U B.locs B.cells B.slots ∧ Post ⟨T.setVm vm₁, locs, cells, slots⟩ argsL.toArray v B ∧
      ∀ target, Steps p.tables e below (B.U.setTop { g with pc := g.pc + 3, stack := v.toList ++ rest }) target → Steps p.tables e below (T.setTop g) target) ∨
    (∃ (q : Addr) (vm₁ : Vm) (B : Pt), s.WarmedH vm₁ ∧ Stand p l e R s m args below meth c B.U B.locs B.cells B.slots ∧ PostX ⟨T.setVm vm₁, locs, cells, slots⟩ argsL.toArray q B ∧
      Steps p.tables e below (T.setTop g) ((B.U.setTop { g with stack := rest }).pushFrame (.throwing q))) := by
  obtain ⟨mk, methM, cM, hnamed, hmethM, -, -, -, -, -, -, hsigM⟩ := Cond.codeWith_spec hcode
  have hstatic : methM.isStatic = true := Cond.static_spec hnamed hmethM hstat
  obtain ⟨kP, hkP, -⟩ := className_of_methodNamed hnamed
  have hinitP : kP.init = .initialized := Cond.initialized_spec (findClass_of_methodNamed hnamed) hkP hinit
  obtain ⟨vm₁, X₁, hstep₁⟩ := X.invokestatic hexec hown hlink hnamed hmethM hstatic hkP hinitP hy (g := g) hg (argsL := argsL) (rest := rest) (hlen _ hsigM) hstack hdg
  rcases hK m meth c ⟨T.setVm vm₁, locs, cells, slots⟩ { g with stack := rest } (.invokestatic index) mk argsL.toArray X₁ hg hsize hdg hW (X₁.named hnamed) (hpre vm₁ X₁.warmed) with ⟨v, B, X', hpost, hsteps⟩ | ⟨q, B, X', hpost, hsteps⟩
  · exact Or.inl ⟨v, vm₁, B, X₁.warmed, X', hpost, fun target h => hstep₁ _ fun acts => by rw [doInvoke_state]; exact hsteps.trans h⟩
  · exact Or.inr ⟨q, vm₁, B, X₁.warmed, X', hpost, hstep₁ _ fun acts => by rw [doInvoke_state]; exact hsteps⟩
theorem vx_callVW (X : Stand p l e R s m args below meth c T locs cells slots) (hexec : p.tables.exec = Jvm.exec) {own C : String} {index : Nat} {y : MethodName} {bytes : ByteArray} {maxL : Nat} {ret : Option FieldType} {hh : List (Nat × Nat × Nat × Nat)}
    (hown : s.vm.findClass own = some m.cls) (hlink : (Cond.methodLink own index y).before args s = true) (hinst : (Cond.instanceMethod y).before args s = true) (hsel : (Cond.selects C y y).before args s = true)
    (hcode : (Cond.codeWith y bytes maxL ret hh).before args s = true) (hy : y.cls ≠ "java/lang/invoke/MethodHandle" ∧ y.cls ≠ "java/lang/invoke/VarHandle")
    {W9 : Nat} {Pre : Pt → Array Value → Prop} {Post : Pt → Array Value → Option Value → Pt → Prop} (hK : Back l R p e below s args y 3 W9 Pre Post)
    {b : Addr} {cellB : Cell} (hcell : T.heap[b]? = some cellB) (hobj : cellB.vm.isStatics = false) (hcls : s.vm.findClass C = some cellB.cls)
    {g : JFrame} (hg : g.method = m) (hsize : g.locals.size = c.maxLocals) {argsL rest : List Value} (hlen : ∀ sig, parseMethodDescriptor y.desc = some sig → argsL.length = sig.parameters.length)
    (hstack : g.stack = argsL.reverse ++ .ref b :: rest) (hW : 2 * g.monitorRoom + (rest.map fun v => v.category).sum ≤ W9) (hdg : decode c.code g.pc = .ok (.invokevirtual index, 3))
    (hpre : ∀ vm₁, s.WarmedH vm₁ → Pre ⟨T.setVm vm₁, locs, cells, slots⟩ (Value.ref b :: argsL).toArray) :
    ∃ (v : Option Value) (vm₁ : Vm) (B : Pt), s.WarmedH vm₁ ∧ Stand p l e R s m args below meth c B.U B.locs B.cells B.slots ∧ Post ⟨T.setVm vm₁, locs, cells, slots⟩ (Value.ref b :: argsL).toArray v B ∧
      ∀ target, Steps p.tables e below (B.U.setTop { g with pc := g.pc + 3, stack := v.toList ++ rest }) target → Steps p.tables e below (T.setTop g) target := by
  obtain ⟨mk, methM, hnamed, hmethM, hstM, habM⟩ := Cond.instanceMethod_spec hinst
  obtain ⟨m8, methM', cM, hn8, hmethM', -, -, -, -, -, -, hsigM⟩ := Cond.codeWith_spec hcode
  cases Option.some.inj (hn8.symm.trans hnamed)
  cases hmethM.symm.trans hmethM'
  obtain ⟨c2, r2, m2, q1, q2, q3, q4, kP, hkP, hkPi⟩ := Cond.selects_spec hsel
  cases hcls.symm.trans q1
  cases (State.methodFound?_of_named hnamed hy).symm.trans q2
  cases hnamed.symm.trans q3
  have hselP : selectMethod e.platform s.vm cellB.cls mk = .method mk := by rw [Launch.admits_selectMethod X.admits]; exact q4
  obtain ⟨vm₁, X₁, hstep₁⟩ := X.invokevirtual hexec hown hlink hnamed hmethM hstM hkP hkPi hy (a := b) (cell := cellB) hcell
    (fun z h => by rw [h] at hobj; cases hobj) hselP hmethM habM hkP hkPi (g := g) hg (argsL := argsL) (rest := rest) (hlen _ hsigM) hstack hdg
  obtain ⟨v, B, X', hpost, hsteps⟩ := hK m meth c ⟨T.setVm vm₁, locs, cells, slots⟩ { g with stack := rest } (.invokevirtual index) mk (Value.ref b :: argsL).toArray X₁ hg hsize hdg hW (X₁.named hnamed) (hpre vm₁ X₁.warmed)
  exact ⟨v, vm₁, B, X₁.warmed, X', hpost, fun target h => hstep₁ _ fun acts => by rw [doInvoke_state]; exact hsteps.trans h⟩
abbrev vx_CVW (R : Room) (s : State) (args : Array Value) (own C : String) (index : Nat) (y : MethodName) (bytes : ByteArray) (maxL : Nat) (ret : Option FieldType) (hh : List (Nat × Nat × Nat × Nat)) (ws : List Cond) (rm : Room) (mc ms n : Nat) : Prop :=
  (rm.cells = mc ∧ rm.slots = ms ∧ rm.frames + 1 ≤ R.frames ∧ 8 + (maxL + 11) + rm.locals ≤ R.locals ∧ (∀ w ∈ ws, ∀ (a' : Array Value) (U : State), s.WarmedH U.vm → w.before a' U = true) ∧ Cond.codeWith y bytes maxL ret hh ∈ ws) ∧
  (Cond.codeWith y bytes maxL ret hh).before args s = true ∧ (Cond.initialized y.cls).before args s = true ∧ (y.cls ≠ "java/lang/invoke/MethodHandle" ∧ y.cls ≠ "java/lang/invoke/VarHandle") ∧
  (∀ sig, parseMethodDescriptor y.desc = some sig → n = sig.parameters.length) ∧ (Cond.methodLink own index y).before args s = true ∧ (Cond.instanceMethod y).before args s = true ∧ (Cond.selects C y y).before args s = true
theorem vx_cwVW {own C : String} {index maxL mc ms : Nat} {y : MethodName} {bytes : ByteArray} {ret : Option FieldType} {hh : List (Nat × Nat × Nat × Nat)} {Ts ws ws' : List Cond} {rm : Room} (n : Nat) (ht : ∀ w ∈ Ts, w.before args s = true) (hT : GoodIn Ts (wsV own index C y ws)) (hw : ws = Cond.codeWith y bytes maxL ret hh :: ws') (hrc : rm.cells = mc) (hrs : rm.slots = ms)
    (hd : y.cls = C ∧ y.cls ≠ "java/lang/invoke/MethodHandle" ∧ y.cls ≠ "java/lang/invoke/VarHandle" ∧ (parseMethodDescriptor y.desc).map (fun d => d.parameters.length) = some n) (hR : rm.frames + 1 ≤ R.frames ∧ 8 + (maxL + 11) + rm.locals ≤ R.locals) :
    vx_CVW R s args own C index y bytes maxL ret hh ws rm mc ms n := by
  obtain ⟨hC, hd⟩ := hd
  subst hC
  have ok : ∀ w ∈ wsV own index y.cls y ws, w.before args s = true := fun w h => ht w (hT w h).1
  have hG : GoodIn Ts ws := fun w h => hT w (by unfold wsV; exact List.mem_append_right _ h)
  have hc : Cond.codeWith y bytes maxL ret hh ∈ ws := by rw [hw]; exact List.mem_cons_self
  refine ⟨⟨hrc, hrs, hR.1, hR.2, pay_in ht hG, hc⟩, ht _ (hG _ hc).1, ok _ (by simp [wsV]), ⟨hd.1, hd.2.1⟩, fun sig h => ?_, ok _ (by simp [wsV]), ok _ (by simp [wsV]), ok _ (by simp [wsV])⟩
  have h2 := hd.2.2
  rw [h] at h2
  exact (Option.some.inj h2).symm
theorem vx_runVW {y : MethodName} {bytes cc : ByteArray} {maxL nL mc ms n index : Nat} {ret : Option FieldType} {hh : List (Nat × Nat × Nat × Nat)} {ws : List Cond} {rm : Room} {Pc : Array Value → State → Prop} {Qc : Array Value → State → Outcome → State → Prop} {free : Addr → Prop} {Ts : List Cond} {own C : String} {b : Addr} {As rest : List Value} {g : JFrame}
    (S : CallFix p m c cc nL s args Ts own) (hM : Met l y ws rm Pc Qc mc ms free) (cw : vx_CVW R s args own C index y bytes maxL ret hh ws rm mc ms n) (hp : PreV s H C b Pc As)
    (hg : g.method = m) (hn : As.length = n) (hsize : g.locals.size = nL) (hstack : g.stack = As.reverse ++ .ref b :: rest) (hW : 2 * g.monitorRoom + (rest.map fun v => v.category).sum ≤ 8) (hdg : decode cc g.pc = .ok (.invokevirtual index, 3)) (hf : cells + mc ≤ R.cells ∧ slots + ms ≤ R.slots) :
    va_Run p l e R s m args below meth c H locs cells slots mc ms g rest (Qc (Value.ref b :: As).toArray) free := by
  obtain ⟨⟨hrc, hrs, hfr, hlo, hws, hcw⟩, hcode, hini, hy, hlen, hl, hin, hse⟩ := cw
  have hK : Back l R p e below s args y 3 8 (PreOf R mc ms Pc) (PostOf Qc mc ms free) := va_backW (hh := hh) (bytes := bytes) (maxL := maxL) (ret := ret) hM hp.1 hrc hrs hfr hlo hws hcw (fun a' U hW => word_at hW (Or.inl (by first | rfl | simp [Cond.onTables, Cond.keeps, Cond.steady])) hini)
  obtain ⟨hx, hb, hml, ho, -⟩ := S
  obtain ⟨-, ⟨cellB, hcB, hoB, hclB⟩, hPc⟩ := hp
  intro T hT X
  obtain ⟨v, vm₁, ⟨U', l2, c2, s2⟩, hW₁, X', ⟨g', mk, t, L, e1, e2, hq, h1, hL, h2, h3⟩, st⟩ := vx_callVW X hx (C := C) (hh := hh) (bytes := bytes) (maxL := maxL) (ret := ret) ho hl hin hse hcode hy hK (by rw [hT]; exact hcB) hoB hclB hg (hsize.trans hml.symm) (argsL := As) (rest := rest) (fun sig h => hn.trans (hlen sig h)) hstack hW (by rw [hb]; exact hdg)
    (fun vm₁ hW₁ => ⟨hf.1, hf.2, hPc (T.setVm vm₁) hT hW₁⟩)
  dsimp only [Pt.U, Pt.locs, Pt.cells, Pt.slots] at X' e1 e2 h1 h2 h3 st
  subst h1; subst h2; subst h3
  exact ⟨v, (T.setVm vm₁).calling g' mk (Value.ref b :: As).toArray, t, U', L, hT, X', hL, e1, e2, hq, st⟩
section
variable {y : MethodName} {bytes cc : ByteArray} {maxL nL mc ms n index : Nat} {ret : Option FieldType} {ws : List Cond} {rm : Room} {Pc : Array Value → State → Prop} {Qc : Array Value → State → Outcome → State → Prop} {XC : String → State → State → Prop} {free : Addr → Prop} {Ts : List Cond} {own C : String} {b : Addr} {As rest : List Value} {g : JFrame}
theorem vx_runVX {hh : List (Nat × Nat × Nat × Nat)} (S : CallFix p m c cc nL s args Ts own) (hM : vx_Met l y ws rm Pc Qc XC mc ms free) (cw : vx_CVW R s args own C index y bytes maxL ret hh ws rm mc ms n) (hp : PreV s H C b Pc As)
    (hg : g.method = m) (hn : As.length = n) (hsize : g.locals.size = nL) (hstack : g.stack = As.reverse ++ .ref b :: rest) (hW : 2 * g.monitorRoom + (rest.map fun v => v.category).sum ≤ 8) (hdg : decode cc g.pc = .ok (.invokevirtual index, 3)) (hf : cells + mc ≤ R.cells ∧ slots + ms ≤ R.slots) :
    vx_Run p l e R s m args below meth c H locs cells slots mc ms g rest (Qc (Value.ref b :: As).toArray) XC free := by
  obtain ⟨⟨hrc, hrs, hfr, hlo, hws, hcw⟩, hcode, hini, hy, hlen, hl, hin, hse⟩ := cw
  have hK : vx_Back l R p e below s args y 3 8 (PreOf R mc ms Pc) (PostOf Qc mc ms free) (vx_Post XC mc ms free) := vx_backW (hh := hh) (bytes := bytes) (maxL := maxL) (ret := ret) hM hp.1 hrc hrs hfr hlo hws hcw (fun a' U hW => word_at hW (Or.inl (by first | rfl | simp [Cond.onTables, Cond.keeps, Cond.steady])) hini)
  obtain ⟨hx, hb, hml, ho, -⟩ := S
  obtain ⟨-, ⟨cellB, hcB, hoB, hclB⟩, hPc⟩ := hp
  intro T hT X
  rcases vx_callVX X hx (C := C) (hh := hh) (bytes := bytes) (maxL := maxL) (ret := ret) ho hl hin hse hcode hy hK (by rw [hT]; exact hcB) hoB hclB hg (hsize.trans hml.symm) (argsL := As) (rest := rest) (fun sig h => hn.trans (hlen sig h)) hstack hW (by rw [hb]; exact hdg)
    (fun vm₁ hW₁ => ⟨hf.1, hf.2, hPc (T.setVm vm₁) hT hW₁⟩) with ⟨v, vm₁, ⟨U', l2, c2, s2⟩, hW₁, X', ⟨g', mk, t, L, e1, e2, hq, h1, hL, h2, h3⟩, st⟩ | ⟨q, vm₁, ⟨U', l2, c2, s2⟩, hW₁, X', ⟨g', mk, t, L, E, ce, e1, e2, hq, hce, hcv, hcl, h1, hL, h2, h3⟩, st⟩
  · dsimp only [Pt.U, Pt.locs, Pt.cells, Pt.slots] at X' e1 e2 h1 h2 h3 st
    subst h1; subst h2; subst h3
    exact Or.inl ⟨v, (T.setVm vm₁).calling g' mk (Value.ref b :: As).toArray, t, U', L, hT, X', hL, e1, e2, hq, st⟩
  · dsimp only [Pt.U, Pt.locs, Pt.cells, Pt.slots] at X' e1 e2 h1 h2 h3 st hcl
    subst h1; subst h2; subst h3
    exact Or.inr ⟨q, (T.setVm vm₁).calling g' mk (Value.ref b :: As).toArray, t, U', L, E, ce, hT, X', hL, e1, e2, hq, hce, hcv, vx_cls hW₁ hcl, st⟩
theorem vx_runSX {hh : List (Nat × Nat × Nat × Nat)} (S : CallFix p m c cc nL s args Ts own) (hM : vx_Met l y ws rm Pc Qc XC mc ms free) (cw : vx_CSW R s args own index y bytes maxL ret hh ws rm mc ms n) (hp : PreS s H Pc As)
    (hg : g.method = m) (hn : As.length = n) (hsize : g.locals.size = nL) (hstack : g.stack = As.reverse ++ rest) (hW : 2 * g.monitorRoom + (rest.map fun v => v.category).sum ≤ 8) (hdg : decode cc g.pc = .ok (.invokestatic index, 3)) (hf : cells + mc ≤ R.cells ∧ slots + ms ≤ R.slots) :
    vx_Run p l e R s m args below meth c H locs cells slots mc ms g rest (Qc As.toArray) XC free := by
  obtain ⟨⟨hrc, hrs, hfr, hlo, hws, hcw⟩, hcode, hini, hy, hlen, hl, hstt⟩ := cw
  have hK : vx_Back l R p e below s args y 3 8 (PreOf R mc ms Pc) (PostOf Qc mc ms free) (vx_Post XC mc ms free) := vx_backW (hh := hh) (bytes := bytes) (maxL := maxL) (ret := ret) hM hp.1 hrc hrs hfr hlo hws hcw (fun a' U hW => word_at hW (Or.inl (by first | rfl | simp [Cond.onTables, Cond.keeps, Cond.steady])) hini)
  obtain ⟨hx, hb, hml, ho, -⟩ := S
  intro T hT X
  rcases vx_callSX X hx (hh := hh) (bytes := bytes) (maxL := maxL) (ret := ret) ho hl hstt hini hcode hy hK hg (hsize.trans hml.symm) (argsL := As) (rest := rest) (fun sig h => hn.trans (hlen sig h)) hstack hW (by rw [hb]; exact hdg)
    (fun vm₁ hW₁ => ⟨hf.1, hf.2, hp.2 (T.setVm vm₁) hT hW₁⟩) with ⟨v, vm₁, ⟨U', l2, c2, s2⟩, hW₁, X', ⟨g', mk, t, L, e1, e2, hq, h1, hL, h2, h3⟩, st⟩ | ⟨q, vm₁, ⟨U', l2, c2, s2⟩, hW₁, X', ⟨g', mk, t, L, E, ce, e1, e2, hq, hce, hcv, hcl, h1, hL, h2, h3⟩, st⟩
  · dsimp only [Pt.U, Pt.locs, Pt.cells, Pt.slots] at X' e1 e2 h1 h2 h3 st
    subst h1; subst h2; subst h3
    exact Or.inl ⟨v, (T.setVm vm₁).calling g' mk As.toArray, t, U', L, hT, X', hL, e1, e2, hq, st⟩
  · dsimp only [Pt.U, Pt.locs, Pt.cells, Pt.slots] at X' e1 e2 h1 h2 h3 st hcl
    subst h1; subst h2; subst h3
    exact Or.inr ⟨q, (T.setVm vm₁).calling g' mk As.toArray, t, U', L, E, ce, hT, X', hL, e1, e2, hq, hce, hcv, vx_cls hW₁ hcl, st⟩
end
end VXH
theorem vx_ofWH {l : Launch} {y : MethodName} {ws ws' : List Cond} {rm : Room} {Pc : Array Value → State → Prop} {Qc : Array Value → State → Outcome → State → Prop} {XC : String → State → State → Prop} {mc ms : Nat} {free : Addr → Prop} {cc : ByteArray} {maxL : Nat} {ret : Option FieldType} {hh : List (Nat × Nat × Nat × Nat)}
    (hy : plainName y.cls = true) (hw : ws = Cond.codeWith y cc maxL ret hh :: ws')
    (body : ∀ p e s m args below meth c s₁, BodyLoose p l y (headSpec ws rm) cc maxL ret e s m args below meth c s₁ → c.maxLocals = maxL → Pc args s →
      W p l e (headSpec ws rm).room s m args below meth c s.heap [] 0 0 (vx_MQ below Qc XC args s mc ms free) (entryFrame m args maxL)) : vx_Met l y ws rm Pc Qc XC mc ms free := by
  refine MetFree.of_bodyS (code := cc) (maxLocals := maxL) (ret := ret) hy ?_ ?_
  · intro args s m h hn
    obtain ⟨m9, meth, c, hn9, h1, h2, h3, h4, -, h5, h6, -⟩ := Cond.codeWith_spec (atoms_spec (ws := ws) h _ (by rw [hw]; exact List.mem_cons_self))
    cases hn.symm.trans hn9
    exact ⟨meth, c, h1, h2, h3, h4, h5, h6⟩
  · intro p e s m args below meth c s₁ B hml hP _
    have hh0 : s₁.heap = s.heap := by rw [B.state]; rfl
    obtain ⟨t, a1, o, b1, b2, b3⟩ := body p e s m args below meth c s₁ B hml hP s₁ hh0 (Stand.of_body B)
    exact ⟨t, o, a1, b1, b2, b3⟩
/-! ===== END ===== -/
end
section
/-! ===== BEGIN printed: names, fields, word lists, decode rows ===== -/
def RX0 : String := "CausalTable$History"
def TX0 : u_T := fun k => match k with
  | 0 => ("CausalTable$History", "ring", "[LCausalTable$State;", true)
  | 1 => ("CausalTable$History", "oldest", "I", false)
  | _ => ("CausalTable$History", "size", "I", false)
def tyX0 : Nat → FieldType := fun k => match k with
  | 0 => .array (.object "CausalTable$State")
  | 1 => .int
  | _ => .int
abbrev wsX00 : List Cond := u_ws RX0 TX0 3
theorem nmX0 : ∀ a, a < 3 → ∀ b, b < 3 → a ≠ b → (TX0 a).2.1 ≠ (TX0 b).2.1 := by decide +kernel
theorem tyX0_ok : ∀ k, k < 3 → parseFieldDescriptor (TX0 k).2.2.1 = some (tyX0 k) := by decide +kernel
abbrev cX0_init : ByteArray := prog_2_method_1_code
def yX0_init : MethodName := ⟨RX0, "<init>", "()V"⟩
abbrev cX0_save : ByteArray := prog_2_method_2_code
def yX0_save : MethodName := ⟨RX0, "save", "(LCausalTable$State;)V"⟩
abbrev cX0_restore : ByteArray := prog_2_method_3_code
def yX0_restore : MethodName := ⟨RX0, "restore", "(LCausalTable$State;)V"⟩
def RX1 : String := "CausalTable$State"
def TX1 : u_T := fun k => match k with
  | 0 => ("CausalTable$State", "numbers", "[I", true)
  | 1 => ("CausalTable$State", "stamps", "[I", true)
  | 2 => ("CausalTable$State", "values", "[I", true)
  | 3 => ("CausalTable$State", "seenNumbers", "[I", true)
  | 4 => ("CausalTable$State", "clocks", "[I", true)
  | _ => ("CausalTable$State", "mergeResult", "[I", true)
def tyX1 : Nat → FieldType := fun k => match k with
  | 0 => .array .int
  | 1 => .array .int
  | 2 => .array .int
  | 3 => .array .int
  | 4 => .array .int
  | _ => .array .int
abbrev wsX10 : List Cond := u_ws RX1 TX1 6
theorem nmX1 : ∀ a, a < 6 → ∀ b, b < 6 → a ≠ b → (TX1 a).2.1 ≠ (TX1 b).2.1 := by decide +kernel
theorem tyX1_ok : ∀ k, k < 6 → parseFieldDescriptor (TX1 k).2.2.1 = some (tyX1 k) := by decide +kernel
abbrev cX1_init : ByteArray := prog_3_method_1_code
def yX1_init : MethodName := ⟨RX1, "<init>", "()V"⟩
abbrev cX1_copyFrom : ByteArray := prog_3_method_2_code
def yX1_copyFrom : MethodName := ⟨RX1, "copyFrom", "(LCausalTable$State;)V"⟩
abbrev cX1_slotOf : ByteArray := prog_3_method_3_code
def yX1_slotOf : MethodName := ⟨RX1, "slotOf", "(III)I"⟩
abbrev cX1_cellStart : ByteArray := prog_3_method_4_code
def yX1_cellStart : MethodName := ⟨RX1, "cellStart", "(III)I"⟩
abbrev cX1_cellEnd : ByteArray := prog_3_method_5_code
def yX1_cellEnd : MethodName := ⟨RX1, "cellEnd", "(III)I"⟩
abbrev cX1_groupOfElement : ByteArray := prog_3_method_6_code
def yX1_groupOfElement : MethodName := ⟨RX1, "groupOfElement", "(I)I"⟩
abbrev cX1_countEntries : ByteArray := prog_3_method_7_code
def yX1_countEntries : MethodName := ⟨RX1, "countEntries", "(II)I"⟩
abbrev cX1_removeEntries : ByteArray := prog_3_method_8_code
def yX1_removeEntries : MethodName := ⟨RX1, "removeEntries", "(II)I"⟩
abbrev cX1_removeGroup : ByteArray := prog_3_method_9_code
def yX1_removeGroup : MethodName := ⟨RX1, "removeGroup", "(III)I"⟩
abbrev cX1_seenNumber : ByteArray := prog_3_method_10_code
def yX1_seenNumber : MethodName := ⟨RX1, "seenNumber", "(II)I"⟩
abbrev cX1_beginUpdate : ByteArray := prog_3_method_11_code
def yX1_beginUpdate : MethodName := ⟨RX1, "beginUpdate", "(I)V"⟩
abbrev cX1_makeEntry : ByteArray := prog_3_method_12_code
def yX1_makeEntry : MethodName := ⟨RX1, "makeEntry", "(IIII)V"⟩
abbrev cX1_putValue : ByteArray := prog_3_method_13_code
def yX1_putValue : MethodName := ⟨RX1, "putValue", "(IIII)I"⟩
abbrev cX1_addAmount : ByteArray := prog_3_method_14_code
def yX1_addAmount : MethodName := ⟨RX1, "addAmount", "(III)V"⟩
abbrev cX1_includeElement : ByteArray := prog_3_method_15_code
def yX1_includeElement : MethodName := ⟨RX1, "includeElement", "(III)I"⟩
abbrev cX1_excludeElement : ByteArray := prog_3_method_16_code
def yX1_excludeElement : MethodName := ⟨RX1, "excludeElement", "(III)I"⟩
abbrev cX1_deleteRow : ByteArray := prog_3_method_17_code
def yX1_deleteRow : MethodName := ⟨RX1, "deleteRow", "(II)I"⟩
abbrev cX1_mergeReplica : ByteArray := prog_3_method_18_code
def yX1_mergeReplica : MethodName := ⟨RX1, "mergeReplica", "(II)I"⟩
abbrev cX1_countAdded : ByteArray := prog_3_method_19_code
def yX1_countAdded : MethodName := ⟨RX1, "countAdded", "(II)I"⟩
abbrev cX1_countRemoved : ByteArray := prog_3_method_20_code
def yX1_countRemoved : MethodName := ⟨RX1, "countRemoved", "(II)I"⟩
abbrev cX1_isAdded : ByteArray := prog_3_method_21_code
def yX1_isAdded : MethodName := ⟨RX1, "isAdded", "(III)Z"⟩
abbrev cX1_isRemoved : ByteArray := prog_3_method_22_code
def yX1_isRemoved : MethodName := ⟨RX1, "isRemoved", "(III)Z"⟩
abbrev cX1_mergeSlot : ByteArray := prog_3_method_23_code
def yX1_mergeSlot : MethodName := ⟨RX1, "mergeSlot", "(III)V"⟩
abbrev cX1_mergeKnowledge : ByteArray := prog_3_method_24_code
def yX1_mergeKnowledge : MethodName := ⟨RX1, "mergeKnowledge", "(II)V"⟩
abbrev cX1_latestValue : ByteArray := prog_3_method_25_code
def yX1_latestValue : MethodName := ⟨RX1, "latestValue", "(II)I"⟩
abbrev cX1_siblingAt : ByteArray := prog_3_method_26_code
def yX1_siblingAt : MethodName := ⟨RX1, "siblingAt", "(III)I"⟩
abbrev cX1_rankInCell : ByteArray := prog_3_method_27_code
def yX1_rankInCell : MethodName := ⟨RX1, "rankInCell", "(III)I"⟩
abbrev cX1_greatestValue : ByteArray := prog_3_method_28_code
def yX1_greatestValue : MethodName := ⟨RX1, "greatestValue", "(II)I"⟩
abbrev cX1_sumOfCell : ByteArray := prog_3_method_29_code
def yX1_sumOfCell : MethodName := ⟨RX1, "sumOfCell", "(III)I"⟩
abbrev cX1_elementBits : ByteArray := prog_3_method_30_code
def yX1_elementBits : MethodName := ⟨RX1, "elementBits", "(II)I"⟩
abbrev cX1_countInCell : ByteArray := prog_3_method_31_code
def yX1_countInCell : MethodName := ⟨RX1, "countInCell", "(III)I"⟩
abbrev cX1_holdsRow : ByteArray := prog_3_method_32_code
def yX1_holdsRow : MethodName := ⟨RX1, "holdsRow", "(II)Z"⟩
abbrev cX1_knows : ByteArray := prog_3_method_33_code
def yX1_knows : MethodName := ⟨RX1, "knows", "(II)Z"⟩
abbrev cX1_isAgreed : ByteArray := prog_3_method_34_code
def yX1_isAgreed : MethodName := ⟨RX1, "isAgreed", "(II)Z"⟩
def RX2 : String := "CausalTable$Text"
def TX2 : u_T := fun k => match k with
  | 0 => ("CausalTable$Text", "characters", "[C", true)
  | 1 => ("CausalTable$Text", "length", "I", false)
  | 2 => ("CausalTable$Text", "position", "I", false)
  | 3 => ("CausalTable$Text", "kind", "I", false)
  | 4 => ("CausalTable$Text", "replica", "I", false)
  | 5 => ("CausalTable$Text", "target", "I", false)
  | _ => ("CausalTable$Text", "number", "I", false)
def tyX2 : Nat → FieldType := fun k => match k with
  | 0 => .array .char
  | 1 => .int
  | 2 => .int
  | 3 => .int
  | 4 => .int
  | 5 => .int
  | _ => .int
abbrev wsX20 : List Cond := u_ws RX2 TX2 7
theorem nmX2 : ∀ a, a < 7 → ∀ b, b < 7 → a ≠ b → (TX2 a).2.1 ≠ (TX2 b).2.1 := by decide +kernel
theorem tyX2_ok : ∀ k, k < 7 → parseFieldDescriptor (TX2 k).2.2.1 = some (tyX2 k) := by decide +kernel
abbrev cX2_init : ByteArray := prog_4_method_1_code
def yX2_init : MethodName := ⟨RX2, "<init>", "()V"⟩
def RX3 : String := "CausalTable"
def TX3 : u_T := fun k => match k with
  | 0 => ("CausalTable", "state", "LCausalTable$State;", true)
  | 1 => ("CausalTable", "history", "LCausalTable$History;", true)
  | _ => ("CausalTable", "text", "LCausalTable$Text;", true)
def tyX3 : Nat → FieldType := fun k => match k with
  | 0 => .object "CausalTable$State"
  | 1 => .object "CausalTable$History"
  | _ => .object "CausalTable$Text"
abbrev wsX30 : List Cond := u_ws RX3 TX3 3
theorem nmX3 : ∀ a, a < 3 → ∀ b, b < 3 → a ≠ b → (TX3 a).2.1 ≠ (TX3 b).2.1 := by decide +kernel
theorem tyX3_ok : ∀ k, k < 3 → parseFieldDescriptor (TX3 k).2.2.1 = some (tyX3 k) := by decide +kernel
abbrev cX3_init : ByteArray := prog_1_method_1_code
def yX3_init : MethodName := ⟨RX3, "<init>", "()V"⟩
abbrev cX3_put : ByteArray := prog_1_method_2_code
def yX3_put : MethodName := ⟨RX3, "put", "(IIII)I"⟩
abbrev cX3_add : ByteArray := prog_1_method_3_code
def yX3_add : MethodName := ⟨RX3, "add", "(III)I"⟩
abbrev cX3_include : ByteArray := prog_1_method_4_code
def yX3_include : MethodName := ⟨RX3, "include", "(III)I"⟩
abbrev cX3_exclude : ByteArray := prog_1_method_5_code
def yX3_exclude : MethodName := ⟨RX3, "exclude", "(III)I"⟩
abbrev cX3_delete : ByteArray := prog_1_method_6_code
def yX3_delete : MethodName := ⟨RX3, "delete", "(II)I"⟩
abbrev cX3_merge : ByteArray := prog_1_method_7_code
def yX3_merge : MethodName := ⟨RX3, "merge", "(II)I"⟩
abbrev cX3_mergeAll : ByteArray := prog_1_method_8_code
def yX3_mergeAll : MethodName := ⟨RX3, "mergeAll", "()I"⟩
abbrev cX3_undo : ByteArray := prog_1_method_13_code
def yX3_undo : MethodName := ⟨RX3, "undo", "()I"⟩
abbrev cX3_latest : ByteArray := prog_1_method_14_code
def yX3_latest : MethodName := ⟨RX3, "latest", "(II)I"⟩
abbrev cX3_sibling : ByteArray := prog_1_method_15_code
def yX3_sibling : MethodName := ⟨RX3, "sibling", "(III)I"⟩
abbrev cX3_greatest : ByteArray := prog_1_method_16_code
def yX3_greatest : MethodName := ⟨RX3, "greatest", "(II)I"⟩
abbrev cX3_counter : ByteArray := prog_1_method_17_code
def yX3_counter : MethodName := ⟨RX3, "counter", "(II)I"⟩
abbrev cX3_elements : ByteArray := prog_1_method_18_code
def yX3_elements : MethodName := ⟨RX3, "elements", "(II)I"⟩
abbrev cX3_entries : ByteArray := prog_1_method_19_code
def yX3_entries : MethodName := ⟨RX3, "entries", "(III)I"⟩
abbrev cX3_exists : ByteArray := prog_1_method_20_code
def yX3_exists : MethodName := ⟨RX3, "exists", "(II)Z"⟩
abbrev cX3_mean : ByteArray := prog_1_method_21_code
def yX3_mean : MethodName := ⟨RX3, "mean", "(II)F"⟩
abbrev cX3_seen : ByteArray := prog_1_method_22_code
def yX3_seen : MethodName := ⟨RX3, "seen", "(II)I"⟩
abbrev cX3_clock : ByteArray := prog_1_method_23_code
def yX3_clock : MethodName := ⟨RX3, "clock", "(I)I"⟩
abbrev cX3_relation : ByteArray := prog_1_method_24_code
def yX3_relation : MethodName := ⟨RX3, "relation", "(II)I"⟩
abbrev cX3_conflicts : ByteArray := prog_1_method_25_code
def yX3_conflicts : MethodName := ⟨RX3, "conflicts", "(I)I"⟩
abbrev cX3_agreement : ByteArray := prog_1_method_26_code
def yX3_agreement : MethodName := ⟨RX3, "agreement", "()D"⟩
abbrev cX3_latestMerge : ByteArray := prog_1_method_27_code
def yX3_latestMerge : MethodName := ⟨RX3, "latestMerge", "(I)I"⟩
abbrev cX3_ifMerged : ByteArray := prog_1_method_28_code
def yX3_ifMerged : MethodName := ⟨RX3, "ifMerged", "(III)I"⟩
abbrev cX3_checkReplica : ByteArray := prog_1_method_31_code
def yX3_checkReplica : MethodName := ⟨RX3, "checkReplica", "(I)V"⟩
abbrev cX3_checkRow : ByteArray := prog_1_method_32_code
def yX3_checkRow : MethodName := ⟨RX3, "checkRow", "(I)V"⟩
abbrev cX3_checkElement : ByteArray := prog_1_method_33_code
def yX3_checkElement : MethodName := ⟨RX3, "checkElement", "(I)V"⟩
abbrev cX3_checkDifferent : ByteArray := prog_1_method_34_code
def yX3_checkDifferent : MethodName := ⟨RX3, "checkDifferent", "(II)V"⟩
def RX4 : String := "CausalTableModel"
def TX4 : u_T := fun k => match k with
  | _ => ("", "", "", false)
def tyX4 : Nat → FieldType := fun k => match k with
  | _ => .int
abbrev wsX40 : List Cond := u_ws RX4 TX4 0
theorem nmX4 : ∀ a, a < 0 → ∀ b, b < 0 → a ≠ b → (TX4 a).2.1 ≠ (TX4 b).2.1 := by decide +kernel
theorem tyX4_ok : ∀ k, k < 0 → parseFieldDescriptor (TX4 k).2.2.1 = some (tyX4 k) := by decide +kernel
def RJ9 : String := "java/lang/Math"
def TJ9 : u_T := fun k => match k with
  | _ => ("", "", "", false)
def tyJ9 : Nat → FieldType := fun k => match k with
  | _ => .int
abbrev wsJ90 : List Cond := u_ws RJ9 TJ9 0
theorem nmJ9 : ∀ a, a < 0 → ∀ b, b < 0 → a ≠ b → (TJ9 a).2.1 ≠ (TJ9 b).2.1 := by decide +kernel
theorem tyJ9_ok : ∀ k, k < 0 → parseFieldDescriptor (TJ9 k).2.2.1 = some (tyJ9 k) := by decide +kernel
abbrev cJ9_max_7cf53 : ByteArray := prog_11_method_65_code
def yJ9_max_7cf53 : MethodName := ⟨RJ9, "max", "(II)I"⟩
def RJ0 : String := "java/lang/String"
def TJ0 : u_T := fun k => match k with
  | _ => ("", "", "", false)
def tyJ0 : Nat → FieldType := fun k => match k with
  | _ => .int
abbrev wsJ00 : List Cond := u_ws RJ0 TJ0 0
theorem nmJ0 : ∀ a, a < 0 → ∀ b, b < 0 → a ≠ b → (TJ0 a).2.1 ≠ (TJ0 b).2.1 := by decide +kernel
theorem tyJ0_ok : ∀ k, k < 0 → parseFieldDescriptor (TJ0 k).2.2.1 = some (tyJ0 k) := by decide +kernel
def RJ10 : String := "java/lang/System"
def TJ10 : u_T := fun k => match k with
  | _ => ("", "", "", false)
def tyJ10 : Nat → FieldType := fun k => match k with
  | _ => .int
abbrev wsJ100 : List Cond := u_ws RJ10 TJ10 0
theorem nmJ10 : ∀ a, a < 0 → ∀ b, b < 0 → a ≠ b → (TJ10 a).2.1 ≠ (TJ10 b).2.1 := by decide +kernel
theorem tyJ10_ok : ∀ k, k < 0 → parseFieldDescriptor (TJ10 k).2.2.1 = some (tyJ10 k) := by decide +kernel
def RL : String := "CausalTableLaw"
abbrev cL_cell : ByteArray := method_2_code
def yL_cell : MethodName := ⟨RL, "cell", "([II)I"⟩
abbrev cL_up : ByteArray := method_3_code
def yL_up : MethodName := ⟨RL, "up", "(II)I"⟩
abbrev cL_cells : ByteArray := method_4_code
def yL_cells : MethodName := ⟨RL, "cells", "(LCausalTable;I)J"⟩
abbrev cL_told : ByteArray := method_5_code
def yL_told : MethodName := ⟨RL, "told", "(LCausalTable;)J"⟩
abbrev cL_updates : ByteArray := method_6_code
def yL_updates : MethodName := ⟨RL, "updates", "(LCausalTable;III)Z"⟩
abbrev cL_merges : ByteArray := method_7_code
def yL_merges : MethodName := ⟨RL, "merges", "(LCausalTable;II)Z"⟩
abbrev cL_holds : ByteArray := method_8_code
def yL_holds : MethodName := ⟨RL, "holds", "(LCausalTable;)Z"⟩
abbrev cL_isKept : ByteArray := method_9_code
def yL_isKept : MethodName := ⟨RL, "isKept", "(LCausalTable;III)Z"⟩
abbrev cL_law : ByteArray := code
def yL_law : MethodName := ⟨RL, "law", "([I)Z"⟩
def wsX0_init : List Cond := .code yX0_init cX0_init 1 none :: ([.methodLink RX0 3 objectInit, .instanceMethod objectInit, .code objectInit ⟨#[0xb1]⟩ 1 none, .classLink RX0 9 RX1, .fieldLink RX0 11 "CausalTable$History" "ring" "[LCausalTable$State;", .fieldLink RX0 17 "CausalTable$History" "oldest" "I", .fieldLink RX0 21 "CausalTable$History" "size" "I"] ++ wsX00)
def wsX1_init : List Cond := .code yX1_init cX1_init 1 none :: ([.methodLink RX1 5 objectInit, .instanceMethod objectInit, .code objectInit ⟨#[0xb1]⟩ 1 none, .arrayClass .int, .fieldLink RX1 11 "CausalTable$State" "numbers" "[I", .fieldLink RX1 15 "CausalTable$State" "stamps" "[I", .fieldLink RX1 18 "CausalTable$State" "values" "[I", .fieldLink RX1 21 "CausalTable$State" "seenNumbers" "[I", .fieldLink RX1 24 "CausalTable$State" "clocks" "[I", .fieldLink RX1 27 "CausalTable$State" "mergeResult" "[I"] ++ wsX10)
def wsX1_copyFrom : List Cond := .code yX1_copyFrom cX1_copyFrom 2 none :: ([.fieldLink RX1 11 "CausalTable$State" "numbers" "[I", .methodLink RX1 30 arraycopyName, .native arraycopyName, .static arraycopyName, .initialized "java/lang/System", .fieldLink RX1 15 "CausalTable$State" "stamps" "[I", .fieldLink RX1 18 "CausalTable$State" "values" "[I", .fieldLink RX1 21 "CausalTable$State" "seenNumbers" "[I", .fieldLink RX1 24 "CausalTable$State" "clocks" "[I", .fieldLink RX1 27 "CausalTable$State" "mergeResult" "[I"] ++ wsX10)
def wsX0_save_r1 : List Cond := [Cond.fieldLink RX0 21 "CausalTable$History" "size" "I", Cond.fieldLink RX0 17 "CausalTable$History" "oldest" "I", Cond.fieldLink RX0 11 "CausalTable$History" "ring" "[LCausalTable$State;", Cond.classLink RX0 9 RX1, Cond.instantiable RX1 6, Cond.initialized RX1, Cond.instanceMethod yX1_init, Cond.code yX1_init cX1_init 1 none, Cond.methodLink RX1 5 objectInit, Cond.instanceMethod objectInit, Cond.code objectInit ⟨#[0xb1]⟩ 1 none, Cond.arrayClass .int, Cond.fieldLink RX1 11 "CausalTable$State" "numbers" "[I", Cond.fieldLink RX1 15 "CausalTable$State" "stamps" "[I", Cond.fieldLink RX1 18 "CausalTable$State" "values" "[I", Cond.fieldLink RX1 21 "CausalTable$State" "seenNumbers" "[I", Cond.fieldLink RX1 24 "CausalTable$State" "clocks" "[I", Cond.fieldLink RX1 27 "CausalTable$State" "mergeResult" "[I", Cond.methodLink RX0 25 yX1_copyFrom, Cond.instanceMethod yX1_copyFrom, Cond.selects RX1 yX1_copyFrom yX1_copyFrom, Cond.code yX1_copyFrom cX1_copyFrom 2 none, Cond.methodLink RX1 30 arraycopyName, Cond.native arraycopyName]
def wsX0_save_r2 : List Cond := [Cond.static arraycopyName, Cond.initialized "java/lang/System"]
def wsX0_save : List Cond := .code yX0_save cX0_save 4 none :: ((wsX0_save_r1 ++ wsX0_save_r2) ++ wsX00 ++ wsX10)
def wsX0_restore : List Cond := .code yX0_restore cX0_restore 3 none :: ([.fieldLink RX0 21 "CausalTable$History" "size" "I", .fieldLink RX0 11 "CausalTable$History" "ring" "[LCausalTable$State;", .fieldLink RX0 17 "CausalTable$History" "oldest" "I", .methodLink RX0 25 yX1_copyFrom, .instanceMethod yX1_copyFrom, .selects RX1 yX1_copyFrom yX1_copyFrom, .initialized RX1, .code yX1_copyFrom cX1_copyFrom 2 none, .fieldLink RX1 11 "CausalTable$State" "numbers" "[I", .methodLink RX1 30 arraycopyName, .native arraycopyName, .static arraycopyName, .initialized "java/lang/System", .fieldLink RX1 15 "CausalTable$State" "stamps" "[I", .fieldLink RX1 18 "CausalTable$State" "values" "[I", .fieldLink RX1 21 "CausalTable$State" "seenNumbers" "[I", .fieldLink RX1 24 "CausalTable$State" "clocks" "[I", .fieldLink RX1 27 "CausalTable$State" "mergeResult" "[I"] ++ wsX00 ++ wsX10)
def wsX1_slotOf : List Cond := .code yX1_slotOf cX1_slotOf 3 (some .int) :: ([])
def wsX1_cellStart : List Cond := .code yX1_cellStart cX1_cellStart 3 (some .int) :: ([.methodLink RX1 36 yX1_slotOf, .static yX1_slotOf, .initialized RX1, .code yX1_slotOf cX1_slotOf 3 (some .int)])
def wsX1_cellEnd : List Cond := .code yX1_cellEnd cX1_cellEnd 3 (some .int) :: ([.methodLink RX1 36 yX1_slotOf, .static yX1_slotOf, .initialized RX1, .code yX1_slotOf cX1_slotOf 3 (some .int)])
def wsX1_groupOfElement : List Cond := .code yX1_groupOfElement cX1_groupOfElement 1 (some .int) :: ([])
def wsX1_countEntries : List Cond := .code yX1_countEntries cX1_countEntries 5 (some .int) :: ([.fieldLink RX1 11 "CausalTable$State" "numbers" "[I"] ++ wsX10)
def wsX1_removeEntries : List Cond := .code yX1_removeEntries cX1_removeEntries 5 (some .int) :: ([.fieldLink RX1 11 "CausalTable$State" "numbers" "[I", .methodLink RX1 40 yX1_countEntries, .instanceMethod yX1_countEntries, .selects RX1 yX1_countEntries yX1_countEntries, .initialized RX1, .code yX1_countEntries cX1_countEntries 5 (some .int)] ++ wsX10)
def wsX1_removeGroup : List Cond := .code yX1_removeGroup cX1_removeGroup 4 (some .int) :: ([.methodLink RX1 36 yX1_slotOf, .static yX1_slotOf, .initialized RX1, .code yX1_slotOf cX1_slotOf 3 (some .int), .methodLink RX1 44 yX1_removeEntries, .instanceMethod yX1_removeEntries, .selects RX1 yX1_removeEntries yX1_removeEntries, .code yX1_removeEntries cX1_removeEntries 5 (some .int), .fieldLink RX1 11 "CausalTable$State" "numbers" "[I", .methodLink RX1 40 yX1_countEntries, .instanceMethod yX1_countEntries, .selects RX1 yX1_countEntries yX1_countEntries, .code yX1_countEntries cX1_countEntries 5 (some .int)] ++ wsX10)
def wsX1_seenNumber : List Cond := .code yX1_seenNumber cX1_seenNumber 3 (some .int) :: ([.fieldLink RX1 21 "CausalTable$State" "seenNumbers" "[I"] ++ wsX10)
def wsX1_beginUpdate : List Cond := .code yX1_beginUpdate cX1_beginUpdate 2 none :: ([.fieldLink RX1 24 "CausalTable$State" "clocks" "[I", .fieldLink RX1 21 "CausalTable$State" "seenNumbers" "[I"] ++ wsX10)
def wsX1_makeEntry : List Cond := .code yX1_makeEntry cX1_makeEntry 6 none :: ([.fieldLink RX1 11 "CausalTable$State" "numbers" "[I", .fieldLink RX1 15 "CausalTable$State" "stamps" "[I", .fieldLink RX1 24 "CausalTable$State" "clocks" "[I", .fieldLink RX1 18 "CausalTable$State" "values" "[I", .methodLink RX1 36 yX1_slotOf, .static yX1_slotOf, .initialized RX1, .code yX1_slotOf cX1_slotOf 3 (some .int), .methodLink RX1 47 yX1_seenNumber, .instanceMethod yX1_seenNumber, .selects RX1 yX1_seenNumber yX1_seenNumber, .code yX1_seenNumber cX1_seenNumber 3 (some .int), .fieldLink RX1 21 "CausalTable$State" "seenNumbers" "[I"] ++ wsX10)
def wsX1_greatestValue : List Cond := .code yX1_greatestValue cX1_greatestValue 6 (some .int) :: ([.fieldLink RX1 11 "CausalTable$State" "numbers" "[I", .fieldLink RX1 18 "CausalTable$State" "values" "[I", .methodLink RX1 57 Lib.Math.max.name, .static Lib.Math.max.name, .initialized "java/lang/Math", .code Lib.Math.max.name Lib.Math.max.code 2 (some .int), .methodLink RX1 97 yX1_cellEnd, .static yX1_cellEnd, .initialized RX1, .code yX1_cellEnd cX1_cellEnd 3 (some .int), .methodLink RX1 36 yX1_slotOf, .static yX1_slotOf, .code yX1_slotOf cX1_slotOf 3 (some .int), .methodLink RX1 94 yX1_cellStart, .static yX1_cellStart, .code yX1_cellStart cX1_cellStart 3 (some .int)] ++ wsX10)
def wsX1_putValue_r1 : List Cond := [Cond.methodLink RX1 57 Lib.Math.max.name, Cond.static Lib.Math.max.name, Cond.initialized "java/lang/Math", Cond.code Lib.Math.max.name Lib.Math.max.code 2 (some .int), Cond.methodLink RX1 50 yX1_beginUpdate, Cond.instanceMethod yX1_beginUpdate, Cond.selects RX1 yX1_beginUpdate yX1_beginUpdate, Cond.initialized RX1, Cond.code yX1_beginUpdate cX1_beginUpdate 2 none, Cond.fieldLink RX1 24 "CausalTable$State" "clocks" "[I", Cond.fieldLink RX1 21 "CausalTable$State" "seenNumbers" "[I", Cond.methodLink RX1 54 yX1_greatestValue, Cond.instanceMethod yX1_greatestValue, Cond.selects RX1 yX1_greatestValue yX1_greatestValue, Cond.code yX1_greatestValue cX1_greatestValue 6 (some .int), Cond.fieldLink RX1 11 "CausalTable$State" "numbers" "[I", Cond.fieldLink RX1 18 "CausalTable$State" "values" "[I", Cond.methodLink RX1 97 yX1_cellEnd, Cond.static yX1_cellEnd, Cond.code yX1_cellEnd cX1_cellEnd 3 (some .int), Cond.methodLink RX1 36 yX1_slotOf, Cond.static yX1_slotOf, Cond.code yX1_slotOf cX1_slotOf 3 (some .int), Cond.methodLink RX1 94 yX1_cellStart]
def wsX1_putValue_r2 : List Cond := [Cond.static yX1_cellStart, Cond.code yX1_cellStart cX1_cellStart 3 (some .int), Cond.methodLink RX1 62 yX1_removeGroup, Cond.instanceMethod yX1_removeGroup, Cond.selects RX1 yX1_removeGroup yX1_removeGroup, Cond.code yX1_removeGroup cX1_removeGroup 4 (some .int), Cond.methodLink RX1 44 yX1_removeEntries, Cond.instanceMethod yX1_removeEntries, Cond.selects RX1 yX1_removeEntries yX1_removeEntries, Cond.code yX1_removeEntries cX1_removeEntries 5 (some .int), Cond.methodLink RX1 40 yX1_countEntries, Cond.instanceMethod yX1_countEntries, Cond.selects RX1 yX1_countEntries yX1_countEntries, Cond.code yX1_countEntries cX1_countEntries 5 (some .int), Cond.methodLink RX1 65 yX1_makeEntry, Cond.instanceMethod yX1_makeEntry, Cond.selects RX1 yX1_makeEntry yX1_makeEntry, Cond.code yX1_makeEntry cX1_makeEntry 6 none, Cond.fieldLink RX1 15 "CausalTable$State" "stamps" "[I", Cond.methodLink RX1 47 yX1_seenNumber, Cond.instanceMethod yX1_seenNumber, Cond.selects RX1 yX1_seenNumber yX1_seenNumber, Cond.code yX1_seenNumber cX1_seenNumber 3 (some .int)]
def wsX1_putValue : List Cond := .code yX1_putValue cX1_putValue 7 (some .int) :: ((wsX1_putValue_r1 ++ wsX1_putValue_r2) ++ wsX10)
def wsX1_addAmount : List Cond := .code yX1_addAmount cX1_addAmount 6 none :: ([.fieldLink RX1 11 "CausalTable$State" "numbers" "[I", .fieldLink RX1 18 "CausalTable$State" "values" "[I", .methodLink RX1 50 yX1_beginUpdate, .instanceMethod yX1_beginUpdate, .selects RX1 yX1_beginUpdate yX1_beginUpdate, .initialized RX1, .code yX1_beginUpdate cX1_beginUpdate 2 none, .fieldLink RX1 24 "CausalTable$State" "clocks" "[I", .fieldLink RX1 21 "CausalTable$State" "seenNumbers" "[I", .methodLink RX1 36 yX1_slotOf, .static yX1_slotOf, .code yX1_slotOf cX1_slotOf 3 (some .int), .methodLink RX1 65 yX1_makeEntry, .instanceMethod yX1_makeEntry, .selects RX1 yX1_makeEntry yX1_makeEntry, .code yX1_makeEntry cX1_makeEntry 6 none, .fieldLink RX1 15 "CausalTable$State" "stamps" "[I", .methodLink RX1 47 yX1_seenNumber, .instanceMethod yX1_seenNumber, .selects RX1 yX1_seenNumber yX1_seenNumber, .code yX1_seenNumber cX1_seenNumber 3 (some .int)] ++ wsX10)
def wsX1_includeElement_r1 : List Cond := [Cond.methodLink RX1 50 yX1_beginUpdate, Cond.instanceMethod yX1_beginUpdate, Cond.selects RX1 yX1_beginUpdate yX1_beginUpdate, Cond.initialized RX1, Cond.code yX1_beginUpdate cX1_beginUpdate 2 none, Cond.fieldLink RX1 24 "CausalTable$State" "clocks" "[I", Cond.fieldLink RX1 21 "CausalTable$State" "seenNumbers" "[I", Cond.methodLink RX1 69 yX1_groupOfElement, Cond.static yX1_groupOfElement, Cond.code yX1_groupOfElement cX1_groupOfElement 1 (some .int), Cond.methodLink RX1 62 yX1_removeGroup, Cond.instanceMethod yX1_removeGroup, Cond.selects RX1 yX1_removeGroup yX1_removeGroup, Cond.code yX1_removeGroup cX1_removeGroup 4 (some .int), Cond.methodLink RX1 36 yX1_slotOf, Cond.static yX1_slotOf, Cond.code yX1_slotOf cX1_slotOf 3 (some .int), Cond.methodLink RX1 44 yX1_removeEntries, Cond.instanceMethod yX1_removeEntries, Cond.selects RX1 yX1_removeEntries yX1_removeEntries, Cond.code yX1_removeEntries cX1_removeEntries 5 (some .int), Cond.fieldLink RX1 11 "CausalTable$State" "numbers" "[I", Cond.methodLink RX1 40 yX1_countEntries, Cond.instanceMethod yX1_countEntries]
def wsX1_includeElement_r2 : List Cond := [Cond.selects RX1 yX1_countEntries yX1_countEntries, Cond.code yX1_countEntries cX1_countEntries 5 (some .int), Cond.methodLink RX1 65 yX1_makeEntry, Cond.instanceMethod yX1_makeEntry, Cond.selects RX1 yX1_makeEntry yX1_makeEntry, Cond.code yX1_makeEntry cX1_makeEntry 6 none, Cond.fieldLink RX1 15 "CausalTable$State" "stamps" "[I", Cond.fieldLink RX1 18 "CausalTable$State" "values" "[I", Cond.methodLink RX1 47 yX1_seenNumber, Cond.instanceMethod yX1_seenNumber, Cond.selects RX1 yX1_seenNumber yX1_seenNumber, Cond.code yX1_seenNumber cX1_seenNumber 3 (some .int)]
def wsX1_includeElement : List Cond := .code yX1_includeElement cX1_includeElement 5 (some .int) :: ((wsX1_includeElement_r1 ++ wsX1_includeElement_r2) ++ wsX10)
def wsX1_excludeElement_r1 : List Cond := [Cond.methodLink RX1 50 yX1_beginUpdate, Cond.instanceMethod yX1_beginUpdate, Cond.selects RX1 yX1_beginUpdate yX1_beginUpdate, Cond.initialized RX1, Cond.code yX1_beginUpdate cX1_beginUpdate 2 none, Cond.fieldLink RX1 24 "CausalTable$State" "clocks" "[I", Cond.fieldLink RX1 21 "CausalTable$State" "seenNumbers" "[I", Cond.methodLink RX1 69 yX1_groupOfElement, Cond.static yX1_groupOfElement, Cond.code yX1_groupOfElement cX1_groupOfElement 1 (some .int), Cond.methodLink RX1 62 yX1_removeGroup, Cond.instanceMethod yX1_removeGroup, Cond.selects RX1 yX1_removeGroup yX1_removeGroup, Cond.code yX1_removeGroup cX1_removeGroup 4 (some .int), Cond.methodLink RX1 36 yX1_slotOf, Cond.static yX1_slotOf, Cond.code yX1_slotOf cX1_slotOf 3 (some .int), Cond.methodLink RX1 44 yX1_removeEntries, Cond.instanceMethod yX1_removeEntries, Cond.selects RX1 yX1_removeEntries yX1_removeEntries, Cond.code yX1_removeEntries cX1_removeEntries 5 (some .int), Cond.fieldLink RX1 11 "CausalTable$State" "numbers" "[I", Cond.methodLink RX1 40 yX1_countEntries, Cond.instanceMethod yX1_countEntries]
def wsX1_excludeElement_r2 : List Cond := [Cond.selects RX1 yX1_countEntries yX1_countEntries, Cond.code yX1_countEntries cX1_countEntries 5 (some .int)]
def wsX1_excludeElement : List Cond := .code yX1_excludeElement cX1_excludeElement 4 (some .int) :: ((wsX1_excludeElement_r1 ++ wsX1_excludeElement_r2) ++ wsX10)
def wsX1_deleteRow : List Cond := .code yX1_deleteRow cX1_deleteRow 3 (some .int) :: ([.methodLink RX1 50 yX1_beginUpdate, .instanceMethod yX1_beginUpdate, .selects RX1 yX1_beginUpdate yX1_beginUpdate, .initialized RX1, .code yX1_beginUpdate cX1_beginUpdate 2 none, .fieldLink RX1 24 "CausalTable$State" "clocks" "[I", .fieldLink RX1 21 "CausalTable$State" "seenNumbers" "[I", .methodLink RX1 36 yX1_slotOf, .static yX1_slotOf, .code yX1_slotOf cX1_slotOf 3 (some .int), .methodLink RX1 44 yX1_removeEntries, .instanceMethod yX1_removeEntries, .selects RX1 yX1_removeEntries yX1_removeEntries, .code yX1_removeEntries cX1_removeEntries 5 (some .int), .fieldLink RX1 11 "CausalTable$State" "numbers" "[I", .methodLink RX1 40 yX1_countEntries, .instanceMethod yX1_countEntries, .selects RX1 yX1_countEntries yX1_countEntries, .code yX1_countEntries cX1_countEntries 5 (some .int)] ++ wsX10)
def wsX1_isAdded : List Cond := .code yX1_isAdded cX1_isAdded 5 (some .boolean) :: ([.fieldLink RX1 11 "CausalTable$State" "numbers" "[I", .methodLink RX1 47 yX1_seenNumber, .instanceMethod yX1_seenNumber, .selects RX1 yX1_seenNumber yX1_seenNumber, .initialized RX1, .code yX1_seenNumber cX1_seenNumber 3 (some .int), .fieldLink RX1 21 "CausalTable$State" "seenNumbers" "[I"] ++ wsX10)
def wsX1_countAdded : List Cond := .code yX1_countAdded cX1_countAdded 5 (some .int) :: ([.methodLink RX1 87 yX1_isAdded, .instanceMethod yX1_isAdded, .selects RX1 yX1_isAdded yX1_isAdded, .initialized RX1, .code yX1_isAdded cX1_isAdded 5 (some .boolean), .fieldLink RX1 11 "CausalTable$State" "numbers" "[I", .methodLink RX1 47 yX1_seenNumber, .instanceMethod yX1_seenNumber, .selects RX1 yX1_seenNumber yX1_seenNumber, .code yX1_seenNumber cX1_seenNumber 3 (some .int), .fieldLink RX1 21 "CausalTable$State" "seenNumbers" "[I"] ++ wsX10)
def wsX1_isRemoved : List Cond := .code yX1_isRemoved cX1_isRemoved 5 (some .boolean) :: ([.fieldLink RX1 11 "CausalTable$State" "numbers" "[I", .methodLink RX1 47 yX1_seenNumber, .instanceMethod yX1_seenNumber, .selects RX1 yX1_seenNumber yX1_seenNumber, .initialized RX1, .code yX1_seenNumber cX1_seenNumber 3 (some .int), .fieldLink RX1 21 "CausalTable$State" "seenNumbers" "[I"] ++ wsX10)
def wsX1_countRemoved : List Cond := .code yX1_countRemoved cX1_countRemoved 5 (some .int) :: ([.methodLink RX1 91 yX1_isRemoved, .instanceMethod yX1_isRemoved, .selects RX1 yX1_isRemoved yX1_isRemoved, .initialized RX1, .code yX1_isRemoved cX1_isRemoved 5 (some .boolean), .fieldLink RX1 11 "CausalTable$State" "numbers" "[I", .methodLink RX1 47 yX1_seenNumber, .instanceMethod yX1_seenNumber, .selects RX1 yX1_seenNumber yX1_seenNumber, .code yX1_seenNumber cX1_seenNumber 3 (some .int), .fieldLink RX1 21 "CausalTable$State" "seenNumbers" "[I"] ++ wsX10)
def wsX1_mergeSlot : List Cond := .code yX1_mergeSlot cX1_mergeSlot 6 none :: ([.fieldLink RX1 11 "CausalTable$State" "numbers" "[I", .fieldLink RX1 15 "CausalTable$State" "stamps" "[I", .fieldLink RX1 18 "CausalTable$State" "values" "[I", .methodLink RX1 87 yX1_isAdded, .instanceMethod yX1_isAdded, .selects RX1 yX1_isAdded yX1_isAdded, .initialized RX1, .code yX1_isAdded cX1_isAdded 5 (some .boolean), .methodLink RX1 47 yX1_seenNumber, .instanceMethod yX1_seenNumber, .selects RX1 yX1_seenNumber yX1_seenNumber, .code yX1_seenNumber cX1_seenNumber 3 (some .int), .fieldLink RX1 21 "CausalTable$State" "seenNumbers" "[I", .methodLink RX1 91 yX1_isRemoved, .instanceMethod yX1_isRemoved, .selects RX1 yX1_isRemoved yX1_isRemoved, .code yX1_isRemoved cX1_isRemoved 5 (some .boolean)] ++ wsX10)
def wsX1_mergeKnowledge : List Cond := .code yX1_mergeKnowledge cX1_mergeKnowledge 4 none :: ([.fieldLink RX1 21 "CausalTable$State" "seenNumbers" "[I", .methodLink RX1 57 Lib.Math.max.name, .static Lib.Math.max.name, .initialized "java/lang/Math", .code Lib.Math.max.name Lib.Math.max.code 2 (some .int), .fieldLink RX1 24 "CausalTable$State" "clocks" "[I", .methodLink RX1 47 yX1_seenNumber, .instanceMethod yX1_seenNumber, .selects RX1 yX1_seenNumber yX1_seenNumber, .initialized RX1, .code yX1_seenNumber cX1_seenNumber 3 (some .int)] ++ wsX10)
def wsX1_mergeReplica_r1 : List Cond := [Cond.fieldLink RX1 27 "CausalTable$State" "mergeResult" "[I", Cond.methodLink RX1 73 yX1_countAdded, Cond.instanceMethod yX1_countAdded, Cond.selects RX1 yX1_countAdded yX1_countAdded, Cond.initialized RX1, Cond.code yX1_countAdded cX1_countAdded 5 (some .int), Cond.methodLink RX1 87 yX1_isAdded, Cond.instanceMethod yX1_isAdded, Cond.selects RX1 yX1_isAdded yX1_isAdded, Cond.code yX1_isAdded cX1_isAdded 5 (some .boolean), Cond.fieldLink RX1 11 "CausalTable$State" "numbers" "[I", Cond.methodLink RX1 47 yX1_seenNumber, Cond.instanceMethod yX1_seenNumber, Cond.selects RX1 yX1_seenNumber yX1_seenNumber, Cond.code yX1_seenNumber cX1_seenNumber 3 (some .int), Cond.fieldLink RX1 21 "CausalTable$State" "seenNumbers" "[I", Cond.methodLink RX1 76 yX1_countRemoved, Cond.instanceMethod yX1_countRemoved, Cond.selects RX1 yX1_countRemoved yX1_countRemoved, Cond.code yX1_countRemoved cX1_countRemoved 5 (some .int), Cond.methodLink RX1 91 yX1_isRemoved, Cond.instanceMethod yX1_isRemoved, Cond.selects RX1 yX1_isRemoved yX1_isRemoved, Cond.code yX1_isRemoved cX1_isRemoved 5 (some .boolean)]
def wsX1_mergeReplica_r2 : List Cond := [Cond.methodLink RX1 79 yX1_mergeSlot, Cond.instanceMethod yX1_mergeSlot, Cond.selects RX1 yX1_mergeSlot yX1_mergeSlot, Cond.code yX1_mergeSlot cX1_mergeSlot 6 none, Cond.fieldLink RX1 15 "CausalTable$State" "stamps" "[I", Cond.fieldLink RX1 18 "CausalTable$State" "values" "[I", Cond.methodLink RX1 83 yX1_mergeKnowledge, Cond.instanceMethod yX1_mergeKnowledge, Cond.selects RX1 yX1_mergeKnowledge yX1_mergeKnowledge, Cond.code yX1_mergeKnowledge cX1_mergeKnowledge 4 none, Cond.methodLink RX1 57 Lib.Math.max.name, Cond.static Lib.Math.max.name, Cond.initialized "java/lang/Math", Cond.code Lib.Math.max.name Lib.Math.max.code 2 (some .int), Cond.fieldLink RX1 24 "CausalTable$State" "clocks" "[I"]
def wsX1_mergeReplica : List Cond := .code yX1_mergeReplica cX1_mergeReplica 6 (some .int) :: ((wsX1_mergeReplica_r1 ++ wsX1_mergeReplica_r2) ++ wsX10)
def wsX1_latestValue : List Cond := .code yX1_latestValue cX1_latestValue 8 (some .int) :: ([.fieldLink RX1 11 "CausalTable$State" "numbers" "[I", .fieldLink RX1 15 "CausalTable$State" "stamps" "[I", .fieldLink RX1 18 "CausalTable$State" "values" "[I", .methodLink RX1 94 yX1_cellStart, .static yX1_cellStart, .initialized RX1, .code yX1_cellStart cX1_cellStart 3 (some .int), .methodLink RX1 36 yX1_slotOf, .static yX1_slotOf, .code yX1_slotOf cX1_slotOf 3 (some .int), .methodLink RX1 97 yX1_cellEnd, .static yX1_cellEnd, .code yX1_cellEnd cX1_cellEnd 3 (some .int)] ++ wsX10)
def wsX1_rankInCell : List Cond := .code yX1_rankInCell cX1_rankInCell 7 (some .int) :: ([.fieldLink RX1 18 "CausalTable$State" "values" "[I", .fieldLink RX1 11 "CausalTable$State" "numbers" "[I"] ++ wsX10)
def wsX1_siblingAt : List Cond := .code yX1_siblingAt cX1_siblingAt 7 (some .int) :: ([.fieldLink RX1 11 "CausalTable$State" "numbers" "[I", .fieldLink RX1 18 "CausalTable$State" "values" "[I", .methodLink RX1 94 yX1_cellStart, .static yX1_cellStart, .initialized RX1, .code yX1_cellStart cX1_cellStart 3 (some .int), .methodLink RX1 36 yX1_slotOf, .static yX1_slotOf, .code yX1_slotOf cX1_slotOf 3 (some .int), .methodLink RX1 97 yX1_cellEnd, .static yX1_cellEnd, .code yX1_cellEnd cX1_cellEnd 3 (some .int), .methodLink RX1 100 yX1_rankInCell, .instanceMethod yX1_rankInCell, .selects RX1 yX1_rankInCell yX1_rankInCell, .code yX1_rankInCell cX1_rankInCell 7 (some .int)] ++ wsX10)
def wsX1_sumOfCell : List Cond := .code yX1_sumOfCell cX1_sumOfCell 7 (some .int) :: ([.fieldLink RX1 11 "CausalTable$State" "numbers" "[I", .fieldLink RX1 18 "CausalTable$State" "values" "[I", .methodLink RX1 97 yX1_cellEnd, .static yX1_cellEnd, .initialized RX1, .code yX1_cellEnd cX1_cellEnd 3 (some .int), .methodLink RX1 36 yX1_slotOf, .static yX1_slotOf, .code yX1_slotOf cX1_slotOf 3 (some .int), .methodLink RX1 94 yX1_cellStart, .static yX1_cellStart, .code yX1_cellStart cX1_cellStart 3 (some .int)] ++ wsX10)
def wsX1_elementBits : List Cond := .code yX1_elementBits cX1_elementBits 6 (some .int) :: ([.fieldLink RX1 11 "CausalTable$State" "numbers" "[I", .fieldLink RX1 18 "CausalTable$State" "values" "[I", .methodLink RX1 97 yX1_cellEnd, .static yX1_cellEnd, .initialized RX1, .code yX1_cellEnd cX1_cellEnd 3 (some .int), .methodLink RX1 36 yX1_slotOf, .static yX1_slotOf, .code yX1_slotOf cX1_slotOf 3 (some .int), .methodLink RX1 94 yX1_cellStart, .static yX1_cellStart, .code yX1_cellStart cX1_cellStart 3 (some .int)] ++ wsX10)
def wsX1_countInCell : List Cond := .code yX1_countInCell cX1_countInCell 4 (some .int) :: ([.methodLink RX1 94 yX1_cellStart, .static yX1_cellStart, .initialized RX1, .code yX1_cellStart cX1_cellStart 3 (some .int), .methodLink RX1 36 yX1_slotOf, .static yX1_slotOf, .code yX1_slotOf cX1_slotOf 3 (some .int), .methodLink RX1 97 yX1_cellEnd, .static yX1_cellEnd, .code yX1_cellEnd cX1_cellEnd 3 (some .int), .methodLink RX1 40 yX1_countEntries, .instanceMethod yX1_countEntries, .selects RX1 yX1_countEntries yX1_countEntries, .code yX1_countEntries cX1_countEntries 5 (some .int), .fieldLink RX1 11 "CausalTable$State" "numbers" "[I"] ++ wsX10)
def wsX1_holdsRow : List Cond := .code yX1_holdsRow cX1_holdsRow 3 (some .boolean) :: ([.methodLink RX1 36 yX1_slotOf, .static yX1_slotOf, .initialized RX1, .code yX1_slotOf cX1_slotOf 3 (some .int), .methodLink RX1 40 yX1_countEntries, .instanceMethod yX1_countEntries, .selects RX1 yX1_countEntries yX1_countEntries, .code yX1_countEntries cX1_countEntries 5 (some .int), .fieldLink RX1 11 "CausalTable$State" "numbers" "[I"] ++ wsX10)
def wsX1_knows : List Cond := .code yX1_knows cX1_knows 4 (some .boolean) :: ([.methodLink RX1 47 yX1_seenNumber, .instanceMethod yX1_seenNumber, .selects RX1 yX1_seenNumber yX1_seenNumber, .initialized RX1, .code yX1_seenNumber cX1_seenNumber 3 (some .int), .fieldLink RX1 21 "CausalTable$State" "seenNumbers" "[I"] ++ wsX10)
def wsX1_isAgreed : List Cond := .code yX1_isAgreed cX1_isAgreed 6 (some .boolean) :: ([.fieldLink RX1 11 "CausalTable$State" "numbers" "[I", .methodLink RX1 97 yX1_cellEnd, .static yX1_cellEnd, .initialized RX1, .code yX1_cellEnd cX1_cellEnd 3 (some .int), .methodLink RX1 36 yX1_slotOf, .static yX1_slotOf, .code yX1_slotOf cX1_slotOf 3 (some .int), .methodLink RX1 94 yX1_cellStart, .static yX1_cellStart, .code yX1_cellStart cX1_cellStart 3 (some .int)] ++ wsX10)
def wsX2_init : List Cond := .code yX2_init cX2_init 1 none :: ([.methodLink RX2 3 objectInit, .instanceMethod objectInit, .code objectInit ⟨#[0xb1]⟩ 1 none, .arrayClass .char, .fieldLink RX2 9 "CausalTable$Text" "characters" "[C", .fieldLink RX2 15 "CausalTable$Text" "length" "I", .fieldLink RX2 19 "CausalTable$Text" "position" "I", .fieldLink RX2 22 "CausalTable$Text" "kind" "I", .fieldLink RX2 25 "CausalTable$Text" "replica" "I", .fieldLink RX2 28 "CausalTable$Text" "target" "I", .fieldLink RX2 31 "CausalTable$Text" "number" "I"] ++ wsX20)
def wsX3_init_r1 : List Cond := [Cond.methodLink RX3 1 objectInit, Cond.instanceMethod objectInit, Cond.code objectInit ⟨#[0xb1]⟩ 1 none, Cond.classLink RX3 7 RX1, Cond.instantiable RX1 6, Cond.initialized RX1, Cond.fieldLink RX3 10 "CausalTable" "state" "LCausalTable$State;", Cond.classLink RX3 16 RX0, Cond.instantiable RX0 3, Cond.initialized RX0, Cond.fieldLink RX3 19 "CausalTable" "history" "LCausalTable$History;", Cond.classLink RX3 23 RX2, Cond.instantiable RX2 7, Cond.initialized RX2, Cond.fieldLink RX3 26 "CausalTable" "text" "LCausalTable$Text;", Cond.instanceMethod yX1_init, Cond.code yX1_init cX1_init 1 none, Cond.methodLink RX1 5 objectInit, Cond.arrayClass .int, Cond.fieldLink RX1 11 "CausalTable$State" "numbers" "[I", Cond.fieldLink RX1 15 "CausalTable$State" "stamps" "[I", Cond.fieldLink RX1 18 "CausalTable$State" "values" "[I", Cond.fieldLink RX1 21 "CausalTable$State" "seenNumbers" "[I", Cond.fieldLink RX1 24 "CausalTable$State" "clocks" "[I"]
def wsX3_init_r2 : List Cond := [Cond.fieldLink RX1 27 "CausalTable$State" "mergeResult" "[I", Cond.instanceMethod yX0_init, Cond.code yX0_init cX0_init 1 none, Cond.methodLink RX0 3 objectInit, Cond.classLink RX0 9 RX1, Cond.fieldLink RX0 11 "CausalTable$History" "ring" "[LCausalTable$State;", Cond.fieldLink RX0 17 "CausalTable$History" "oldest" "I", Cond.fieldLink RX0 21 "CausalTable$History" "size" "I", Cond.instanceMethod yX2_init, Cond.code yX2_init cX2_init 1 none, Cond.methodLink RX2 3 objectInit, Cond.arrayClass .char, Cond.fieldLink RX2 9 "CausalTable$Text" "characters" "[C", Cond.fieldLink RX2 15 "CausalTable$Text" "length" "I", Cond.fieldLink RX2 19 "CausalTable$Text" "position" "I", Cond.fieldLink RX2 22 "CausalTable$Text" "kind" "I", Cond.fieldLink RX2 25 "CausalTable$Text" "replica" "I", Cond.fieldLink RX2 28 "CausalTable$Text" "target" "I", Cond.fieldLink RX2 31 "CausalTable$Text" "number" "I"]
def wsX3_init : List Cond := .code yX3_init cX3_init 1 none :: ((wsX3_init_r1 ++ wsX3_init_r2) ++ wsX10 ++ wsX30 ++ wsX00 ++ wsX20)
def wsX3_checkReplica : List Cond := .code yX3_checkReplica cX3_checkReplica 1 none :: ([.classLink RX3 37 "java/lang/IndexOutOfBoundsException", .initialized "java/lang/IndexOutOfBoundsException"] ++ (vx_atS RX3 41 "java/lang/IndexOutOfBoundsException" ["java/lang/RuntimeException", "java/lang/Exception"]).filter goodWord)
def wsX3_checkRow : List Cond := .code yX3_checkRow cX3_checkRow 1 none :: ([.classLink RX3 37 "java/lang/IndexOutOfBoundsException", .initialized "java/lang/IndexOutOfBoundsException"] ++ (vx_atS RX3 41 "java/lang/IndexOutOfBoundsException" ["java/lang/RuntimeException", "java/lang/Exception"]).filter goodWord)
def wsX3_put_r1 : List Cond := [Cond.classLink RX3 37 "java/lang/IndexOutOfBoundsException", Cond.initialized "java/lang/IndexOutOfBoundsException", Cond.classLink RX3 44 "java/lang/IllegalArgumentException", Cond.initialized "java/lang/IllegalArgumentException", Cond.fieldLink RX3 19 "CausalTable" "history" "LCausalTable$History;", Cond.fieldLink RX3 10 "CausalTable" "state" "LCausalTable$State;", Cond.methodLink RX3 30 yX3_checkReplica, Cond.static yX3_checkReplica, Cond.initialized RX3, Cond.code yX3_checkReplica cX3_checkReplica 1 none, Cond.methodLink RX3 34 yX3_checkRow, Cond.static yX3_checkRow, Cond.code yX3_checkRow cX3_checkRow 1 none, Cond.methodLink RX3 49 yX0_save, Cond.instanceMethod yX0_save, Cond.selects RX0 yX0_save yX0_save, Cond.initialized RX0, Cond.code yX0_save cX0_save 4 none, Cond.fieldLink RX0 21 "CausalTable$History" "size" "I", Cond.fieldLink RX0 17 "CausalTable$History" "oldest" "I", Cond.fieldLink RX0 11 "CausalTable$History" "ring" "[LCausalTable$State;", Cond.classLink RX0 9 RX1, Cond.instantiable RX1 6, Cond.initialized RX1]
def wsX3_put_r2 : List Cond := [Cond.instanceMethod yX1_init, Cond.code yX1_init cX1_init 1 none, Cond.methodLink RX1 5 objectInit, Cond.instanceMethod objectInit, Cond.code objectInit ⟨#[0xb1]⟩ 1 none, Cond.arrayClass .int, Cond.fieldLink RX1 11 "CausalTable$State" "numbers" "[I", Cond.fieldLink RX1 15 "CausalTable$State" "stamps" "[I", Cond.fieldLink RX1 18 "CausalTable$State" "values" "[I", Cond.fieldLink RX1 21 "CausalTable$State" "seenNumbers" "[I", Cond.fieldLink RX1 24 "CausalTable$State" "clocks" "[I", Cond.fieldLink RX1 27 "CausalTable$State" "mergeResult" "[I", Cond.methodLink RX0 25 yX1_copyFrom, Cond.instanceMethod yX1_copyFrom, Cond.selects RX1 yX1_copyFrom yX1_copyFrom, Cond.code yX1_copyFrom cX1_copyFrom 2 none, Cond.methodLink RX1 30 arraycopyName, Cond.native arraycopyName, Cond.static arraycopyName, Cond.initialized "java/lang/System", Cond.methodLink RX3 53 yX1_putValue, Cond.instanceMethod yX1_putValue, Cond.selects RX1 yX1_putValue yX1_putValue, Cond.code yX1_putValue cX1_putValue 7 (some .int)]
def wsX3_put_r3 : List Cond := [Cond.methodLink RX1 57 Lib.Math.max.name, Cond.static Lib.Math.max.name, Cond.initialized "java/lang/Math", Cond.code Lib.Math.max.name Lib.Math.max.code 2 (some .int), Cond.methodLink RX1 50 yX1_beginUpdate, Cond.instanceMethod yX1_beginUpdate, Cond.selects RX1 yX1_beginUpdate yX1_beginUpdate, Cond.code yX1_beginUpdate cX1_beginUpdate 2 none, Cond.methodLink RX1 54 yX1_greatestValue, Cond.instanceMethod yX1_greatestValue, Cond.selects RX1 yX1_greatestValue yX1_greatestValue, Cond.code yX1_greatestValue cX1_greatestValue 6 (some .int), Cond.methodLink RX1 97 yX1_cellEnd, Cond.static yX1_cellEnd, Cond.code yX1_cellEnd cX1_cellEnd 3 (some .int), Cond.methodLink RX1 36 yX1_slotOf, Cond.static yX1_slotOf, Cond.code yX1_slotOf cX1_slotOf 3 (some .int), Cond.methodLink RX1 94 yX1_cellStart, Cond.static yX1_cellStart, Cond.code yX1_cellStart cX1_cellStart 3 (some .int), Cond.methodLink RX1 62 yX1_removeGroup, Cond.instanceMethod yX1_removeGroup, Cond.selects RX1 yX1_removeGroup yX1_removeGroup]
def wsX3_put_r4 : List Cond := [Cond.code yX1_removeGroup cX1_removeGroup 4 (some .int), Cond.methodLink RX1 44 yX1_removeEntries, Cond.instanceMethod yX1_removeEntries, Cond.selects RX1 yX1_removeEntries yX1_removeEntries, Cond.code yX1_removeEntries cX1_removeEntries 5 (some .int), Cond.methodLink RX1 40 yX1_countEntries, Cond.instanceMethod yX1_countEntries, Cond.selects RX1 yX1_countEntries yX1_countEntries, Cond.code yX1_countEntries cX1_countEntries 5 (some .int), Cond.methodLink RX1 65 yX1_makeEntry, Cond.instanceMethod yX1_makeEntry, Cond.selects RX1 yX1_makeEntry yX1_makeEntry, Cond.code yX1_makeEntry cX1_makeEntry 6 none, Cond.methodLink RX1 47 yX1_seenNumber, Cond.instanceMethod yX1_seenNumber, Cond.selects RX1 yX1_seenNumber yX1_seenNumber, Cond.code yX1_seenNumber cX1_seenNumber 3 (some .int)]
def wsX3_put : List Cond := .code yX3_put cX3_put 5 (some .int) :: ((wsX3_put_r1 ++ (wsX3_put_r2 ++ (wsX3_put_r3 ++ wsX3_put_r4))) ++ wsX30 ++ wsX00 ++ wsX10 ++ (vx_atS RX3 41 "java/lang/IndexOutOfBoundsException" ["java/lang/RuntimeException", "java/lang/Exception"]).filter goodWord ++ (vx_atS RX3 48 "java/lang/IllegalArgumentException" ["java/lang/RuntimeException", "java/lang/Exception"]).filter goodWord)
def wsX3_add_r1 : List Cond := [Cond.classLink RX3 44 "java/lang/IllegalArgumentException", Cond.initialized "java/lang/IllegalArgumentException", Cond.fieldLink RX3 19 "CausalTable" "history" "LCausalTable$History;", Cond.fieldLink RX3 10 "CausalTable" "state" "LCausalTable$State;", Cond.methodLink RX3 30 yX3_checkReplica, Cond.static yX3_checkReplica, Cond.initialized RX3, Cond.code yX3_checkReplica cX3_checkReplica 1 none, Cond.classLink RX3 37 "java/lang/IndexOutOfBoundsException", Cond.initialized "java/lang/IndexOutOfBoundsException", Cond.methodLink RX3 34 yX3_checkRow, Cond.static yX3_checkRow, Cond.code yX3_checkRow cX3_checkRow 1 none, Cond.methodLink RX3 49 yX0_save, Cond.instanceMethod yX0_save, Cond.selects RX0 yX0_save yX0_save, Cond.initialized RX0, Cond.code yX0_save cX0_save 4 none, Cond.fieldLink RX0 21 "CausalTable$History" "size" "I", Cond.fieldLink RX0 17 "CausalTable$History" "oldest" "I", Cond.fieldLink RX0 11 "CausalTable$History" "ring" "[LCausalTable$State;", Cond.classLink RX0 9 RX1, Cond.instantiable RX1 6, Cond.initialized RX1]
def wsX3_add_r2 : List Cond := [Cond.instanceMethod yX1_init, Cond.code yX1_init cX1_init 1 none, Cond.methodLink RX1 5 objectInit, Cond.instanceMethod objectInit, Cond.code objectInit ⟨#[0xb1]⟩ 1 none, Cond.arrayClass .int, Cond.fieldLink RX1 11 "CausalTable$State" "numbers" "[I", Cond.fieldLink RX1 15 "CausalTable$State" "stamps" "[I", Cond.fieldLink RX1 18 "CausalTable$State" "values" "[I", Cond.fieldLink RX1 21 "CausalTable$State" "seenNumbers" "[I", Cond.fieldLink RX1 24 "CausalTable$State" "clocks" "[I", Cond.fieldLink RX1 27 "CausalTable$State" "mergeResult" "[I", Cond.methodLink RX0 25 yX1_copyFrom, Cond.instanceMethod yX1_copyFrom, Cond.selects RX1 yX1_copyFrom yX1_copyFrom, Cond.code yX1_copyFrom cX1_copyFrom 2 none, Cond.methodLink RX1 30 arraycopyName, Cond.native arraycopyName, Cond.static arraycopyName, Cond.initialized "java/lang/System", Cond.methodLink RX3 59 yX1_addAmount, Cond.instanceMethod yX1_addAmount, Cond.selects RX1 yX1_addAmount yX1_addAmount, Cond.code yX1_addAmount cX1_addAmount 6 none]
def wsX3_add_r3 : List Cond := [Cond.methodLink RX1 50 yX1_beginUpdate, Cond.instanceMethod yX1_beginUpdate, Cond.selects RX1 yX1_beginUpdate yX1_beginUpdate, Cond.code yX1_beginUpdate cX1_beginUpdate 2 none, Cond.methodLink RX1 36 yX1_slotOf, Cond.static yX1_slotOf, Cond.code yX1_slotOf cX1_slotOf 3 (some .int), Cond.methodLink RX1 65 yX1_makeEntry, Cond.instanceMethod yX1_makeEntry, Cond.selects RX1 yX1_makeEntry yX1_makeEntry, Cond.code yX1_makeEntry cX1_makeEntry 6 none, Cond.methodLink RX1 47 yX1_seenNumber, Cond.instanceMethod yX1_seenNumber, Cond.selects RX1 yX1_seenNumber yX1_seenNumber, Cond.code yX1_seenNumber cX1_seenNumber 3 (some .int), Cond.methodLink RX3 63 yX1_sumOfCell, Cond.instanceMethod yX1_sumOfCell, Cond.selects RX1 yX1_sumOfCell yX1_sumOfCell, Cond.code yX1_sumOfCell cX1_sumOfCell 7 (some .int), Cond.methodLink RX1 97 yX1_cellEnd, Cond.static yX1_cellEnd, Cond.code yX1_cellEnd cX1_cellEnd 3 (some .int), Cond.methodLink RX1 94 yX1_cellStart, Cond.static yX1_cellStart]
def wsX3_add_r4 : List Cond := [Cond.code yX1_cellStart cX1_cellStart 3 (some .int)]
def wsX3_add : List Cond := .code yX3_add cX3_add 4 (some .int) :: ((wsX3_add_r1 ++ (wsX3_add_r2 ++ (wsX3_add_r3 ++ wsX3_add_r4))) ++ wsX30 ++ wsX00 ++ wsX10 ++ (vx_atS RX3 48 "java/lang/IllegalArgumentException" ["java/lang/RuntimeException", "java/lang/Exception"]).filter goodWord ++ (vx_atS RX3 41 "java/lang/IndexOutOfBoundsException" ["java/lang/RuntimeException", "java/lang/Exception"]).filter goodWord)
def wsX3_checkElement : List Cond := .code yX3_checkElement cX3_checkElement 1 none :: ([.classLink RX3 44 "java/lang/IllegalArgumentException", .initialized "java/lang/IllegalArgumentException"] ++ (vx_atS RX3 48 "java/lang/IllegalArgumentException" ["java/lang/RuntimeException", "java/lang/Exception"]).filter goodWord)
def wsX3_include_r1 : List Cond := [Cond.fieldLink RX3 19 "CausalTable" "history" "LCausalTable$History;", Cond.fieldLink RX3 10 "CausalTable" "state" "LCausalTable$State;", Cond.methodLink RX3 30 yX3_checkReplica, Cond.static yX3_checkReplica, Cond.initialized RX3, Cond.code yX3_checkReplica cX3_checkReplica 1 none, Cond.classLink RX3 37 "java/lang/IndexOutOfBoundsException", Cond.initialized "java/lang/IndexOutOfBoundsException", Cond.methodLink RX3 34 yX3_checkRow, Cond.static yX3_checkRow, Cond.code yX3_checkRow cX3_checkRow 1 none, Cond.methodLink RX3 67 yX3_checkElement, Cond.static yX3_checkElement, Cond.code yX3_checkElement cX3_checkElement 1 none, Cond.classLink RX3 44 "java/lang/IllegalArgumentException", Cond.initialized "java/lang/IllegalArgumentException", Cond.methodLink RX3 49 yX0_save, Cond.instanceMethod yX0_save, Cond.selects RX0 yX0_save yX0_save, Cond.initialized RX0, Cond.code yX0_save cX0_save 4 none, Cond.fieldLink RX0 21 "CausalTable$History" "size" "I", Cond.fieldLink RX0 17 "CausalTable$History" "oldest" "I", Cond.fieldLink RX0 11 "CausalTable$History" "ring" "[LCausalTable$State;"]
def wsX3_include_r2 : List Cond := [Cond.classLink RX0 9 RX1, Cond.instantiable RX1 6, Cond.initialized RX1, Cond.instanceMethod yX1_init, Cond.code yX1_init cX1_init 1 none, Cond.methodLink RX1 5 objectInit, Cond.instanceMethod objectInit, Cond.code objectInit ⟨#[0xb1]⟩ 1 none, Cond.arrayClass .int, Cond.fieldLink RX1 11 "CausalTable$State" "numbers" "[I", Cond.fieldLink RX1 15 "CausalTable$State" "stamps" "[I", Cond.fieldLink RX1 18 "CausalTable$State" "values" "[I", Cond.fieldLink RX1 21 "CausalTable$State" "seenNumbers" "[I", Cond.fieldLink RX1 24 "CausalTable$State" "clocks" "[I", Cond.fieldLink RX1 27 "CausalTable$State" "mergeResult" "[I", Cond.methodLink RX0 25 yX1_copyFrom, Cond.instanceMethod yX1_copyFrom, Cond.selects RX1 yX1_copyFrom yX1_copyFrom, Cond.code yX1_copyFrom cX1_copyFrom 2 none, Cond.methodLink RX1 30 arraycopyName, Cond.native arraycopyName, Cond.static arraycopyName, Cond.initialized "java/lang/System", Cond.methodLink RX3 70 yX1_includeElement]
def wsX3_include_r3 : List Cond := [Cond.instanceMethod yX1_includeElement, Cond.selects RX1 yX1_includeElement yX1_includeElement, Cond.code yX1_includeElement cX1_includeElement 5 (some .int), Cond.methodLink RX1 50 yX1_beginUpdate, Cond.instanceMethod yX1_beginUpdate, Cond.selects RX1 yX1_beginUpdate yX1_beginUpdate, Cond.code yX1_beginUpdate cX1_beginUpdate 2 none, Cond.methodLink RX1 69 yX1_groupOfElement, Cond.static yX1_groupOfElement, Cond.code yX1_groupOfElement cX1_groupOfElement 1 (some .int), Cond.methodLink RX1 62 yX1_removeGroup, Cond.instanceMethod yX1_removeGroup, Cond.selects RX1 yX1_removeGroup yX1_removeGroup, Cond.code yX1_removeGroup cX1_removeGroup 4 (some .int), Cond.methodLink RX1 36 yX1_slotOf, Cond.static yX1_slotOf, Cond.code yX1_slotOf cX1_slotOf 3 (some .int), Cond.methodLink RX1 44 yX1_removeEntries, Cond.instanceMethod yX1_removeEntries, Cond.selects RX1 yX1_removeEntries yX1_removeEntries, Cond.code yX1_removeEntries cX1_removeEntries 5 (some .int), Cond.methodLink RX1 40 yX1_countEntries, Cond.instanceMethod yX1_countEntries, Cond.selects RX1 yX1_countEntries yX1_countEntries]
def wsX3_include_r4 : List Cond := [Cond.code yX1_countEntries cX1_countEntries 5 (some .int), Cond.methodLink RX1 65 yX1_makeEntry, Cond.instanceMethod yX1_makeEntry, Cond.selects RX1 yX1_makeEntry yX1_makeEntry, Cond.code yX1_makeEntry cX1_makeEntry 6 none, Cond.methodLink RX1 47 yX1_seenNumber, Cond.instanceMethod yX1_seenNumber, Cond.selects RX1 yX1_seenNumber yX1_seenNumber, Cond.code yX1_seenNumber cX1_seenNumber 3 (some .int)]
def wsX3_include : List Cond := .code yX3_include cX3_include 4 (some .int) :: ((wsX3_include_r1 ++ (wsX3_include_r2 ++ (wsX3_include_r3 ++ wsX3_include_r4))) ++ wsX30 ++ wsX00 ++ wsX10 ++ (vx_atS RX3 41 "java/lang/IndexOutOfBoundsException" ["java/lang/RuntimeException", "java/lang/Exception"]).filter goodWord ++ (vx_atS RX3 48 "java/lang/IllegalArgumentException" ["java/lang/RuntimeException", "java/lang/Exception"]).filter goodWord)
def wsX3_exclude_r1 : List Cond := [Cond.fieldLink RX3 19 "CausalTable" "history" "LCausalTable$History;", Cond.fieldLink RX3 10 "CausalTable" "state" "LCausalTable$State;", Cond.methodLink RX3 30 yX3_checkReplica, Cond.static yX3_checkReplica, Cond.initialized RX3, Cond.code yX3_checkReplica cX3_checkReplica 1 none, Cond.classLink RX3 37 "java/lang/IndexOutOfBoundsException", Cond.initialized "java/lang/IndexOutOfBoundsException", Cond.methodLink RX3 34 yX3_checkRow, Cond.static yX3_checkRow, Cond.code yX3_checkRow cX3_checkRow 1 none, Cond.methodLink RX3 67 yX3_checkElement, Cond.static yX3_checkElement, Cond.code yX3_checkElement cX3_checkElement 1 none, Cond.classLink RX3 44 "java/lang/IllegalArgumentException", Cond.initialized "java/lang/IllegalArgumentException", Cond.methodLink RX3 49 yX0_save, Cond.instanceMethod yX0_save, Cond.selects RX0 yX0_save yX0_save, Cond.initialized RX0, Cond.code yX0_save cX0_save 4 none, Cond.fieldLink RX0 21 "CausalTable$History" "size" "I", Cond.fieldLink RX0 17 "CausalTable$History" "oldest" "I", Cond.fieldLink RX0 11 "CausalTable$History" "ring" "[LCausalTable$State;"]
def wsX3_exclude_r2 : List Cond := [Cond.classLink RX0 9 RX1, Cond.instantiable RX1 6, Cond.initialized RX1, Cond.instanceMethod yX1_init, Cond.code yX1_init cX1_init 1 none, Cond.methodLink RX1 5 objectInit, Cond.instanceMethod objectInit, Cond.code objectInit ⟨#[0xb1]⟩ 1 none, Cond.arrayClass .int, Cond.fieldLink RX1 11 "CausalTable$State" "numbers" "[I", Cond.fieldLink RX1 15 "CausalTable$State" "stamps" "[I", Cond.fieldLink RX1 18 "CausalTable$State" "values" "[I", Cond.fieldLink RX1 21 "CausalTable$State" "seenNumbers" "[I", Cond.fieldLink RX1 24 "CausalTable$State" "clocks" "[I", Cond.fieldLink RX1 27 "CausalTable$State" "mergeResult" "[I", Cond.methodLink RX0 25 yX1_copyFrom, Cond.instanceMethod yX1_copyFrom, Cond.selects RX1 yX1_copyFrom yX1_copyFrom, Cond.code yX1_copyFrom cX1_copyFrom 2 none, Cond.methodLink RX1 30 arraycopyName, Cond.native arraycopyName, Cond.static arraycopyName, Cond.initialized "java/lang/System", Cond.methodLink RX3 73 yX1_excludeElement]
def wsX3_exclude_r3 : List Cond := [Cond.instanceMethod yX1_excludeElement, Cond.selects RX1 yX1_excludeElement yX1_excludeElement, Cond.code yX1_excludeElement cX1_excludeElement 4 (some .int), Cond.methodLink RX1 50 yX1_beginUpdate, Cond.instanceMethod yX1_beginUpdate, Cond.selects RX1 yX1_beginUpdate yX1_beginUpdate, Cond.code yX1_beginUpdate cX1_beginUpdate 2 none, Cond.methodLink RX1 69 yX1_groupOfElement, Cond.static yX1_groupOfElement, Cond.code yX1_groupOfElement cX1_groupOfElement 1 (some .int), Cond.methodLink RX1 62 yX1_removeGroup, Cond.instanceMethod yX1_removeGroup, Cond.selects RX1 yX1_removeGroup yX1_removeGroup, Cond.code yX1_removeGroup cX1_removeGroup 4 (some .int), Cond.methodLink RX1 36 yX1_slotOf, Cond.static yX1_slotOf, Cond.code yX1_slotOf cX1_slotOf 3 (some .int), Cond.methodLink RX1 44 yX1_removeEntries, Cond.instanceMethod yX1_removeEntries, Cond.selects RX1 yX1_removeEntries yX1_removeEntries, Cond.code yX1_removeEntries cX1_removeEntries 5 (some .int), Cond.methodLink RX1 40 yX1_countEntries, Cond.instanceMethod yX1_countEntries, Cond.selects RX1 yX1_countEntries yX1_countEntries]
def wsX3_exclude_r4 : List Cond := [Cond.code yX1_countEntries cX1_countEntries 5 (some .int)]
def wsX3_exclude : List Cond := .code yX3_exclude cX3_exclude 4 (some .int) :: ((wsX3_exclude_r1 ++ (wsX3_exclude_r2 ++ (wsX3_exclude_r3 ++ wsX3_exclude_r4))) ++ wsX30 ++ wsX00 ++ wsX10 ++ (vx_atS RX3 41 "java/lang/IndexOutOfBoundsException" ["java/lang/RuntimeException", "java/lang/Exception"]).filter goodWord ++ (vx_atS RX3 48 "java/lang/IllegalArgumentException" ["java/lang/RuntimeException", "java/lang/Exception"]).filter goodWord)
def wsX3_delete_r1 : List Cond := [Cond.fieldLink RX3 19 "CausalTable" "history" "LCausalTable$History;", Cond.fieldLink RX3 10 "CausalTable" "state" "LCausalTable$State;", Cond.methodLink RX3 30 yX3_checkReplica, Cond.static yX3_checkReplica, Cond.initialized RX3, Cond.code yX3_checkReplica cX3_checkReplica 1 none, Cond.classLink RX3 37 "java/lang/IndexOutOfBoundsException", Cond.initialized "java/lang/IndexOutOfBoundsException", Cond.methodLink RX3 34 yX3_checkRow, Cond.static yX3_checkRow, Cond.code yX3_checkRow cX3_checkRow 1 none, Cond.methodLink RX3 49 yX0_save, Cond.instanceMethod yX0_save, Cond.selects RX0 yX0_save yX0_save, Cond.initialized RX0, Cond.code yX0_save cX0_save 4 none, Cond.fieldLink RX0 21 "CausalTable$History" "size" "I", Cond.fieldLink RX0 17 "CausalTable$History" "oldest" "I", Cond.fieldLink RX0 11 "CausalTable$History" "ring" "[LCausalTable$State;", Cond.classLink RX0 9 RX1, Cond.instantiable RX1 6, Cond.initialized RX1, Cond.instanceMethod yX1_init, Cond.code yX1_init cX1_init 1 none]
def wsX3_delete_r2 : List Cond := [Cond.methodLink RX1 5 objectInit, Cond.instanceMethod objectInit, Cond.code objectInit ⟨#[0xb1]⟩ 1 none, Cond.arrayClass .int, Cond.fieldLink RX1 11 "CausalTable$State" "numbers" "[I", Cond.fieldLink RX1 15 "CausalTable$State" "stamps" "[I", Cond.fieldLink RX1 18 "CausalTable$State" "values" "[I", Cond.fieldLink RX1 21 "CausalTable$State" "seenNumbers" "[I", Cond.fieldLink RX1 24 "CausalTable$State" "clocks" "[I", Cond.fieldLink RX1 27 "CausalTable$State" "mergeResult" "[I", Cond.methodLink RX0 25 yX1_copyFrom, Cond.instanceMethod yX1_copyFrom, Cond.selects RX1 yX1_copyFrom yX1_copyFrom, Cond.code yX1_copyFrom cX1_copyFrom 2 none, Cond.methodLink RX1 30 arraycopyName, Cond.native arraycopyName, Cond.static arraycopyName, Cond.initialized "java/lang/System", Cond.methodLink RX3 76 yX1_deleteRow, Cond.instanceMethod yX1_deleteRow, Cond.selects RX1 yX1_deleteRow yX1_deleteRow, Cond.code yX1_deleteRow cX1_deleteRow 3 (some .int), Cond.methodLink RX1 50 yX1_beginUpdate, Cond.instanceMethod yX1_beginUpdate]
def wsX3_delete_r3 : List Cond := [Cond.selects RX1 yX1_beginUpdate yX1_beginUpdate, Cond.code yX1_beginUpdate cX1_beginUpdate 2 none, Cond.methodLink RX1 36 yX1_slotOf, Cond.static yX1_slotOf, Cond.code yX1_slotOf cX1_slotOf 3 (some .int), Cond.methodLink RX1 44 yX1_removeEntries, Cond.instanceMethod yX1_removeEntries, Cond.selects RX1 yX1_removeEntries yX1_removeEntries, Cond.code yX1_removeEntries cX1_removeEntries 5 (some .int), Cond.methodLink RX1 40 yX1_countEntries, Cond.instanceMethod yX1_countEntries, Cond.selects RX1 yX1_countEntries yX1_countEntries, Cond.code yX1_countEntries cX1_countEntries 5 (some .int)]
def wsX3_delete : List Cond := .code yX3_delete cX3_delete 3 (some .int) :: ((wsX3_delete_r1 ++ (wsX3_delete_r2 ++ wsX3_delete_r3)) ++ wsX30 ++ wsX00 ++ wsX10 ++ (vx_atS RX3 41 "java/lang/IndexOutOfBoundsException" ["java/lang/RuntimeException", "java/lang/Exception"]).filter goodWord)
def wsX3_checkDifferent : List Cond := .code yX3_checkDifferent cX3_checkDifferent 2 none :: ([.classLink RX3 44 "java/lang/IllegalArgumentException", .initialized "java/lang/IllegalArgumentException"] ++ (vx_atS RX3 48 "java/lang/IllegalArgumentException" ["java/lang/RuntimeException", "java/lang/Exception"]).filter goodWord)
def wsX3_merge_r1 : List Cond := [Cond.fieldLink RX3 19 "CausalTable" "history" "LCausalTable$History;", Cond.fieldLink RX3 10 "CausalTable" "state" "LCausalTable$State;", Cond.methodLink RX3 30 yX3_checkReplica, Cond.static yX3_checkReplica, Cond.initialized RX3, Cond.code yX3_checkReplica cX3_checkReplica 1 none, Cond.classLink RX3 37 "java/lang/IndexOutOfBoundsException", Cond.initialized "java/lang/IndexOutOfBoundsException", Cond.methodLink RX3 80 yX3_checkDifferent, Cond.static yX3_checkDifferent, Cond.code yX3_checkDifferent cX3_checkDifferent 2 none, Cond.classLink RX3 44 "java/lang/IllegalArgumentException", Cond.initialized "java/lang/IllegalArgumentException", Cond.methodLink RX3 49 yX0_save, Cond.instanceMethod yX0_save, Cond.selects RX0 yX0_save yX0_save, Cond.initialized RX0, Cond.code yX0_save cX0_save 4 none, Cond.fieldLink RX0 21 "CausalTable$History" "size" "I", Cond.fieldLink RX0 17 "CausalTable$History" "oldest" "I", Cond.fieldLink RX0 11 "CausalTable$History" "ring" "[LCausalTable$State;", Cond.classLink RX0 9 RX1, Cond.instantiable RX1 6, Cond.initialized RX1]
def wsX3_merge_r2 : List Cond := [Cond.instanceMethod yX1_init, Cond.code yX1_init cX1_init 1 none, Cond.methodLink RX1 5 objectInit, Cond.instanceMethod objectInit, Cond.code objectInit ⟨#[0xb1]⟩ 1 none, Cond.arrayClass .int, Cond.fieldLink RX1 11 "CausalTable$State" "numbers" "[I", Cond.fieldLink RX1 15 "CausalTable$State" "stamps" "[I", Cond.fieldLink RX1 18 "CausalTable$State" "values" "[I", Cond.fieldLink RX1 21 "CausalTable$State" "seenNumbers" "[I", Cond.fieldLink RX1 24 "CausalTable$State" "clocks" "[I", Cond.fieldLink RX1 27 "CausalTable$State" "mergeResult" "[I", Cond.methodLink RX0 25 yX1_copyFrom, Cond.instanceMethod yX1_copyFrom, Cond.selects RX1 yX1_copyFrom yX1_copyFrom, Cond.code yX1_copyFrom cX1_copyFrom 2 none, Cond.methodLink RX1 30 arraycopyName, Cond.native arraycopyName, Cond.static arraycopyName, Cond.initialized "java/lang/System", Cond.methodLink RX3 84 yX1_mergeReplica, Cond.instanceMethod yX1_mergeReplica, Cond.selects RX1 yX1_mergeReplica yX1_mergeReplica, Cond.code yX1_mergeReplica cX1_mergeReplica 6 (some .int)]
def wsX3_merge_r3 : List Cond := [Cond.methodLink RX1 73 yX1_countAdded, Cond.instanceMethod yX1_countAdded, Cond.selects RX1 yX1_countAdded yX1_countAdded, Cond.code yX1_countAdded cX1_countAdded 5 (some .int), Cond.methodLink RX1 87 yX1_isAdded, Cond.instanceMethod yX1_isAdded, Cond.selects RX1 yX1_isAdded yX1_isAdded, Cond.code yX1_isAdded cX1_isAdded 5 (some .boolean), Cond.methodLink RX1 47 yX1_seenNumber, Cond.instanceMethod yX1_seenNumber, Cond.selects RX1 yX1_seenNumber yX1_seenNumber, Cond.code yX1_seenNumber cX1_seenNumber 3 (some .int), Cond.methodLink RX1 76 yX1_countRemoved, Cond.instanceMethod yX1_countRemoved, Cond.selects RX1 yX1_countRemoved yX1_countRemoved, Cond.code yX1_countRemoved cX1_countRemoved 5 (some .int), Cond.methodLink RX1 91 yX1_isRemoved, Cond.instanceMethod yX1_isRemoved, Cond.selects RX1 yX1_isRemoved yX1_isRemoved, Cond.code yX1_isRemoved cX1_isRemoved 5 (some .boolean), Cond.methodLink RX1 79 yX1_mergeSlot, Cond.instanceMethod yX1_mergeSlot, Cond.selects RX1 yX1_mergeSlot yX1_mergeSlot, Cond.code yX1_mergeSlot cX1_mergeSlot 6 none]
def wsX3_merge_r4 : List Cond := [Cond.methodLink RX1 83 yX1_mergeKnowledge, Cond.instanceMethod yX1_mergeKnowledge, Cond.selects RX1 yX1_mergeKnowledge yX1_mergeKnowledge, Cond.code yX1_mergeKnowledge cX1_mergeKnowledge 4 none, Cond.methodLink RX1 57 Lib.Math.max.name, Cond.static Lib.Math.max.name, Cond.initialized "java/lang/Math", Cond.code Lib.Math.max.name Lib.Math.max.code 2 (some .int)]
def wsX3_merge : List Cond := .code yX3_merge cX3_merge 3 (some .int) :: ((wsX3_merge_r1 ++ (wsX3_merge_r2 ++ (wsX3_merge_r3 ++ wsX3_merge_r4))) ++ wsX30 ++ wsX00 ++ wsX10 ++ (vx_atS RX3 41 "java/lang/IndexOutOfBoundsException" ["java/lang/RuntimeException", "java/lang/Exception"]).filter goodWord ++ (vx_atS RX3 48 "java/lang/IllegalArgumentException" ["java/lang/RuntimeException", "java/lang/Exception"]).filter goodWord)
def wsX3_mergeAll_r1 : List Cond := [Cond.fieldLink RX3 19 "CausalTable" "history" "LCausalTable$History;", Cond.fieldLink RX3 10 "CausalTable" "state" "LCausalTable$State;", Cond.methodLink RX3 49 yX0_save, Cond.instanceMethod yX0_save, Cond.selects RX0 yX0_save yX0_save, Cond.initialized RX0, Cond.code yX0_save cX0_save 4 none, Cond.fieldLink RX0 21 "CausalTable$History" "size" "I", Cond.fieldLink RX0 17 "CausalTable$History" "oldest" "I", Cond.fieldLink RX0 11 "CausalTable$History" "ring" "[LCausalTable$State;", Cond.classLink RX0 9 RX1, Cond.instantiable RX1 6, Cond.initialized RX1, Cond.instanceMethod yX1_init, Cond.code yX1_init cX1_init 1 none, Cond.methodLink RX1 5 objectInit, Cond.instanceMethod objectInit, Cond.code objectInit ⟨#[0xb1]⟩ 1 none, Cond.arrayClass .int, Cond.fieldLink RX1 11 "CausalTable$State" "numbers" "[I", Cond.fieldLink RX1 15 "CausalTable$State" "stamps" "[I", Cond.fieldLink RX1 18 "CausalTable$State" "values" "[I", Cond.fieldLink RX1 21 "CausalTable$State" "seenNumbers" "[I", Cond.fieldLink RX1 24 "CausalTable$State" "clocks" "[I"]
def wsX3_mergeAll_r2 : List Cond := [Cond.fieldLink RX1 27 "CausalTable$State" "mergeResult" "[I", Cond.methodLink RX0 25 yX1_copyFrom, Cond.instanceMethod yX1_copyFrom, Cond.selects RX1 yX1_copyFrom yX1_copyFrom, Cond.code yX1_copyFrom cX1_copyFrom 2 none, Cond.methodLink RX1 30 arraycopyName, Cond.native arraycopyName, Cond.static arraycopyName, Cond.initialized "java/lang/System", Cond.methodLink RX3 84 yX1_mergeReplica, Cond.instanceMethod yX1_mergeReplica, Cond.selects RX1 yX1_mergeReplica yX1_mergeReplica, Cond.code yX1_mergeReplica cX1_mergeReplica 6 (some .int), Cond.methodLink RX1 73 yX1_countAdded, Cond.instanceMethod yX1_countAdded, Cond.selects RX1 yX1_countAdded yX1_countAdded, Cond.code yX1_countAdded cX1_countAdded 5 (some .int), Cond.methodLink RX1 87 yX1_isAdded, Cond.instanceMethod yX1_isAdded, Cond.selects RX1 yX1_isAdded yX1_isAdded, Cond.code yX1_isAdded cX1_isAdded 5 (some .boolean), Cond.methodLink RX1 47 yX1_seenNumber, Cond.instanceMethod yX1_seenNumber, Cond.selects RX1 yX1_seenNumber yX1_seenNumber]
def wsX3_mergeAll_r3 : List Cond := [Cond.code yX1_seenNumber cX1_seenNumber 3 (some .int), Cond.methodLink RX1 76 yX1_countRemoved, Cond.instanceMethod yX1_countRemoved, Cond.selects RX1 yX1_countRemoved yX1_countRemoved, Cond.code yX1_countRemoved cX1_countRemoved 5 (some .int), Cond.methodLink RX1 91 yX1_isRemoved, Cond.instanceMethod yX1_isRemoved, Cond.selects RX1 yX1_isRemoved yX1_isRemoved, Cond.code yX1_isRemoved cX1_isRemoved 5 (some .boolean), Cond.methodLink RX1 79 yX1_mergeSlot, Cond.instanceMethod yX1_mergeSlot, Cond.selects RX1 yX1_mergeSlot yX1_mergeSlot, Cond.code yX1_mergeSlot cX1_mergeSlot 6 none, Cond.methodLink RX1 83 yX1_mergeKnowledge, Cond.instanceMethod yX1_mergeKnowledge, Cond.selects RX1 yX1_mergeKnowledge yX1_mergeKnowledge, Cond.code yX1_mergeKnowledge cX1_mergeKnowledge 4 none, Cond.methodLink RX1 57 Lib.Math.max.name, Cond.static Lib.Math.max.name, Cond.initialized "java/lang/Math", Cond.code Lib.Math.max.name Lib.Math.max.code 2 (some .int)]
def wsX3_mergeAll : List Cond := .code yX3_mergeAll cX3_mergeAll 3 (some .int) :: ((wsX3_mergeAll_r1 ++ (wsX3_mergeAll_r2 ++ wsX3_mergeAll_r3)) ++ wsX30 ++ wsX00 ++ wsX10)
def wsX3_undo_r1 : List Cond := [Cond.classLink RX3 93 "java/lang/IllegalStateException", Cond.initialized "java/lang/IllegalStateException", Cond.fieldLink RX3 19 "CausalTable" "history" "LCausalTable$History;", Cond.fieldLink RX3 10 "CausalTable" "state" "LCausalTable$State;", Cond.methodLink RX3 123 yX0_restore, Cond.instanceMethod yX0_restore, Cond.selects RX0 yX0_restore yX0_restore, Cond.initialized RX0, Cond.code yX0_restore cX0_restore 3 none, Cond.fieldLink RX0 21 "CausalTable$History" "size" "I", Cond.fieldLink RX0 11 "CausalTable$History" "ring" "[LCausalTable$State;", Cond.fieldLink RX0 17 "CausalTable$History" "oldest" "I", Cond.methodLink RX0 25 yX1_copyFrom, Cond.instanceMethod yX1_copyFrom, Cond.selects RX1 yX1_copyFrom yX1_copyFrom, Cond.initialized RX1, Cond.code yX1_copyFrom cX1_copyFrom 2 none, Cond.fieldLink RX1 11 "CausalTable$State" "numbers" "[I", Cond.methodLink RX1 30 arraycopyName, Cond.native arraycopyName, Cond.static arraycopyName, Cond.initialized "java/lang/System", Cond.fieldLink RX1 15 "CausalTable$State" "stamps" "[I", Cond.fieldLink RX1 18 "CausalTable$State" "values" "[I"]
def wsX3_undo_r2 : List Cond := [Cond.fieldLink RX1 21 "CausalTable$State" "seenNumbers" "[I", Cond.fieldLink RX1 24 "CausalTable$State" "clocks" "[I", Cond.fieldLink RX1 27 "CausalTable$State" "mergeResult" "[I"]
def wsX3_undo : List Cond := .code yX3_undo cX3_undo 1 (some .int) :: ((wsX3_undo_r1 ++ wsX3_undo_r2) ++ wsX30 ++ wsX00 ++ wsX10 ++ (vx_atS RX3 97 "java/lang/IllegalStateException" ["java/lang/RuntimeException", "java/lang/Exception"]).filter goodWord)
def wsX3_latest_r1 : List Cond := [Cond.fieldLink RX3 10 "CausalTable" "state" "LCausalTable$State;", Cond.methodLink RX3 30 yX3_checkReplica, Cond.static yX3_checkReplica, Cond.initialized RX3, Cond.code yX3_checkReplica cX3_checkReplica 1 none, Cond.classLink RX3 37 "java/lang/IndexOutOfBoundsException", Cond.initialized "java/lang/IndexOutOfBoundsException", Cond.methodLink RX3 34 yX3_checkRow, Cond.static yX3_checkRow, Cond.code yX3_checkRow cX3_checkRow 1 none, Cond.methodLink RX3 126 yX1_latestValue, Cond.instanceMethod yX1_latestValue, Cond.selects RX1 yX1_latestValue yX1_latestValue, Cond.initialized RX1, Cond.code yX1_latestValue cX1_latestValue 8 (some .int), Cond.fieldLink RX1 11 "CausalTable$State" "numbers" "[I", Cond.fieldLink RX1 15 "CausalTable$State" "stamps" "[I", Cond.fieldLink RX1 18 "CausalTable$State" "values" "[I", Cond.methodLink RX1 94 yX1_cellStart, Cond.static yX1_cellStart, Cond.code yX1_cellStart cX1_cellStart 3 (some .int), Cond.methodLink RX1 36 yX1_slotOf, Cond.static yX1_slotOf, Cond.code yX1_slotOf cX1_slotOf 3 (some .int)]
def wsX3_latest_r2 : List Cond := [Cond.methodLink RX1 97 yX1_cellEnd, Cond.static yX1_cellEnd, Cond.code yX1_cellEnd cX1_cellEnd 3 (some .int)]
def wsX3_latest : List Cond := .code yX3_latest cX3_latest 3 (some .int) :: ((wsX3_latest_r1 ++ wsX3_latest_r2) ++ wsX30 ++ wsX10 ++ (vx_atS RX3 41 "java/lang/IndexOutOfBoundsException" ["java/lang/RuntimeException", "java/lang/Exception"]).filter goodWord)
def wsX3_sibling_r1 : List Cond := [Cond.classLink RX3 37 "java/lang/IndexOutOfBoundsException", Cond.initialized "java/lang/IndexOutOfBoundsException", Cond.fieldLink RX3 10 "CausalTable" "state" "LCausalTable$State;", Cond.methodLink RX3 30 yX3_checkReplica, Cond.static yX3_checkReplica, Cond.initialized RX3, Cond.code yX3_checkReplica cX3_checkReplica 1 none, Cond.methodLink RX3 34 yX3_checkRow, Cond.static yX3_checkRow, Cond.code yX3_checkRow cX3_checkRow 1 none, Cond.methodLink RX3 131 yX1_siblingAt, Cond.instanceMethod yX1_siblingAt, Cond.selects RX1 yX1_siblingAt yX1_siblingAt, Cond.initialized RX1, Cond.code yX1_siblingAt cX1_siblingAt 7 (some .int), Cond.fieldLink RX1 11 "CausalTable$State" "numbers" "[I", Cond.fieldLink RX1 18 "CausalTable$State" "values" "[I", Cond.methodLink RX1 94 yX1_cellStart, Cond.static yX1_cellStart, Cond.code yX1_cellStart cX1_cellStart 3 (some .int), Cond.methodLink RX1 36 yX1_slotOf, Cond.static yX1_slotOf, Cond.code yX1_slotOf cX1_slotOf 3 (some .int), Cond.methodLink RX1 97 yX1_cellEnd]
def wsX3_sibling_r2 : List Cond := [Cond.static yX1_cellEnd, Cond.code yX1_cellEnd cX1_cellEnd 3 (some .int), Cond.methodLink RX1 100 yX1_rankInCell, Cond.instanceMethod yX1_rankInCell, Cond.selects RX1 yX1_rankInCell yX1_rankInCell, Cond.code yX1_rankInCell cX1_rankInCell 7 (some .int)]
def wsX3_sibling : List Cond := .code yX3_sibling cX3_sibling 4 (some .int) :: ((wsX3_sibling_r1 ++ wsX3_sibling_r2) ++ wsX30 ++ wsX10 ++ (vx_atS RX3 41 "java/lang/IndexOutOfBoundsException" ["java/lang/RuntimeException", "java/lang/Exception"]).filter goodWord)
def wsX3_greatest_r1 : List Cond := [Cond.fieldLink RX3 10 "CausalTable" "state" "LCausalTable$State;", Cond.methodLink RX3 30 yX3_checkReplica, Cond.static yX3_checkReplica, Cond.initialized RX3, Cond.code yX3_checkReplica cX3_checkReplica 1 none, Cond.classLink RX3 37 "java/lang/IndexOutOfBoundsException", Cond.initialized "java/lang/IndexOutOfBoundsException", Cond.methodLink RX3 34 yX3_checkRow, Cond.static yX3_checkRow, Cond.code yX3_checkRow cX3_checkRow 1 none, Cond.methodLink RX3 134 yX1_greatestValue, Cond.instanceMethod yX1_greatestValue, Cond.selects RX1 yX1_greatestValue yX1_greatestValue, Cond.initialized RX1, Cond.code yX1_greatestValue cX1_greatestValue 6 (some .int), Cond.fieldLink RX1 11 "CausalTable$State" "numbers" "[I", Cond.fieldLink RX1 18 "CausalTable$State" "values" "[I", Cond.methodLink RX1 57 Lib.Math.max.name, Cond.static Lib.Math.max.name, Cond.initialized "java/lang/Math", Cond.code Lib.Math.max.name Lib.Math.max.code 2 (some .int), Cond.methodLink RX1 97 yX1_cellEnd, Cond.static yX1_cellEnd, Cond.code yX1_cellEnd cX1_cellEnd 3 (some .int)]
def wsX3_greatest_r2 : List Cond := [Cond.methodLink RX1 36 yX1_slotOf, Cond.static yX1_slotOf, Cond.code yX1_slotOf cX1_slotOf 3 (some .int), Cond.methodLink RX1 94 yX1_cellStart, Cond.static yX1_cellStart, Cond.code yX1_cellStart cX1_cellStart 3 (some .int)]
def wsX3_greatest : List Cond := .code yX3_greatest cX3_greatest 3 (some .int) :: ((wsX3_greatest_r1 ++ wsX3_greatest_r2) ++ wsX30 ++ wsX10 ++ (vx_atS RX3 41 "java/lang/IndexOutOfBoundsException" ["java/lang/RuntimeException", "java/lang/Exception"]).filter goodWord)
def wsX3_counter_r1 : List Cond := [Cond.fieldLink RX3 10 "CausalTable" "state" "LCausalTable$State;", Cond.methodLink RX3 30 yX3_checkReplica, Cond.static yX3_checkReplica, Cond.initialized RX3, Cond.code yX3_checkReplica cX3_checkReplica 1 none, Cond.classLink RX3 37 "java/lang/IndexOutOfBoundsException", Cond.initialized "java/lang/IndexOutOfBoundsException", Cond.methodLink RX3 34 yX3_checkRow, Cond.static yX3_checkRow, Cond.code yX3_checkRow cX3_checkRow 1 none, Cond.methodLink RX3 63 yX1_sumOfCell, Cond.instanceMethod yX1_sumOfCell, Cond.selects RX1 yX1_sumOfCell yX1_sumOfCell, Cond.initialized RX1, Cond.code yX1_sumOfCell cX1_sumOfCell 7 (some .int), Cond.fieldLink RX1 11 "CausalTable$State" "numbers" "[I", Cond.fieldLink RX1 18 "CausalTable$State" "values" "[I", Cond.methodLink RX1 97 yX1_cellEnd, Cond.static yX1_cellEnd, Cond.code yX1_cellEnd cX1_cellEnd 3 (some .int), Cond.methodLink RX1 36 yX1_slotOf, Cond.static yX1_slotOf, Cond.code yX1_slotOf cX1_slotOf 3 (some .int), Cond.methodLink RX1 94 yX1_cellStart]
def wsX3_counter_r2 : List Cond := [Cond.static yX1_cellStart, Cond.code yX1_cellStart cX1_cellStart 3 (some .int)]
def wsX3_counter : List Cond := .code yX3_counter cX3_counter 3 (some .int) :: ((wsX3_counter_r1 ++ wsX3_counter_r2) ++ wsX30 ++ wsX10 ++ (vx_atS RX3 41 "java/lang/IndexOutOfBoundsException" ["java/lang/RuntimeException", "java/lang/Exception"]).filter goodWord)
def wsX3_elements_r1 : List Cond := [Cond.fieldLink RX3 10 "CausalTable" "state" "LCausalTable$State;", Cond.methodLink RX3 30 yX3_checkReplica, Cond.static yX3_checkReplica, Cond.initialized RX3, Cond.code yX3_checkReplica cX3_checkReplica 1 none, Cond.classLink RX3 37 "java/lang/IndexOutOfBoundsException", Cond.initialized "java/lang/IndexOutOfBoundsException", Cond.methodLink RX3 34 yX3_checkRow, Cond.static yX3_checkRow, Cond.code yX3_checkRow cX3_checkRow 1 none, Cond.methodLink RX3 137 yX1_elementBits, Cond.instanceMethod yX1_elementBits, Cond.selects RX1 yX1_elementBits yX1_elementBits, Cond.initialized RX1, Cond.code yX1_elementBits cX1_elementBits 6 (some .int), Cond.fieldLink RX1 11 "CausalTable$State" "numbers" "[I", Cond.fieldLink RX1 18 "CausalTable$State" "values" "[I", Cond.methodLink RX1 97 yX1_cellEnd, Cond.static yX1_cellEnd, Cond.code yX1_cellEnd cX1_cellEnd 3 (some .int), Cond.methodLink RX1 36 yX1_slotOf, Cond.static yX1_slotOf, Cond.code yX1_slotOf cX1_slotOf 3 (some .int), Cond.methodLink RX1 94 yX1_cellStart]
def wsX3_elements_r2 : List Cond := [Cond.static yX1_cellStart, Cond.code yX1_cellStart cX1_cellStart 3 (some .int)]
def wsX3_elements : List Cond := .code yX3_elements cX3_elements 3 (some .int) :: ((wsX3_elements_r1 ++ wsX3_elements_r2) ++ wsX30 ++ wsX10 ++ (vx_atS RX3 41 "java/lang/IndexOutOfBoundsException" ["java/lang/RuntimeException", "java/lang/Exception"]).filter goodWord)
def wsX3_entries_r1 : List Cond := [Cond.classLink RX3 37 "java/lang/IndexOutOfBoundsException", Cond.initialized "java/lang/IndexOutOfBoundsException", Cond.fieldLink RX3 10 "CausalTable" "state" "LCausalTable$State;", Cond.methodLink RX3 30 yX3_checkReplica, Cond.static yX3_checkReplica, Cond.initialized RX3, Cond.code yX3_checkReplica cX3_checkReplica 1 none, Cond.methodLink RX3 34 yX3_checkRow, Cond.static yX3_checkRow, Cond.code yX3_checkRow cX3_checkRow 1 none, Cond.methodLink RX3 142 yX1_countInCell, Cond.instanceMethod yX1_countInCell, Cond.selects RX1 yX1_countInCell yX1_countInCell, Cond.initialized RX1, Cond.code yX1_countInCell cX1_countInCell 4 (some .int), Cond.methodLink RX1 94 yX1_cellStart, Cond.static yX1_cellStart, Cond.code yX1_cellStart cX1_cellStart 3 (some .int), Cond.methodLink RX1 36 yX1_slotOf, Cond.static yX1_slotOf, Cond.code yX1_slotOf cX1_slotOf 3 (some .int), Cond.methodLink RX1 97 yX1_cellEnd, Cond.static yX1_cellEnd, Cond.code yX1_cellEnd cX1_cellEnd 3 (some .int)]
def wsX3_entries_r2 : List Cond := [Cond.methodLink RX1 40 yX1_countEntries, Cond.instanceMethod yX1_countEntries, Cond.selects RX1 yX1_countEntries yX1_countEntries, Cond.code yX1_countEntries cX1_countEntries 5 (some .int), Cond.fieldLink RX1 11 "CausalTable$State" "numbers" "[I"]
def wsX3_entries : List Cond := .code yX3_entries cX3_entries 4 (some .int) :: ((wsX3_entries_r1 ++ wsX3_entries_r2) ++ wsX30 ++ wsX10 ++ (vx_atS RX3 41 "java/lang/IndexOutOfBoundsException" ["java/lang/RuntimeException", "java/lang/Exception"]).filter goodWord)
def wsX3_exists : List Cond := .code yX3_exists cX3_exists 3 (some .boolean) :: ([.fieldLink RX3 10 "CausalTable" "state" "LCausalTable$State;", .methodLink RX3 30 yX3_checkReplica, .static yX3_checkReplica, .initialized RX3, .code yX3_checkReplica cX3_checkReplica 1 none, .classLink RX3 37 "java/lang/IndexOutOfBoundsException", .initialized "java/lang/IndexOutOfBoundsException", .methodLink RX3 34 yX3_checkRow, .static yX3_checkRow, .code yX3_checkRow cX3_checkRow 1 none, .methodLink RX3 145 yX1_holdsRow, .instanceMethod yX1_holdsRow, .selects RX1 yX1_holdsRow yX1_holdsRow, .initialized RX1, .code yX1_holdsRow cX1_holdsRow 3 (some .boolean), .methodLink RX1 36 yX1_slotOf, .static yX1_slotOf, .code yX1_slotOf cX1_slotOf 3 (some .int), .methodLink RX1 40 yX1_countEntries, .instanceMethod yX1_countEntries, .selects RX1 yX1_countEntries yX1_countEntries, .code yX1_countEntries cX1_countEntries 5 (some .int), .fieldLink RX1 11 "CausalTable$State" "numbers" "[I"] ++ wsX30 ++ wsX10 ++ (vx_atS RX3 41 "java/lang/IndexOutOfBoundsException" ["java/lang/RuntimeException", "java/lang/Exception"]).filter goodWord)
def wsX3_mean_r1 : List Cond := [Cond.fieldLink RX3 10 "CausalTable" "state" "LCausalTable$State;", Cond.methodLink RX3 30 yX3_checkReplica, Cond.static yX3_checkReplica, Cond.initialized RX3, Cond.code yX3_checkReplica cX3_checkReplica 1 none, Cond.classLink RX3 37 "java/lang/IndexOutOfBoundsException", Cond.initialized "java/lang/IndexOutOfBoundsException", Cond.methodLink RX3 34 yX3_checkRow, Cond.static yX3_checkRow, Cond.code yX3_checkRow cX3_checkRow 1 none, Cond.methodLink RX3 142 yX1_countInCell, Cond.instanceMethod yX1_countInCell, Cond.selects RX1 yX1_countInCell yX1_countInCell, Cond.initialized RX1, Cond.code yX1_countInCell cX1_countInCell 4 (some .int), Cond.methodLink RX1 94 yX1_cellStart, Cond.static yX1_cellStart, Cond.code yX1_cellStart cX1_cellStart 3 (some .int), Cond.methodLink RX1 36 yX1_slotOf, Cond.static yX1_slotOf, Cond.code yX1_slotOf cX1_slotOf 3 (some .int), Cond.methodLink RX1 97 yX1_cellEnd, Cond.static yX1_cellEnd, Cond.code yX1_cellEnd cX1_cellEnd 3 (some .int)]
def wsX3_mean_r2 : List Cond := [Cond.methodLink RX1 40 yX1_countEntries, Cond.instanceMethod yX1_countEntries, Cond.selects RX1 yX1_countEntries yX1_countEntries, Cond.code yX1_countEntries cX1_countEntries 5 (some .int), Cond.fieldLink RX1 11 "CausalTable$State" "numbers" "[I", Cond.methodLink RX3 63 yX1_sumOfCell, Cond.instanceMethod yX1_sumOfCell, Cond.selects RX1 yX1_sumOfCell yX1_sumOfCell, Cond.code yX1_sumOfCell cX1_sumOfCell 7 (some .int), Cond.fieldLink RX1 18 "CausalTable$State" "values" "[I"]
def wsX3_mean : List Cond := .code yX3_mean cX3_mean 4 (some .float) :: ((wsX3_mean_r1 ++ wsX3_mean_r2) ++ wsX30 ++ wsX10 ++ (vx_atS RX3 41 "java/lang/IndexOutOfBoundsException" ["java/lang/RuntimeException", "java/lang/Exception"]).filter goodWord)
def wsX3_seen : List Cond := .code yX3_seen cX3_seen 3 (some .int) :: ([.fieldLink RX3 10 "CausalTable" "state" "LCausalTable$State;", .methodLink RX3 30 yX3_checkReplica, .static yX3_checkReplica, .initialized RX3, .code yX3_checkReplica cX3_checkReplica 1 none, .classLink RX3 37 "java/lang/IndexOutOfBoundsException", .initialized "java/lang/IndexOutOfBoundsException", .methodLink RX3 149 yX1_seenNumber, .instanceMethod yX1_seenNumber, .selects RX1 yX1_seenNumber yX1_seenNumber, .initialized RX1, .code yX1_seenNumber cX1_seenNumber 3 (some .int), .fieldLink RX1 21 "CausalTable$State" "seenNumbers" "[I"] ++ wsX30 ++ wsX10 ++ (vx_atS RX3 41 "java/lang/IndexOutOfBoundsException" ["java/lang/RuntimeException", "java/lang/Exception"]).filter goodWord)
def wsX3_clock : List Cond := .code yX3_clock cX3_clock 2 (some .int) :: ([.fieldLink RX3 10 "CausalTable" "state" "LCausalTable$State;", .methodLink RX3 30 yX3_checkReplica, .static yX3_checkReplica, .initialized RX3, .code yX3_checkReplica cX3_checkReplica 1 none, .classLink RX3 37 "java/lang/IndexOutOfBoundsException", .initialized "java/lang/IndexOutOfBoundsException"] ++ wsX30 ++ wsX10 ++ (vx_atS RX3 41 "java/lang/IndexOutOfBoundsException" ["java/lang/RuntimeException", "java/lang/Exception"]).filter goodWord)
def wsX3_relation : List Cond := .code yX3_relation cX3_relation 5 (some .int) :: ([.fieldLink RX3 10 "CausalTable" "state" "LCausalTable$State;", .methodLink RX3 30 yX3_checkReplica, .static yX3_checkReplica, .initialized RX3, .code yX3_checkReplica cX3_checkReplica 1 none, .classLink RX3 37 "java/lang/IndexOutOfBoundsException", .initialized "java/lang/IndexOutOfBoundsException", .methodLink RX3 156 yX1_knows, .instanceMethod yX1_knows, .selects RX1 yX1_knows yX1_knows, .initialized RX1, .code yX1_knows cX1_knows 4 (some .boolean), .methodLink RX1 47 yX1_seenNumber, .instanceMethod yX1_seenNumber, .selects RX1 yX1_seenNumber yX1_seenNumber, .code yX1_seenNumber cX1_seenNumber 3 (some .int), .fieldLink RX1 21 "CausalTable$State" "seenNumbers" "[I"] ++ wsX30 ++ wsX10 ++ (vx_atS RX3 41 "java/lang/IndexOutOfBoundsException" ["java/lang/RuntimeException", "java/lang/Exception"]).filter goodWord)
def wsX3_conflicts_r1 : List Cond := [Cond.fieldLink RX3 10 "CausalTable" "state" "LCausalTable$State;", Cond.methodLink RX3 30 yX3_checkReplica, Cond.static yX3_checkReplica, Cond.initialized RX3, Cond.code yX3_checkReplica cX3_checkReplica 1 none, Cond.classLink RX3 37 "java/lang/IndexOutOfBoundsException", Cond.initialized "java/lang/IndexOutOfBoundsException", Cond.methodLink RX3 142 yX1_countInCell, Cond.instanceMethod yX1_countInCell, Cond.selects RX1 yX1_countInCell yX1_countInCell, Cond.initialized RX1, Cond.code yX1_countInCell cX1_countInCell 4 (some .int), Cond.methodLink RX1 94 yX1_cellStart, Cond.static yX1_cellStart, Cond.code yX1_cellStart cX1_cellStart 3 (some .int), Cond.methodLink RX1 36 yX1_slotOf, Cond.static yX1_slotOf, Cond.code yX1_slotOf cX1_slotOf 3 (some .int), Cond.methodLink RX1 97 yX1_cellEnd, Cond.static yX1_cellEnd, Cond.code yX1_cellEnd cX1_cellEnd 3 (some .int), Cond.methodLink RX1 40 yX1_countEntries, Cond.instanceMethod yX1_countEntries, Cond.selects RX1 yX1_countEntries yX1_countEntries]
def wsX3_conflicts_r2 : List Cond := [Cond.code yX1_countEntries cX1_countEntries 5 (some .int), Cond.fieldLink RX1 11 "CausalTable$State" "numbers" "[I"]
def wsX3_conflicts : List Cond := .code yX3_conflicts cX3_conflicts 4 (some .int) :: ((wsX3_conflicts_r1 ++ wsX3_conflicts_r2) ++ wsX30 ++ wsX10 ++ (vx_atS RX3 41 "java/lang/IndexOutOfBoundsException" ["java/lang/RuntimeException", "java/lang/Exception"]).filter goodWord)
def wsX3_agreement : List Cond := .code yX3_agreement cX3_agreement 4 (some .double) :: ([.fieldLink RX3 10 "CausalTable" "state" "LCausalTable$State;", .constantDouble RX3 162 (4629137466983448576), .methodLink RX3 159 yX1_isAgreed, .instanceMethod yX1_isAgreed, .selects RX1 yX1_isAgreed yX1_isAgreed, .initialized RX1, .code yX1_isAgreed cX1_isAgreed 6 (some .boolean), .fieldLink RX1 11 "CausalTable$State" "numbers" "[I", .methodLink RX1 97 yX1_cellEnd, .static yX1_cellEnd, .code yX1_cellEnd cX1_cellEnd 3 (some .int), .methodLink RX1 36 yX1_slotOf, .static yX1_slotOf, .code yX1_slotOf cX1_slotOf 3 (some .int), .methodLink RX1 94 yX1_cellStart, .static yX1_cellStart, .code yX1_cellStart cX1_cellStart 3 (some .int)] ++ wsX30 ++ wsX10)
def wsX3_latestMerge : List Cond := .code yX3_latestMerge cX3_latestMerge 2 (some .int) :: ([.classLink RX3 44 "java/lang/IllegalArgumentException", .initialized "java/lang/IllegalArgumentException", .fieldLink RX3 10 "CausalTable" "state" "LCausalTable$State;"] ++ wsX30 ++ wsX10 ++ (vx_atS RX3 48 "java/lang/IllegalArgumentException" ["java/lang/RuntimeException", "java/lang/Exception"]).filter goodWord)
def wsX3_ifMerged_r1 : List Cond := [Cond.classLink RX3 44 "java/lang/IllegalArgumentException", Cond.initialized "java/lang/IllegalArgumentException", Cond.fieldLink RX3 10 "CausalTable" "state" "LCausalTable$State;", Cond.methodLink RX3 30 yX3_checkReplica, Cond.static yX3_checkReplica, Cond.initialized RX3, Cond.code yX3_checkReplica cX3_checkReplica 1 none, Cond.classLink RX3 37 "java/lang/IndexOutOfBoundsException", Cond.initialized "java/lang/IndexOutOfBoundsException", Cond.methodLink RX3 80 yX3_checkDifferent, Cond.static yX3_checkDifferent, Cond.code yX3_checkDifferent cX3_checkDifferent 2 none, Cond.methodLink RX3 171 yX1_countAdded, Cond.instanceMethod yX1_countAdded, Cond.selects RX1 yX1_countAdded yX1_countAdded, Cond.initialized RX1, Cond.code yX1_countAdded cX1_countAdded 5 (some .int), Cond.methodLink RX1 87 yX1_isAdded, Cond.instanceMethod yX1_isAdded, Cond.selects RX1 yX1_isAdded yX1_isAdded, Cond.code yX1_isAdded cX1_isAdded 5 (some .boolean), Cond.fieldLink RX1 11 "CausalTable$State" "numbers" "[I", Cond.methodLink RX1 47 yX1_seenNumber, Cond.instanceMethod yX1_seenNumber]
def wsX3_ifMerged_r2 : List Cond := [Cond.selects RX1 yX1_seenNumber yX1_seenNumber, Cond.code yX1_seenNumber cX1_seenNumber 3 (some .int), Cond.fieldLink RX1 21 "CausalTable$State" "seenNumbers" "[I", Cond.methodLink RX3 174 yX1_countRemoved, Cond.instanceMethod yX1_countRemoved, Cond.selects RX1 yX1_countRemoved yX1_countRemoved, Cond.code yX1_countRemoved cX1_countRemoved 5 (some .int), Cond.methodLink RX1 91 yX1_isRemoved, Cond.instanceMethod yX1_isRemoved, Cond.selects RX1 yX1_isRemoved yX1_isRemoved, Cond.code yX1_isRemoved cX1_isRemoved 5 (some .boolean)]
def wsX3_ifMerged : List Cond := .code yX3_ifMerged cX3_ifMerged 4 (some .int) :: ((wsX3_ifMerged_r1 ++ wsX3_ifMerged_r2) ++ wsX30 ++ wsX10 ++ (vx_atS RX3 48 "java/lang/IllegalArgumentException" ["java/lang/RuntimeException", "java/lang/Exception"]).filter goodWord ++ (vx_atS RX3 41 "java/lang/IndexOutOfBoundsException" ["java/lang/RuntimeException", "java/lang/Exception"]).filter goodWord)
def wsJ9_max_7cf53 : List Cond := .code yJ9_max_7cf53 cJ9_max_7cf53 2 (some .int) :: ([])
def wsL_cell : List Cond := .code yL_cell cL_cell 2 (some .int) :: ([.constant RL 7 (1812433253)])
def wsL_up : List Cond := .code yL_up cL_up 2 (some .int) :: ([.constant RL 8 (2147483647)])
def wsL_cells_r1 : List Cond := [Cond.constantLong RL 9 (67), Cond.constantLong RL 11 (31), Cond.methodLink RL 13 yX3_latest, Cond.instanceMethod yX3_latest, Cond.selects RX3 yX3_latest yX3_latest, Cond.initialized RX3, Cond.code yX3_latest cX3_latest 3 (some .int), Cond.fieldLink RX3 10 "CausalTable" "state" "LCausalTable$State;", Cond.methodLink RX3 30 yX3_checkReplica, Cond.static yX3_checkReplica, Cond.code yX3_checkReplica cX3_checkReplica 1 none, Cond.classLink RX3 37 "java/lang/IndexOutOfBoundsException", Cond.initialized "java/lang/IndexOutOfBoundsException", Cond.methodLink RX3 34 yX3_checkRow, Cond.static yX3_checkRow, Cond.code yX3_checkRow cX3_checkRow 1 none, Cond.methodLink RX3 126 yX1_latestValue, Cond.instanceMethod yX1_latestValue, Cond.selects RX1 yX1_latestValue yX1_latestValue, Cond.initialized RX1, Cond.code yX1_latestValue cX1_latestValue 8 (some .int), Cond.fieldLink RX1 11 "CausalTable$State" "numbers" "[I", Cond.fieldLink RX1 15 "CausalTable$State" "stamps" "[I", Cond.fieldLink RX1 18 "CausalTable$State" "values" "[I"]
def wsL_cells_r2 : List Cond := [Cond.methodLink RX1 94 yX1_cellStart, Cond.static yX1_cellStart, Cond.code yX1_cellStart cX1_cellStart 3 (some .int), Cond.methodLink RX1 36 yX1_slotOf, Cond.static yX1_slotOf, Cond.code yX1_slotOf cX1_slotOf 3 (some .int), Cond.methodLink RX1 97 yX1_cellEnd, Cond.static yX1_cellEnd, Cond.code yX1_cellEnd cX1_cellEnd 3 (some .int), Cond.methodLink RL 19 yX3_greatest, Cond.instanceMethod yX3_greatest, Cond.selects RX3 yX3_greatest yX3_greatest, Cond.code yX3_greatest cX3_greatest 3 (some .int), Cond.methodLink RX3 134 yX1_greatestValue, Cond.instanceMethod yX1_greatestValue, Cond.selects RX1 yX1_greatestValue yX1_greatestValue, Cond.code yX1_greatestValue cX1_greatestValue 6 (some .int), Cond.methodLink RX1 57 Lib.Math.max.name, Cond.static Lib.Math.max.name, Cond.initialized "java/lang/Math", Cond.code Lib.Math.max.name Lib.Math.max.code 2 (some .int), Cond.methodLink RL 22 yX3_counter, Cond.instanceMethod yX3_counter, Cond.selects RX3 yX3_counter yX3_counter]
def wsL_cells_r3 : List Cond := [Cond.code yX3_counter cX3_counter 3 (some .int), Cond.methodLink RX3 63 yX1_sumOfCell, Cond.instanceMethod yX1_sumOfCell, Cond.selects RX1 yX1_sumOfCell yX1_sumOfCell, Cond.code yX1_sumOfCell cX1_sumOfCell 7 (some .int), Cond.methodLink RL 25 yX3_elements, Cond.instanceMethod yX3_elements, Cond.selects RX3 yX3_elements yX3_elements, Cond.code yX3_elements cX3_elements 3 (some .int), Cond.methodLink RX3 137 yX1_elementBits, Cond.instanceMethod yX1_elementBits, Cond.selects RX1 yX1_elementBits yX1_elementBits, Cond.code yX1_elementBits cX1_elementBits 6 (some .int), Cond.methodLink RL 28 yX3_entries, Cond.instanceMethod yX3_entries, Cond.selects RX3 yX3_entries yX3_entries, Cond.code yX3_entries cX3_entries 4 (some .int), Cond.methodLink RX3 142 yX1_countInCell, Cond.instanceMethod yX1_countInCell, Cond.selects RX1 yX1_countInCell yX1_countInCell, Cond.code yX1_countInCell cX1_countInCell 4 (some .int), Cond.methodLink RX1 40 yX1_countEntries, Cond.instanceMethod yX1_countEntries, Cond.selects RX1 yX1_countEntries yX1_countEntries]
def wsL_cells_r4 : List Cond := [Cond.code yX1_countEntries cX1_countEntries 5 (some .int), Cond.methodLink RL 32 yX3_sibling, Cond.instanceMethod yX3_sibling, Cond.selects RX3 yX3_sibling yX3_sibling, Cond.code yX3_sibling cX3_sibling 4 (some .int), Cond.methodLink RX3 131 yX1_siblingAt, Cond.instanceMethod yX1_siblingAt, Cond.selects RX1 yX1_siblingAt yX1_siblingAt, Cond.code yX1_siblingAt cX1_siblingAt 7 (some .int), Cond.methodLink RX1 100 yX1_rankInCell, Cond.instanceMethod yX1_rankInCell, Cond.selects RX1 yX1_rankInCell yX1_rankInCell, Cond.code yX1_rankInCell cX1_rankInCell 7 (some .int)]
def wsL_cells : List Cond := .code yL_cells cL_cells 6 (some .long) :: ((wsL_cells_r1 ++ (wsL_cells_r2 ++ (wsL_cells_r3 ++ wsL_cells_r4))) ++ wsX30 ++ wsX10 ++ (vx_atS RX3 41 "java/lang/IndexOutOfBoundsException" ["java/lang/RuntimeException", "java/lang/Exception"]).filter goodWord)
def wsL_told_r1 : List Cond := [Cond.constantLong RL 35 (71), Cond.constantLong RL 11 (31), Cond.methodLink RL 37 yL_cells, Cond.static yL_cells, Cond.initialized RL, Cond.code yL_cells cL_cells 6 (some .long), Cond.constantLong RL 9 (67), Cond.methodLink RL 13 yX3_latest, Cond.instanceMethod yX3_latest, Cond.selects RX3 yX3_latest yX3_latest, Cond.initialized RX3, Cond.code yX3_latest cX3_latest 3 (some .int), Cond.fieldLink RX3 10 "CausalTable" "state" "LCausalTable$State;", Cond.methodLink RX3 30 yX3_checkReplica, Cond.static yX3_checkReplica, Cond.code yX3_checkReplica cX3_checkReplica 1 none, Cond.classLink RX3 37 "java/lang/IndexOutOfBoundsException", Cond.initialized "java/lang/IndexOutOfBoundsException", Cond.methodLink RX3 34 yX3_checkRow, Cond.static yX3_checkRow, Cond.code yX3_checkRow cX3_checkRow 1 none, Cond.methodLink RX3 126 yX1_latestValue, Cond.instanceMethod yX1_latestValue, Cond.selects RX1 yX1_latestValue yX1_latestValue]
def wsL_told_r2 : List Cond := [Cond.initialized RX1, Cond.code yX1_latestValue cX1_latestValue 8 (some .int), Cond.fieldLink RX1 11 "CausalTable$State" "numbers" "[I", Cond.fieldLink RX1 15 "CausalTable$State" "stamps" "[I", Cond.fieldLink RX1 18 "CausalTable$State" "values" "[I", Cond.methodLink RX1 94 yX1_cellStart, Cond.static yX1_cellStart, Cond.code yX1_cellStart cX1_cellStart 3 (some .int), Cond.methodLink RX1 36 yX1_slotOf, Cond.static yX1_slotOf, Cond.code yX1_slotOf cX1_slotOf 3 (some .int), Cond.methodLink RX1 97 yX1_cellEnd, Cond.static yX1_cellEnd, Cond.code yX1_cellEnd cX1_cellEnd 3 (some .int), Cond.methodLink RL 19 yX3_greatest, Cond.instanceMethod yX3_greatest, Cond.selects RX3 yX3_greatest yX3_greatest, Cond.code yX3_greatest cX3_greatest 3 (some .int), Cond.methodLink RX3 134 yX1_greatestValue, Cond.instanceMethod yX1_greatestValue, Cond.selects RX1 yX1_greatestValue yX1_greatestValue, Cond.code yX1_greatestValue cX1_greatestValue 6 (some .int), Cond.methodLink RX1 57 Lib.Math.max.name, Cond.static Lib.Math.max.name]
def wsL_told_r3 : List Cond := [Cond.initialized "java/lang/Math", Cond.code Lib.Math.max.name Lib.Math.max.code 2 (some .int), Cond.methodLink RL 22 yX3_counter, Cond.instanceMethod yX3_counter, Cond.selects RX3 yX3_counter yX3_counter, Cond.code yX3_counter cX3_counter 3 (some .int), Cond.methodLink RX3 63 yX1_sumOfCell, Cond.instanceMethod yX1_sumOfCell, Cond.selects RX1 yX1_sumOfCell yX1_sumOfCell, Cond.code yX1_sumOfCell cX1_sumOfCell 7 (some .int), Cond.methodLink RL 25 yX3_elements, Cond.instanceMethod yX3_elements, Cond.selects RX3 yX3_elements yX3_elements, Cond.code yX3_elements cX3_elements 3 (some .int), Cond.methodLink RX3 137 yX1_elementBits, Cond.instanceMethod yX1_elementBits, Cond.selects RX1 yX1_elementBits yX1_elementBits, Cond.code yX1_elementBits cX1_elementBits 6 (some .int), Cond.methodLink RL 28 yX3_entries, Cond.instanceMethod yX3_entries, Cond.selects RX3 yX3_entries yX3_entries, Cond.code yX3_entries cX3_entries 4 (some .int), Cond.methodLink RX3 142 yX1_countInCell, Cond.instanceMethod yX1_countInCell]
def wsL_told_r4 : List Cond := [Cond.selects RX1 yX1_countInCell yX1_countInCell, Cond.code yX1_countInCell cX1_countInCell 4 (some .int), Cond.methodLink RX1 40 yX1_countEntries, Cond.instanceMethod yX1_countEntries, Cond.selects RX1 yX1_countEntries yX1_countEntries, Cond.code yX1_countEntries cX1_countEntries 5 (some .int), Cond.methodLink RL 32 yX3_sibling, Cond.instanceMethod yX3_sibling, Cond.selects RX3 yX3_sibling yX3_sibling, Cond.code yX3_sibling cX3_sibling 4 (some .int), Cond.methodLink RX3 131 yX1_siblingAt, Cond.instanceMethod yX1_siblingAt, Cond.selects RX1 yX1_siblingAt yX1_siblingAt, Cond.code yX1_siblingAt cX1_siblingAt 7 (some .int), Cond.methodLink RX1 100 yX1_rankInCell, Cond.instanceMethod yX1_rankInCell, Cond.selects RX1 yX1_rankInCell yX1_rankInCell, Cond.code yX1_rankInCell cX1_rankInCell 7 (some .int), Cond.methodLink RL 43 yX3_clock, Cond.instanceMethod yX3_clock, Cond.selects RX3 yX3_clock yX3_clock, Cond.code yX3_clock cX3_clock 2 (some .int), Cond.methodLink RL 47 yX3_seen, Cond.instanceMethod yX3_seen]
def wsL_told_r5 : List Cond := [Cond.selects RX3 yX3_seen yX3_seen, Cond.code yX3_seen cX3_seen 3 (some .int), Cond.methodLink RX3 149 yX1_seenNumber, Cond.instanceMethod yX1_seenNumber, Cond.selects RX1 yX1_seenNumber yX1_seenNumber, Cond.code yX1_seenNumber cX1_seenNumber 3 (some .int), Cond.fieldLink RX1 21 "CausalTable$State" "seenNumbers" "[I", Cond.methodLink RL 50 yX3_latestMerge, Cond.instanceMethod yX3_latestMerge, Cond.selects RX3 yX3_latestMerge yX3_latestMerge, Cond.code yX3_latestMerge cX3_latestMerge 2 (some .int), Cond.classLink RX3 44 "java/lang/IllegalArgumentException", Cond.initialized "java/lang/IllegalArgumentException"]
def wsL_told : List Cond := .code yL_told cL_told 5 (some .long) :: ((wsL_told_r1 ++ (wsL_told_r2 ++ (wsL_told_r3 ++ (wsL_told_r4 ++ wsL_told_r5)))) ++ wsX30 ++ wsX10 ++ (vx_atS RX3 41 "java/lang/IndexOutOfBoundsException" ["java/lang/RuntimeException", "java/lang/Exception"]).filter goodWord ++ (vx_atS RX3 48 "java/lang/IllegalArgumentException" ["java/lang/RuntimeException", "java/lang/Exception"]).filter goodWord)
def wsL_updates_r1 : List Cond := [Cond.constantLong RL 56 (3), Cond.constantLong RL 58 (5), Cond.methodLink RL 53 yL_up, Cond.static yL_up, Cond.initialized RL, Cond.code yL_up cL_up 2 (some .int), Cond.constant RL 8 (2147483647), Cond.methodLink RL 43 yX3_clock, Cond.instanceMethod yX3_clock, Cond.selects RX3 yX3_clock yX3_clock, Cond.initialized RX3, Cond.code yX3_clock cX3_clock 2 (some .int), Cond.fieldLink RX3 10 "CausalTable" "state" "LCausalTable$State;", Cond.methodLink RX3 30 yX3_checkReplica, Cond.static yX3_checkReplica, Cond.code yX3_checkReplica cX3_checkReplica 1 none, Cond.classLink RX3 37 "java/lang/IndexOutOfBoundsException", Cond.initialized "java/lang/IndexOutOfBoundsException", Cond.methodLink RL 47 yX3_seen, Cond.instanceMethod yX3_seen, Cond.selects RX3 yX3_seen yX3_seen, Cond.code yX3_seen cX3_seen 3 (some .int), Cond.methodLink RX3 149 yX1_seenNumber, Cond.instanceMethod yX1_seenNumber]
def wsL_updates_r2 : List Cond := [Cond.selects RX1 yX1_seenNumber yX1_seenNumber, Cond.initialized RX1, Cond.code yX1_seenNumber cX1_seenNumber 3 (some .int), Cond.fieldLink RX1 21 "CausalTable$State" "seenNumbers" "[I", Cond.methodLink RL 37 yL_cells, Cond.static yL_cells, Cond.code yL_cells cL_cells 6 (some .long), Cond.constantLong RL 9 (67), Cond.constantLong RL 11 (31), Cond.methodLink RL 13 yX3_latest, Cond.instanceMethod yX3_latest, Cond.selects RX3 yX3_latest yX3_latest, Cond.code yX3_latest cX3_latest 3 (some .int), Cond.methodLink RX3 34 yX3_checkRow, Cond.static yX3_checkRow, Cond.code yX3_checkRow cX3_checkRow 1 none, Cond.methodLink RX3 126 yX1_latestValue, Cond.instanceMethod yX1_latestValue, Cond.selects RX1 yX1_latestValue yX1_latestValue, Cond.code yX1_latestValue cX1_latestValue 8 (some .int), Cond.fieldLink RX1 11 "CausalTable$State" "numbers" "[I", Cond.fieldLink RX1 15 "CausalTable$State" "stamps" "[I", Cond.fieldLink RX1 18 "CausalTable$State" "values" "[I", Cond.methodLink RX1 94 yX1_cellStart]
def wsL_updates_r3 : List Cond := [Cond.static yX1_cellStart, Cond.code yX1_cellStart cX1_cellStart 3 (some .int), Cond.methodLink RX1 36 yX1_slotOf, Cond.static yX1_slotOf, Cond.code yX1_slotOf cX1_slotOf 3 (some .int), Cond.methodLink RX1 97 yX1_cellEnd, Cond.static yX1_cellEnd, Cond.code yX1_cellEnd cX1_cellEnd 3 (some .int), Cond.methodLink RL 19 yX3_greatest, Cond.instanceMethod yX3_greatest, Cond.selects RX3 yX3_greatest yX3_greatest, Cond.code yX3_greatest cX3_greatest 3 (some .int), Cond.methodLink RX3 134 yX1_greatestValue, Cond.instanceMethod yX1_greatestValue, Cond.selects RX1 yX1_greatestValue yX1_greatestValue, Cond.code yX1_greatestValue cX1_greatestValue 6 (some .int), Cond.methodLink RX1 57 Lib.Math.max.name, Cond.static Lib.Math.max.name, Cond.initialized "java/lang/Math", Cond.code Lib.Math.max.name Lib.Math.max.code 2 (some .int), Cond.methodLink RL 22 yX3_counter, Cond.instanceMethod yX3_counter, Cond.selects RX3 yX3_counter yX3_counter, Cond.code yX3_counter cX3_counter 3 (some .int)]
def wsL_updates_r4 : List Cond := [Cond.methodLink RX3 63 yX1_sumOfCell, Cond.instanceMethod yX1_sumOfCell, Cond.selects RX1 yX1_sumOfCell yX1_sumOfCell, Cond.code yX1_sumOfCell cX1_sumOfCell 7 (some .int), Cond.methodLink RL 25 yX3_elements, Cond.instanceMethod yX3_elements, Cond.selects RX3 yX3_elements yX3_elements, Cond.code yX3_elements cX3_elements 3 (some .int), Cond.methodLink RX3 137 yX1_elementBits, Cond.instanceMethod yX1_elementBits, Cond.selects RX1 yX1_elementBits yX1_elementBits, Cond.code yX1_elementBits cX1_elementBits 6 (some .int), Cond.methodLink RL 28 yX3_entries, Cond.instanceMethod yX3_entries, Cond.selects RX3 yX3_entries yX3_entries, Cond.code yX3_entries cX3_entries 4 (some .int), Cond.methodLink RX3 142 yX1_countInCell, Cond.instanceMethod yX1_countInCell, Cond.selects RX1 yX1_countInCell yX1_countInCell, Cond.code yX1_countInCell cX1_countInCell 4 (some .int), Cond.methodLink RX1 40 yX1_countEntries, Cond.instanceMethod yX1_countEntries, Cond.selects RX1 yX1_countEntries yX1_countEntries, Cond.code yX1_countEntries cX1_countEntries 5 (some .int)]
def wsL_updates_r5 : List Cond := [Cond.methodLink RL 32 yX3_sibling, Cond.instanceMethod yX3_sibling, Cond.selects RX3 yX3_sibling yX3_sibling, Cond.code yX3_sibling cX3_sibling 4 (some .int), Cond.methodLink RX3 131 yX1_siblingAt, Cond.instanceMethod yX1_siblingAt, Cond.selects RX1 yX1_siblingAt yX1_siblingAt, Cond.code yX1_siblingAt cX1_siblingAt 7 (some .int), Cond.methodLink RX1 100 yX1_rankInCell, Cond.instanceMethod yX1_rankInCell, Cond.selects RX1 yX1_rankInCell yX1_rankInCell, Cond.code yX1_rankInCell cX1_rankInCell 7 (some .int), Cond.methodLink RL 60 yX3_put, Cond.instanceMethod yX3_put, Cond.selects RX3 yX3_put yX3_put, Cond.code yX3_put cX3_put 5 (some .int), Cond.classLink RX3 44 "java/lang/IllegalArgumentException", Cond.initialized "java/lang/IllegalArgumentException", Cond.fieldLink RX3 19 "CausalTable" "history" "LCausalTable$History;", Cond.methodLink RX3 49 yX0_save, Cond.instanceMethod yX0_save, Cond.selects RX0 yX0_save yX0_save, Cond.initialized RX0, Cond.code yX0_save cX0_save 4 none]
def wsL_updates_r6 : List Cond := [Cond.fieldLink RX0 21 "CausalTable$History" "size" "I", Cond.fieldLink RX0 17 "CausalTable$History" "oldest" "I", Cond.fieldLink RX0 11 "CausalTable$History" "ring" "[LCausalTable$State;", Cond.classLink RX0 9 RX1, Cond.instantiable RX1 6, Cond.instanceMethod yX1_init, Cond.code yX1_init cX1_init 1 none, Cond.methodLink RX1 5 objectInit, Cond.instanceMethod objectInit, Cond.code objectInit ⟨#[0xb1]⟩ 1 none, Cond.arrayClass .int, Cond.fieldLink RX1 24 "CausalTable$State" "clocks" "[I", Cond.fieldLink RX1 27 "CausalTable$State" "mergeResult" "[I", Cond.methodLink RX0 25 yX1_copyFrom, Cond.instanceMethod yX1_copyFrom, Cond.selects RX1 yX1_copyFrom yX1_copyFrom, Cond.code yX1_copyFrom cX1_copyFrom 2 none, Cond.methodLink RX1 30 arraycopyName, Cond.native arraycopyName, Cond.static arraycopyName, Cond.initialized "java/lang/System", Cond.methodLink RX3 53 yX1_putValue, Cond.instanceMethod yX1_putValue, Cond.selects RX1 yX1_putValue yX1_putValue]
def wsL_updates_r7 : List Cond := [Cond.code yX1_putValue cX1_putValue 7 (some .int), Cond.methodLink RX1 50 yX1_beginUpdate, Cond.instanceMethod yX1_beginUpdate, Cond.selects RX1 yX1_beginUpdate yX1_beginUpdate, Cond.code yX1_beginUpdate cX1_beginUpdate 2 none, Cond.methodLink RX1 54 yX1_greatestValue, Cond.methodLink RX1 62 yX1_removeGroup, Cond.instanceMethod yX1_removeGroup, Cond.selects RX1 yX1_removeGroup yX1_removeGroup, Cond.code yX1_removeGroup cX1_removeGroup 4 (some .int), Cond.methodLink RX1 44 yX1_removeEntries, Cond.instanceMethod yX1_removeEntries, Cond.selects RX1 yX1_removeEntries yX1_removeEntries, Cond.code yX1_removeEntries cX1_removeEntries 5 (some .int), Cond.methodLink RX1 65 yX1_makeEntry, Cond.instanceMethod yX1_makeEntry, Cond.selects RX1 yX1_makeEntry yX1_makeEntry, Cond.code yX1_makeEntry cX1_makeEntry 6 none, Cond.methodLink RX1 47 yX1_seenNumber, Cond.methodLink RL 64 yX3_mean, Cond.instanceMethod yX3_mean, Cond.selects RX3 yX3_mean yX3_mean, Cond.code yX3_mean cX3_mean 4 (some .float), Cond.methodLink RL 68 yX3_add]
def wsL_updates_r8 : List Cond := [Cond.instanceMethod yX3_add, Cond.selects RX3 yX3_add yX3_add, Cond.code yX3_add cX3_add 4 (some .int), Cond.methodLink RX3 59 yX1_addAmount, Cond.instanceMethod yX1_addAmount, Cond.selects RX1 yX1_addAmount yX1_addAmount, Cond.code yX1_addAmount cX1_addAmount 6 none, Cond.methodLink RL 71 yX3_include, Cond.instanceMethod yX3_include, Cond.selects RX3 yX3_include yX3_include, Cond.code yX3_include cX3_include 4 (some .int), Cond.methodLink RX3 67 yX3_checkElement, Cond.static yX3_checkElement, Cond.code yX3_checkElement cX3_checkElement 1 none, Cond.methodLink RX3 70 yX1_includeElement, Cond.instanceMethod yX1_includeElement, Cond.selects RX1 yX1_includeElement yX1_includeElement, Cond.code yX1_includeElement cX1_includeElement 5 (some .int), Cond.methodLink RX1 69 yX1_groupOfElement, Cond.static yX1_groupOfElement, Cond.code yX1_groupOfElement cX1_groupOfElement 1 (some .int), Cond.methodLink RL 74 yX3_exclude, Cond.instanceMethod yX3_exclude, Cond.selects RX3 yX3_exclude yX3_exclude]
def wsL_updates_r9 : List Cond := [Cond.code yX3_exclude cX3_exclude 4 (some .int), Cond.methodLink RX3 73 yX1_excludeElement, Cond.instanceMethod yX1_excludeElement, Cond.selects RX1 yX1_excludeElement yX1_excludeElement, Cond.code yX1_excludeElement cX1_excludeElement 4 (some .int), Cond.methodLink RL 77 yX3_exists, Cond.instanceMethod yX3_exists, Cond.selects RX3 yX3_exists yX3_exists, Cond.code yX3_exists cX3_exists 3 (some .boolean), Cond.methodLink RX3 145 yX1_holdsRow, Cond.instanceMethod yX1_holdsRow, Cond.selects RX1 yX1_holdsRow yX1_holdsRow, Cond.code yX1_holdsRow cX1_holdsRow 3 (some .boolean), Cond.methodLink RL 81 yX3_delete, Cond.instanceMethod yX3_delete, Cond.selects RX3 yX3_delete yX3_delete, Cond.code yX3_delete cX3_delete 3 (some .int), Cond.methodLink RX3 76 yX1_deleteRow, Cond.instanceMethod yX1_deleteRow, Cond.selects RX1 yX1_deleteRow yX1_deleteRow, Cond.code yX1_deleteRow cX1_deleteRow 3 (some .int)]
def wsL_updates : List Cond := .code yL_updates cL_updates 22 (some .boolean) :: ((wsL_updates_r1 ++ (wsL_updates_r2 ++ (wsL_updates_r3 ++ (wsL_updates_r4 ++ (wsL_updates_r5 ++ (wsL_updates_r6 ++ (wsL_updates_r7 ++ (wsL_updates_r8 ++ wsL_updates_r9)))))))) ++ wsX30 ++ wsX10 ++ wsX00 ++ (vx_atS RX3 41 "java/lang/IndexOutOfBoundsException" ["java/lang/RuntimeException", "java/lang/Exception"]).filter goodWord ++ (vx_atS RX3 48 "java/lang/IllegalArgumentException" ["java/lang/RuntimeException", "java/lang/Exception"]).filter goodWord)
def wsL_merges_r1 : List Cond := [Cond.arrayClass .int, Cond.methodLink RL 84 yX3_ifMerged, Cond.instanceMethod yX3_ifMerged, Cond.selects RX3 yX3_ifMerged yX3_ifMerged, Cond.initialized RX3, Cond.code yX3_ifMerged cX3_ifMerged 4 (some .int), Cond.classLink RX3 44 "java/lang/IllegalArgumentException", Cond.initialized "java/lang/IllegalArgumentException", Cond.fieldLink RX3 10 "CausalTable" "state" "LCausalTable$State;", Cond.methodLink RX3 30 yX3_checkReplica, Cond.static yX3_checkReplica, Cond.code yX3_checkReplica cX3_checkReplica 1 none, Cond.classLink RX3 37 "java/lang/IndexOutOfBoundsException", Cond.initialized "java/lang/IndexOutOfBoundsException", Cond.methodLink RX3 80 yX3_checkDifferent, Cond.static yX3_checkDifferent, Cond.code yX3_checkDifferent cX3_checkDifferent 2 none, Cond.methodLink RX3 171 yX1_countAdded, Cond.instanceMethod yX1_countAdded, Cond.selects RX1 yX1_countAdded yX1_countAdded, Cond.initialized RX1, Cond.code yX1_countAdded cX1_countAdded 5 (some .int), Cond.methodLink RX1 87 yX1_isAdded, Cond.instanceMethod yX1_isAdded]
def wsL_merges_r2 : List Cond := [Cond.selects RX1 yX1_isAdded yX1_isAdded, Cond.code yX1_isAdded cX1_isAdded 5 (some .boolean), Cond.fieldLink RX1 11 "CausalTable$State" "numbers" "[I", Cond.methodLink RX1 47 yX1_seenNumber, Cond.instanceMethod yX1_seenNumber, Cond.selects RX1 yX1_seenNumber yX1_seenNumber, Cond.code yX1_seenNumber cX1_seenNumber 3 (some .int), Cond.fieldLink RX1 21 "CausalTable$State" "seenNumbers" "[I", Cond.methodLink RX3 174 yX1_countRemoved, Cond.instanceMethod yX1_countRemoved, Cond.selects RX1 yX1_countRemoved yX1_countRemoved, Cond.code yX1_countRemoved cX1_countRemoved 5 (some .int), Cond.methodLink RX1 91 yX1_isRemoved, Cond.instanceMethod yX1_isRemoved, Cond.selects RX1 yX1_isRemoved yX1_isRemoved, Cond.code yX1_isRemoved cX1_isRemoved 5 (some .boolean), Cond.methodLink RL 37 yL_cells, Cond.static yL_cells, Cond.initialized RL, Cond.code yL_cells cL_cells 6 (some .long), Cond.constantLong RL 9 (67), Cond.constantLong RL 11 (31), Cond.methodLink RL 13 yX3_latest, Cond.instanceMethod yX3_latest]
def wsL_merges_r3 : List Cond := [Cond.selects RX3 yX3_latest yX3_latest, Cond.code yX3_latest cX3_latest 3 (some .int), Cond.methodLink RX3 34 yX3_checkRow, Cond.static yX3_checkRow, Cond.code yX3_checkRow cX3_checkRow 1 none, Cond.methodLink RX3 126 yX1_latestValue, Cond.instanceMethod yX1_latestValue, Cond.selects RX1 yX1_latestValue yX1_latestValue, Cond.code yX1_latestValue cX1_latestValue 8 (some .int), Cond.fieldLink RX1 15 "CausalTable$State" "stamps" "[I", Cond.fieldLink RX1 18 "CausalTable$State" "values" "[I", Cond.methodLink RX1 94 yX1_cellStart, Cond.static yX1_cellStart, Cond.code yX1_cellStart cX1_cellStart 3 (some .int), Cond.methodLink RX1 36 yX1_slotOf, Cond.static yX1_slotOf, Cond.code yX1_slotOf cX1_slotOf 3 (some .int), Cond.methodLink RX1 97 yX1_cellEnd, Cond.static yX1_cellEnd, Cond.code yX1_cellEnd cX1_cellEnd 3 (some .int), Cond.methodLink RL 19 yX3_greatest, Cond.instanceMethod yX3_greatest, Cond.selects RX3 yX3_greatest yX3_greatest, Cond.code yX3_greatest cX3_greatest 3 (some .int)]
def wsL_merges_r4 : List Cond := [Cond.methodLink RX3 134 yX1_greatestValue, Cond.instanceMethod yX1_greatestValue, Cond.selects RX1 yX1_greatestValue yX1_greatestValue, Cond.code yX1_greatestValue cX1_greatestValue 6 (some .int), Cond.methodLink RX1 57 Lib.Math.max.name, Cond.static Lib.Math.max.name, Cond.initialized "java/lang/Math", Cond.code Lib.Math.max.name Lib.Math.max.code 2 (some .int), Cond.methodLink RL 22 yX3_counter, Cond.instanceMethod yX3_counter, Cond.selects RX3 yX3_counter yX3_counter, Cond.code yX3_counter cX3_counter 3 (some .int), Cond.methodLink RX3 63 yX1_sumOfCell, Cond.instanceMethod yX1_sumOfCell, Cond.selects RX1 yX1_sumOfCell yX1_sumOfCell, Cond.code yX1_sumOfCell cX1_sumOfCell 7 (some .int), Cond.methodLink RL 25 yX3_elements, Cond.instanceMethod yX3_elements, Cond.selects RX3 yX3_elements yX3_elements, Cond.code yX3_elements cX3_elements 3 (some .int), Cond.methodLink RX3 137 yX1_elementBits, Cond.instanceMethod yX1_elementBits, Cond.selects RX1 yX1_elementBits yX1_elementBits, Cond.code yX1_elementBits cX1_elementBits 6 (some .int)]
def wsL_merges_r5 : List Cond := [Cond.methodLink RL 28 yX3_entries, Cond.instanceMethod yX3_entries, Cond.selects RX3 yX3_entries yX3_entries, Cond.code yX3_entries cX3_entries 4 (some .int), Cond.methodLink RX3 142 yX1_countInCell, Cond.instanceMethod yX1_countInCell, Cond.selects RX1 yX1_countInCell yX1_countInCell, Cond.code yX1_countInCell cX1_countInCell 4 (some .int), Cond.methodLink RX1 40 yX1_countEntries, Cond.instanceMethod yX1_countEntries, Cond.selects RX1 yX1_countEntries yX1_countEntries, Cond.code yX1_countEntries cX1_countEntries 5 (some .int), Cond.methodLink RL 32 yX3_sibling, Cond.instanceMethod yX3_sibling, Cond.selects RX3 yX3_sibling yX3_sibling, Cond.code yX3_sibling cX3_sibling 4 (some .int), Cond.methodLink RX3 131 yX1_siblingAt, Cond.instanceMethod yX1_siblingAt, Cond.selects RX1 yX1_siblingAt yX1_siblingAt, Cond.code yX1_siblingAt cX1_siblingAt 7 (some .int), Cond.methodLink RX1 100 yX1_rankInCell, Cond.instanceMethod yX1_rankInCell, Cond.selects RX1 yX1_rankInCell yX1_rankInCell, Cond.code yX1_rankInCell cX1_rankInCell 7 (some .int)]
def wsL_merges_r6 : List Cond := [Cond.methodLink RL 47 yX3_seen, Cond.instanceMethod yX3_seen, Cond.selects RX3 yX3_seen yX3_seen, Cond.code yX3_seen cX3_seen 3 (some .int), Cond.methodLink RX3 149 yX1_seenNumber, Cond.methodLink RL 43 yX3_clock, Cond.instanceMethod yX3_clock, Cond.selects RX3 yX3_clock yX3_clock, Cond.code yX3_clock cX3_clock 2 (some .int), Cond.methodLink RL 87 yX3_relation, Cond.instanceMethod yX3_relation, Cond.selects RX3 yX3_relation yX3_relation, Cond.code yX3_relation cX3_relation 5 (some .int), Cond.methodLink RX3 156 yX1_knows, Cond.instanceMethod yX1_knows, Cond.selects RX1 yX1_knows yX1_knows, Cond.code yX1_knows cX1_knows 4 (some .boolean), Cond.methodLink RL 90 yX3_merge, Cond.instanceMethod yX3_merge, Cond.selects RX3 yX3_merge yX3_merge, Cond.code yX3_merge cX3_merge 3 (some .int), Cond.fieldLink RX3 19 "CausalTable" "history" "LCausalTable$History;", Cond.methodLink RX3 49 yX0_save, Cond.instanceMethod yX0_save]
def wsL_merges_r7 : List Cond := [Cond.selects RX0 yX0_save yX0_save, Cond.initialized RX0, Cond.code yX0_save cX0_save 4 none, Cond.fieldLink RX0 21 "CausalTable$History" "size" "I", Cond.fieldLink RX0 17 "CausalTable$History" "oldest" "I", Cond.fieldLink RX0 11 "CausalTable$History" "ring" "[LCausalTable$State;", Cond.classLink RX0 9 RX1, Cond.instantiable RX1 6, Cond.instanceMethod yX1_init, Cond.code yX1_init cX1_init 1 none, Cond.methodLink RX1 5 objectInit, Cond.instanceMethod objectInit, Cond.code objectInit ⟨#[0xb1]⟩ 1 none, Cond.fieldLink RX1 24 "CausalTable$State" "clocks" "[I", Cond.fieldLink RX1 27 "CausalTable$State" "mergeResult" "[I", Cond.methodLink RX0 25 yX1_copyFrom, Cond.instanceMethod yX1_copyFrom, Cond.selects RX1 yX1_copyFrom yX1_copyFrom, Cond.code yX1_copyFrom cX1_copyFrom 2 none, Cond.methodLink RX1 30 arraycopyName, Cond.native arraycopyName, Cond.static arraycopyName, Cond.initialized "java/lang/System", Cond.methodLink RX3 84 yX1_mergeReplica]
def wsL_merges_r8 : List Cond := [Cond.instanceMethod yX1_mergeReplica, Cond.selects RX1 yX1_mergeReplica yX1_mergeReplica, Cond.code yX1_mergeReplica cX1_mergeReplica 6 (some .int), Cond.methodLink RX1 73 yX1_countAdded, Cond.methodLink RX1 76 yX1_countRemoved, Cond.methodLink RX1 79 yX1_mergeSlot, Cond.instanceMethod yX1_mergeSlot, Cond.selects RX1 yX1_mergeSlot yX1_mergeSlot, Cond.code yX1_mergeSlot cX1_mergeSlot 6 none, Cond.methodLink RX1 83 yX1_mergeKnowledge, Cond.instanceMethod yX1_mergeKnowledge, Cond.selects RX1 yX1_mergeKnowledge yX1_mergeKnowledge, Cond.code yX1_mergeKnowledge cX1_mergeKnowledge 4 none, Cond.methodLink RL 50 yX3_latestMerge, Cond.instanceMethod yX3_latestMerge, Cond.selects RX3 yX3_latestMerge yX3_latestMerge, Cond.code yX3_latestMerge cX3_latestMerge 2 (some .int)]
def wsL_merges : List Cond := .code yL_merges cL_merges 12 (some .boolean) :: ((wsL_merges_r1 ++ (wsL_merges_r2 ++ (wsL_merges_r3 ++ (wsL_merges_r4 ++ (wsL_merges_r5 ++ (wsL_merges_r6 ++ (wsL_merges_r7 ++ wsL_merges_r8))))))) ++ wsX30 ++ wsX10 ++ wsX00 ++ (vx_atS RX3 48 "java/lang/IllegalArgumentException" ["java/lang/RuntimeException", "java/lang/Exception"]).filter goodWord ++ (vx_atS RX3 41 "java/lang/IndexOutOfBoundsException" ["java/lang/RuntimeException", "java/lang/Exception"]).filter goodWord)
def wsL_holds_r1 : List Cond := [Cond.constantDouble RL 100 (4629137466983448576), Cond.constantDouble RL 102 (4629137495130946247), Cond.methodLink RL 43 yX3_clock, Cond.instanceMethod yX3_clock, Cond.selects RX3 yX3_clock yX3_clock, Cond.initialized RX3, Cond.code yX3_clock cX3_clock 2 (some .int), Cond.fieldLink RX3 10 "CausalTable" "state" "LCausalTable$State;", Cond.methodLink RX3 30 yX3_checkReplica, Cond.static yX3_checkReplica, Cond.code yX3_checkReplica cX3_checkReplica 1 none, Cond.classLink RX3 37 "java/lang/IndexOutOfBoundsException", Cond.initialized "java/lang/IndexOutOfBoundsException", Cond.methodLink RL 47 yX3_seen, Cond.instanceMethod yX3_seen, Cond.selects RX3 yX3_seen yX3_seen, Cond.code yX3_seen cX3_seen 3 (some .int), Cond.methodLink RX3 149 yX1_seenNumber, Cond.instanceMethod yX1_seenNumber, Cond.selects RX1 yX1_seenNumber yX1_seenNumber, Cond.initialized RX1, Cond.code yX1_seenNumber cX1_seenNumber 3 (some .int), Cond.fieldLink RX1 21 "CausalTable$State" "seenNumbers" "[I", Cond.methodLink RL 28 yX3_entries]
def wsL_holds_r2 : List Cond := [Cond.instanceMethod yX3_entries, Cond.selects RX3 yX3_entries yX3_entries, Cond.code yX3_entries cX3_entries 4 (some .int), Cond.methodLink RX3 34 yX3_checkRow, Cond.static yX3_checkRow, Cond.code yX3_checkRow cX3_checkRow 1 none, Cond.methodLink RX3 142 yX1_countInCell, Cond.instanceMethod yX1_countInCell, Cond.selects RX1 yX1_countInCell yX1_countInCell, Cond.code yX1_countInCell cX1_countInCell 4 (some .int), Cond.methodLink RX1 94 yX1_cellStart, Cond.static yX1_cellStart, Cond.code yX1_cellStart cX1_cellStart 3 (some .int), Cond.methodLink RX1 36 yX1_slotOf, Cond.static yX1_slotOf, Cond.code yX1_slotOf cX1_slotOf 3 (some .int), Cond.methodLink RX1 97 yX1_cellEnd, Cond.static yX1_cellEnd, Cond.code yX1_cellEnd cX1_cellEnd 3 (some .int), Cond.methodLink RX1 40 yX1_countEntries, Cond.instanceMethod yX1_countEntries, Cond.selects RX1 yX1_countEntries yX1_countEntries, Cond.code yX1_countEntries cX1_countEntries 5 (some .int), Cond.fieldLink RX1 11 "CausalTable$State" "numbers" "[I"]
def wsL_holds_r3 : List Cond := [Cond.methodLink RL 77 yX3_exists, Cond.instanceMethod yX3_exists, Cond.selects RX3 yX3_exists yX3_exists, Cond.code yX3_exists cX3_exists 3 (some .boolean), Cond.methodLink RX3 145 yX1_holdsRow, Cond.instanceMethod yX1_holdsRow, Cond.selects RX1 yX1_holdsRow yX1_holdsRow, Cond.code yX1_holdsRow cX1_holdsRow 3 (some .boolean), Cond.methodLink RL 13 yX3_latest, Cond.instanceMethod yX3_latest, Cond.selects RX3 yX3_latest yX3_latest, Cond.code yX3_latest cX3_latest 3 (some .int), Cond.methodLink RX3 126 yX1_latestValue, Cond.instanceMethod yX1_latestValue, Cond.selects RX1 yX1_latestValue yX1_latestValue, Cond.code yX1_latestValue cX1_latestValue 8 (some .int), Cond.fieldLink RX1 15 "CausalTable$State" "stamps" "[I", Cond.fieldLink RX1 18 "CausalTable$State" "values" "[I", Cond.methodLink RL 19 yX3_greatest, Cond.instanceMethod yX3_greatest, Cond.selects RX3 yX3_greatest yX3_greatest, Cond.code yX3_greatest cX3_greatest 3 (some .int), Cond.methodLink RX3 134 yX1_greatestValue, Cond.instanceMethod yX1_greatestValue]
def wsL_holds_r4 : List Cond := [Cond.selects RX1 yX1_greatestValue yX1_greatestValue, Cond.code yX1_greatestValue cX1_greatestValue 6 (some .int), Cond.methodLink RX1 57 Lib.Math.max.name, Cond.static Lib.Math.max.name, Cond.initialized "java/lang/Math", Cond.code Lib.Math.max.name Lib.Math.max.code 2 (some .int), Cond.methodLink RL 25 yX3_elements, Cond.instanceMethod yX3_elements, Cond.selects RX3 yX3_elements yX3_elements, Cond.code yX3_elements cX3_elements 3 (some .int), Cond.methodLink RX3 137 yX1_elementBits, Cond.instanceMethod yX1_elementBits, Cond.selects RX1 yX1_elementBits yX1_elementBits, Cond.code yX1_elementBits cX1_elementBits 6 (some .int), Cond.methodLink RL 87 yX3_relation, Cond.instanceMethod yX3_relation, Cond.selects RX3 yX3_relation yX3_relation, Cond.code yX3_relation cX3_relation 5 (some .int), Cond.methodLink RX3 156 yX1_knows, Cond.instanceMethod yX1_knows, Cond.selects RX1 yX1_knows yX1_knows, Cond.code yX1_knows cX1_knows 4 (some .boolean), Cond.methodLink RX1 47 yX1_seenNumber, Cond.methodLink RL 37 yL_cells]
def wsL_holds_r5 : List Cond := [Cond.static yL_cells, Cond.initialized RL, Cond.code yL_cells cL_cells 6 (some .long), Cond.constantLong RL 9 (67), Cond.constantLong RL 11 (31), Cond.methodLink RL 22 yX3_counter, Cond.instanceMethod yX3_counter, Cond.selects RX3 yX3_counter yX3_counter, Cond.code yX3_counter cX3_counter 3 (some .int), Cond.methodLink RX3 63 yX1_sumOfCell, Cond.instanceMethod yX1_sumOfCell, Cond.selects RX1 yX1_sumOfCell yX1_sumOfCell, Cond.code yX1_sumOfCell cX1_sumOfCell 7 (some .int), Cond.methodLink RL 32 yX3_sibling, Cond.instanceMethod yX3_sibling, Cond.selects RX3 yX3_sibling yX3_sibling, Cond.code yX3_sibling cX3_sibling 4 (some .int), Cond.methodLink RX3 131 yX1_siblingAt, Cond.instanceMethod yX1_siblingAt, Cond.selects RX1 yX1_siblingAt yX1_siblingAt, Cond.code yX1_siblingAt cX1_siblingAt 7 (some .int), Cond.methodLink RX1 100 yX1_rankInCell, Cond.instanceMethod yX1_rankInCell, Cond.selects RX1 yX1_rankInCell yX1_rankInCell]
def wsL_holds_r6 : List Cond := [Cond.code yX1_rankInCell cX1_rankInCell 7 (some .int), Cond.methodLink RL 93 yX3_conflicts, Cond.instanceMethod yX3_conflicts, Cond.selects RX3 yX3_conflicts yX3_conflicts, Cond.code yX3_conflicts cX3_conflicts 4 (some .int), Cond.methodLink RL 96 yX3_agreement, Cond.instanceMethod yX3_agreement, Cond.selects RX3 yX3_agreement yX3_agreement, Cond.code yX3_agreement cX3_agreement 4 (some .double), Cond.constantDouble RX3 162 (4629137466983448576), Cond.methodLink RX3 159 yX1_isAgreed, Cond.instanceMethod yX1_isAgreed, Cond.selects RX1 yX1_isAgreed yX1_isAgreed, Cond.code yX1_isAgreed cX1_isAgreed 6 (some .boolean)]
def wsL_holds : List Cond := .code yL_holds cL_holds 7 (some .boolean) :: ((wsL_holds_r1 ++ (wsL_holds_r2 ++ (wsL_holds_r3 ++ (wsL_holds_r4 ++ (wsL_holds_r5 ++ wsL_holds_r6))))) ++ wsX30 ++ wsX10 ++ (vx_atS RX3 41 "java/lang/IndexOutOfBoundsException" ["java/lang/RuntimeException", "java/lang/Exception"]).filter goodWord)
def wsL_isKept_r1 : List Cond := [Cond.methodLink RL 104 yL_told, Cond.static yL_told, Cond.initialized RL, Cond.code yL_told cL_told 5 (some .long), Cond.constantLong RL 35 (71), Cond.constantLong RL 11 (31), Cond.methodLink RL 37 yL_cells, Cond.static yL_cells, Cond.code yL_cells cL_cells 6 (some .long), Cond.constantLong RL 9 (67), Cond.methodLink RL 13 yX3_latest, Cond.instanceMethod yX3_latest, Cond.selects RX3 yX3_latest yX3_latest, Cond.initialized RX3, Cond.code yX3_latest cX3_latest 3 (some .int), Cond.fieldLink RX3 10 "CausalTable" "state" "LCausalTable$State;", Cond.methodLink RX3 30 yX3_checkReplica, Cond.static yX3_checkReplica, Cond.code yX3_checkReplica cX3_checkReplica 1 none, Cond.classLink RX3 37 "java/lang/IndexOutOfBoundsException", Cond.initialized "java/lang/IndexOutOfBoundsException", Cond.methodLink RX3 34 yX3_checkRow, Cond.static yX3_checkRow, Cond.code yX3_checkRow cX3_checkRow 1 none]
def wsL_isKept_r2 : List Cond := [Cond.methodLink RX3 126 yX1_latestValue, Cond.instanceMethod yX1_latestValue, Cond.selects RX1 yX1_latestValue yX1_latestValue, Cond.initialized RX1, Cond.code yX1_latestValue cX1_latestValue 8 (some .int), Cond.fieldLink RX1 11 "CausalTable$State" "numbers" "[I", Cond.fieldLink RX1 15 "CausalTable$State" "stamps" "[I", Cond.fieldLink RX1 18 "CausalTable$State" "values" "[I", Cond.methodLink RX1 94 yX1_cellStart, Cond.static yX1_cellStart, Cond.code yX1_cellStart cX1_cellStart 3 (some .int), Cond.methodLink RX1 36 yX1_slotOf, Cond.static yX1_slotOf, Cond.code yX1_slotOf cX1_slotOf 3 (some .int), Cond.methodLink RX1 97 yX1_cellEnd, Cond.static yX1_cellEnd, Cond.code yX1_cellEnd cX1_cellEnd 3 (some .int), Cond.methodLink RL 19 yX3_greatest, Cond.instanceMethod yX3_greatest, Cond.selects RX3 yX3_greatest yX3_greatest, Cond.code yX3_greatest cX3_greatest 3 (some .int), Cond.methodLink RX3 134 yX1_greatestValue, Cond.instanceMethod yX1_greatestValue, Cond.selects RX1 yX1_greatestValue yX1_greatestValue]
def wsL_isKept_r3 : List Cond := [Cond.code yX1_greatestValue cX1_greatestValue 6 (some .int), Cond.methodLink RX1 57 Lib.Math.max.name, Cond.static Lib.Math.max.name, Cond.initialized "java/lang/Math", Cond.code Lib.Math.max.name Lib.Math.max.code 2 (some .int), Cond.methodLink RL 22 yX3_counter, Cond.instanceMethod yX3_counter, Cond.selects RX3 yX3_counter yX3_counter, Cond.code yX3_counter cX3_counter 3 (some .int), Cond.methodLink RX3 63 yX1_sumOfCell, Cond.instanceMethod yX1_sumOfCell, Cond.selects RX1 yX1_sumOfCell yX1_sumOfCell, Cond.code yX1_sumOfCell cX1_sumOfCell 7 (some .int), Cond.methodLink RL 25 yX3_elements, Cond.instanceMethod yX3_elements, Cond.selects RX3 yX3_elements yX3_elements, Cond.code yX3_elements cX3_elements 3 (some .int), Cond.methodLink RX3 137 yX1_elementBits, Cond.instanceMethod yX1_elementBits, Cond.selects RX1 yX1_elementBits yX1_elementBits, Cond.code yX1_elementBits cX1_elementBits 6 (some .int), Cond.methodLink RL 28 yX3_entries, Cond.instanceMethod yX3_entries, Cond.selects RX3 yX3_entries yX3_entries]
def wsL_isKept_r4 : List Cond := [Cond.code yX3_entries cX3_entries 4 (some .int), Cond.methodLink RX3 142 yX1_countInCell, Cond.instanceMethod yX1_countInCell, Cond.selects RX1 yX1_countInCell yX1_countInCell, Cond.code yX1_countInCell cX1_countInCell 4 (some .int), Cond.methodLink RX1 40 yX1_countEntries, Cond.instanceMethod yX1_countEntries, Cond.selects RX1 yX1_countEntries yX1_countEntries, Cond.code yX1_countEntries cX1_countEntries 5 (some .int), Cond.methodLink RL 32 yX3_sibling, Cond.instanceMethod yX3_sibling, Cond.selects RX3 yX3_sibling yX3_sibling, Cond.code yX3_sibling cX3_sibling 4 (some .int), Cond.methodLink RX3 131 yX1_siblingAt, Cond.instanceMethod yX1_siblingAt, Cond.selects RX1 yX1_siblingAt yX1_siblingAt, Cond.code yX1_siblingAt cX1_siblingAt 7 (some .int), Cond.methodLink RX1 100 yX1_rankInCell, Cond.instanceMethod yX1_rankInCell, Cond.selects RX1 yX1_rankInCell yX1_rankInCell, Cond.code yX1_rankInCell cX1_rankInCell 7 (some .int), Cond.methodLink RL 43 yX3_clock, Cond.instanceMethod yX3_clock, Cond.selects RX3 yX3_clock yX3_clock]
def wsL_isKept_r5 : List Cond := [Cond.code yX3_clock cX3_clock 2 (some .int), Cond.methodLink RL 47 yX3_seen, Cond.instanceMethod yX3_seen, Cond.selects RX3 yX3_seen yX3_seen, Cond.code yX3_seen cX3_seen 3 (some .int), Cond.methodLink RX3 149 yX1_seenNumber, Cond.instanceMethod yX1_seenNumber, Cond.selects RX1 yX1_seenNumber yX1_seenNumber, Cond.code yX1_seenNumber cX1_seenNumber 3 (some .int), Cond.fieldLink RX1 21 "CausalTable$State" "seenNumbers" "[I", Cond.methodLink RL 50 yX3_latestMerge, Cond.instanceMethod yX3_latestMerge, Cond.selects RX3 yX3_latestMerge yX3_latestMerge, Cond.code yX3_latestMerge cX3_latestMerge 2 (some .int), Cond.classLink RX3 44 "java/lang/IllegalArgumentException", Cond.initialized "java/lang/IllegalArgumentException", Cond.methodLink RL 90 yX3_merge, Cond.instanceMethod yX3_merge, Cond.selects RX3 yX3_merge yX3_merge, Cond.code yX3_merge cX3_merge 3 (some .int), Cond.fieldLink RX3 19 "CausalTable" "history" "LCausalTable$History;", Cond.methodLink RX3 80 yX3_checkDifferent, Cond.static yX3_checkDifferent, Cond.code yX3_checkDifferent cX3_checkDifferent 2 none]
def wsL_isKept_r6 : List Cond := [Cond.methodLink RX3 49 yX0_save, Cond.instanceMethod yX0_save, Cond.selects RX0 yX0_save yX0_save, Cond.initialized RX0, Cond.code yX0_save cX0_save 4 none, Cond.fieldLink RX0 21 "CausalTable$History" "size" "I", Cond.fieldLink RX0 17 "CausalTable$History" "oldest" "I", Cond.fieldLink RX0 11 "CausalTable$History" "ring" "[LCausalTable$State;", Cond.classLink RX0 9 RX1, Cond.instantiable RX1 6, Cond.instanceMethod yX1_init, Cond.code yX1_init cX1_init 1 none, Cond.methodLink RX1 5 objectInit, Cond.instanceMethod objectInit, Cond.code objectInit ⟨#[0xb1]⟩ 1 none, Cond.arrayClass .int, Cond.fieldLink RX1 24 "CausalTable$State" "clocks" "[I", Cond.fieldLink RX1 27 "CausalTable$State" "mergeResult" "[I", Cond.methodLink RX0 25 yX1_copyFrom, Cond.instanceMethod yX1_copyFrom, Cond.selects RX1 yX1_copyFrom yX1_copyFrom, Cond.code yX1_copyFrom cX1_copyFrom 2 none, Cond.methodLink RX1 30 arraycopyName, Cond.native arraycopyName]
def wsL_isKept_r7 : List Cond := [Cond.static arraycopyName, Cond.initialized "java/lang/System", Cond.methodLink RX3 84 yX1_mergeReplica, Cond.instanceMethod yX1_mergeReplica, Cond.selects RX1 yX1_mergeReplica yX1_mergeReplica, Cond.code yX1_mergeReplica cX1_mergeReplica 6 (some .int), Cond.methodLink RX1 73 yX1_countAdded, Cond.instanceMethod yX1_countAdded, Cond.selects RX1 yX1_countAdded yX1_countAdded, Cond.code yX1_countAdded cX1_countAdded 5 (some .int), Cond.methodLink RX1 87 yX1_isAdded, Cond.instanceMethod yX1_isAdded, Cond.selects RX1 yX1_isAdded yX1_isAdded, Cond.code yX1_isAdded cX1_isAdded 5 (some .boolean), Cond.methodLink RX1 47 yX1_seenNumber, Cond.methodLink RX1 76 yX1_countRemoved, Cond.instanceMethod yX1_countRemoved, Cond.selects RX1 yX1_countRemoved yX1_countRemoved, Cond.code yX1_countRemoved cX1_countRemoved 5 (some .int), Cond.methodLink RX1 91 yX1_isRemoved, Cond.instanceMethod yX1_isRemoved, Cond.selects RX1 yX1_isRemoved yX1_isRemoved, Cond.code yX1_isRemoved cX1_isRemoved 5 (some .boolean), Cond.methodLink RX1 79 yX1_mergeSlot]
def wsL_isKept_r8 : List Cond := [Cond.instanceMethod yX1_mergeSlot, Cond.selects RX1 yX1_mergeSlot yX1_mergeSlot, Cond.code yX1_mergeSlot cX1_mergeSlot 6 none, Cond.methodLink RX1 83 yX1_mergeKnowledge, Cond.instanceMethod yX1_mergeKnowledge, Cond.selects RX1 yX1_mergeKnowledge yX1_mergeKnowledge, Cond.code yX1_mergeKnowledge cX1_mergeKnowledge 4 none, Cond.methodLink RL 87 yX3_relation, Cond.instanceMethod yX3_relation, Cond.selects RX3 yX3_relation yX3_relation, Cond.code yX3_relation cX3_relation 5 (some .int), Cond.methodLink RX3 156 yX1_knows, Cond.instanceMethod yX1_knows, Cond.selects RX1 yX1_knows yX1_knows, Cond.code yX1_knows cX1_knows 4 (some .boolean), Cond.methodLink RL 71 yX3_include, Cond.instanceMethod yX3_include, Cond.selects RX3 yX3_include yX3_include, Cond.code yX3_include cX3_include 4 (some .int), Cond.methodLink RX3 67 yX3_checkElement, Cond.static yX3_checkElement, Cond.code yX3_checkElement cX3_checkElement 1 none, Cond.methodLink RX3 70 yX1_includeElement, Cond.instanceMethod yX1_includeElement]
def wsL_isKept_r9 : List Cond := [Cond.selects RX1 yX1_includeElement yX1_includeElement, Cond.code yX1_includeElement cX1_includeElement 5 (some .int), Cond.methodLink RX1 50 yX1_beginUpdate, Cond.instanceMethod yX1_beginUpdate, Cond.selects RX1 yX1_beginUpdate yX1_beginUpdate, Cond.code yX1_beginUpdate cX1_beginUpdate 2 none, Cond.methodLink RX1 69 yX1_groupOfElement, Cond.static yX1_groupOfElement, Cond.code yX1_groupOfElement cX1_groupOfElement 1 (some .int), Cond.methodLink RX1 62 yX1_removeGroup, Cond.instanceMethod yX1_removeGroup, Cond.selects RX1 yX1_removeGroup yX1_removeGroup, Cond.code yX1_removeGroup cX1_removeGroup 4 (some .int), Cond.methodLink RX1 44 yX1_removeEntries, Cond.instanceMethod yX1_removeEntries, Cond.selects RX1 yX1_removeEntries yX1_removeEntries, Cond.code yX1_removeEntries cX1_removeEntries 5 (some .int), Cond.methodLink RX1 65 yX1_makeEntry, Cond.instanceMethod yX1_makeEntry, Cond.selects RX1 yX1_makeEntry yX1_makeEntry, Cond.code yX1_makeEntry cX1_makeEntry 6 none, Cond.methodLink RL 74 yX3_exclude, Cond.instanceMethod yX3_exclude, Cond.selects RX3 yX3_exclude yX3_exclude]
def wsL_isKept_r10 : List Cond := [Cond.code yX3_exclude cX3_exclude 4 (some .int), Cond.methodLink RX3 73 yX1_excludeElement, Cond.instanceMethod yX1_excludeElement, Cond.selects RX1 yX1_excludeElement yX1_excludeElement, Cond.code yX1_excludeElement cX1_excludeElement 4 (some .int), Cond.methodLink RL 108 yX3_undo, Cond.instanceMethod yX3_undo, Cond.selects RX3 yX3_undo yX3_undo, Cond.code yX3_undo cX3_undo 1 (some .int), Cond.classLink RX3 93 "java/lang/IllegalStateException", Cond.initialized "java/lang/IllegalStateException", Cond.methodLink RX3 123 yX0_restore, Cond.instanceMethod yX0_restore, Cond.selects RX0 yX0_restore yX0_restore, Cond.code yX0_restore cX0_restore 3 none]
def wsL_isKept : List Cond := .code yL_isKept cL_isKept 9 (some .boolean) :: ((wsL_isKept_r1 ++ (wsL_isKept_r2 ++ (wsL_isKept_r3 ++ (wsL_isKept_r4 ++ (wsL_isKept_r5 ++ (wsL_isKept_r6 ++ (wsL_isKept_r7 ++ (wsL_isKept_r8 ++ (wsL_isKept_r9 ++ wsL_isKept_r10))))))))) ++ wsX30 ++ wsX10 ++ wsX00 ++ (vx_atS RX3 41 "java/lang/IndexOutOfBoundsException" ["java/lang/RuntimeException", "java/lang/Exception"]).filter goodWord ++ (vx_atS RX3 48 "java/lang/IllegalArgumentException" ["java/lang/RuntimeException", "java/lang/Exception"]).filter goodWord ++ (vx_atS RX3 97 "java/lang/IllegalStateException" ["java/lang/RuntimeException", "java/lang/Exception"]).filter goodWord)
def wsL_law0_r1 : List Cond := [Cond.classLink RL 14 RX3, Cond.instantiable RX3 3, Cond.initialized RX3, Cond.methodLink RL 112 yX3_init, Cond.instanceMethod yX3_init, Cond.code yX3_init cX3_init 1 none, Cond.methodLink RX3 1 objectInit, Cond.instanceMethod objectInit, Cond.code objectInit ⟨#[0xb1]⟩ 1 none, Cond.classLink RX3 7 RX1, Cond.instantiable RX1 6, Cond.initialized RX1, Cond.fieldLink RX3 10 "CausalTable" "state" "LCausalTable$State;", Cond.classLink RX3 16 RX0, Cond.instantiable RX0 3, Cond.initialized RX0, Cond.fieldLink RX3 19 "CausalTable" "history" "LCausalTable$History;", Cond.classLink RX3 23 RX2, Cond.instantiable RX2 7, Cond.initialized RX2, Cond.fieldLink RX3 26 "CausalTable" "text" "LCausalTable$Text;", Cond.instanceMethod yX1_init, Cond.code yX1_init cX1_init 1 none, Cond.methodLink RX1 5 objectInit]
def wsL_law0_r2 : List Cond := [Cond.arrayClass .int, Cond.fieldLink RX1 11 "CausalTable$State" "numbers" "[I", Cond.fieldLink RX1 15 "CausalTable$State" "stamps" "[I", Cond.fieldLink RX1 18 "CausalTable$State" "values" "[I", Cond.fieldLink RX1 21 "CausalTable$State" "seenNumbers" "[I", Cond.fieldLink RX1 24 "CausalTable$State" "clocks" "[I", Cond.fieldLink RX1 27 "CausalTable$State" "mergeResult" "[I", Cond.instanceMethod yX0_init, Cond.code yX0_init cX0_init 1 none, Cond.methodLink RX0 3 objectInit, Cond.classLink RX0 9 RX1, Cond.fieldLink RX0 11 "CausalTable$History" "ring" "[LCausalTable$State;", Cond.fieldLink RX0 17 "CausalTable$History" "oldest" "I", Cond.fieldLink RX0 21 "CausalTable$History" "size" "I", Cond.instanceMethod yX2_init, Cond.code yX2_init cX2_init 1 none, Cond.methodLink RX2 3 objectInit, Cond.arrayClass .char, Cond.fieldLink RX2 9 "CausalTable$Text" "characters" "[C", Cond.fieldLink RX2 15 "CausalTable$Text" "length" "I", Cond.fieldLink RX2 19 "CausalTable$Text" "position" "I", Cond.fieldLink RX2 22 "CausalTable$Text" "kind" "I", Cond.fieldLink RX2 25 "CausalTable$Text" "replica" "I", Cond.fieldLink RX2 28 "CausalTable$Text" "target" "I"]
def wsL_law0_r3 : List Cond := [Cond.fieldLink RX2 31 "CausalTable$Text" "number" "I", Cond.methodLink RL 113 yL_holds, Cond.static yL_holds, Cond.initialized RL, Cond.code yL_holds cL_holds 7 (some .boolean), Cond.constantDouble RL 100 (4629137466983448576), Cond.constantDouble RL 102 (4629137495130946247), Cond.methodLink RL 43 yX3_clock, Cond.instanceMethod yX3_clock, Cond.selects RX3 yX3_clock yX3_clock, Cond.code yX3_clock cX3_clock 2 (some .int), Cond.methodLink RX3 30 yX3_checkReplica, Cond.static yX3_checkReplica, Cond.code yX3_checkReplica cX3_checkReplica 1 none, Cond.classLink RX3 37 "java/lang/IndexOutOfBoundsException", Cond.initialized "java/lang/IndexOutOfBoundsException", Cond.methodLink RL 47 yX3_seen, Cond.instanceMethod yX3_seen, Cond.selects RX3 yX3_seen yX3_seen, Cond.code yX3_seen cX3_seen 3 (some .int), Cond.methodLink RX3 149 yX1_seenNumber, Cond.instanceMethod yX1_seenNumber, Cond.selects RX1 yX1_seenNumber yX1_seenNumber, Cond.code yX1_seenNumber cX1_seenNumber 3 (some .int)]
def wsL_law0_r4 : List Cond := [Cond.methodLink RL 28 yX3_entries, Cond.instanceMethod yX3_entries, Cond.selects RX3 yX3_entries yX3_entries, Cond.code yX3_entries cX3_entries 4 (some .int), Cond.methodLink RX3 34 yX3_checkRow, Cond.static yX3_checkRow, Cond.code yX3_checkRow cX3_checkRow 1 none, Cond.methodLink RX3 142 yX1_countInCell, Cond.instanceMethod yX1_countInCell, Cond.selects RX1 yX1_countInCell yX1_countInCell, Cond.code yX1_countInCell cX1_countInCell 4 (some .int), Cond.methodLink RX1 94 yX1_cellStart, Cond.static yX1_cellStart, Cond.code yX1_cellStart cX1_cellStart 3 (some .int), Cond.methodLink RX1 36 yX1_slotOf, Cond.static yX1_slotOf, Cond.code yX1_slotOf cX1_slotOf 3 (some .int), Cond.methodLink RX1 97 yX1_cellEnd, Cond.static yX1_cellEnd, Cond.code yX1_cellEnd cX1_cellEnd 3 (some .int), Cond.methodLink RX1 40 yX1_countEntries, Cond.instanceMethod yX1_countEntries, Cond.selects RX1 yX1_countEntries yX1_countEntries, Cond.code yX1_countEntries cX1_countEntries 5 (some .int)]
def wsL_law0_r5 : List Cond := [Cond.methodLink RL 77 yX3_exists, Cond.instanceMethod yX3_exists, Cond.selects RX3 yX3_exists yX3_exists, Cond.code yX3_exists cX3_exists 3 (some .boolean), Cond.methodLink RX3 145 yX1_holdsRow, Cond.instanceMethod yX1_holdsRow, Cond.selects RX1 yX1_holdsRow yX1_holdsRow, Cond.code yX1_holdsRow cX1_holdsRow 3 (some .boolean), Cond.methodLink RL 13 yX3_latest, Cond.instanceMethod yX3_latest, Cond.selects RX3 yX3_latest yX3_latest, Cond.code yX3_latest cX3_latest 3 (some .int), Cond.methodLink RX3 126 yX1_latestValue, Cond.instanceMethod yX1_latestValue, Cond.selects RX1 yX1_latestValue yX1_latestValue, Cond.code yX1_latestValue cX1_latestValue 8 (some .int), Cond.methodLink RL 19 yX3_greatest, Cond.instanceMethod yX3_greatest, Cond.selects RX3 yX3_greatest yX3_greatest, Cond.code yX3_greatest cX3_greatest 3 (some .int), Cond.methodLink RX3 134 yX1_greatestValue, Cond.instanceMethod yX1_greatestValue, Cond.selects RX1 yX1_greatestValue yX1_greatestValue, Cond.code yX1_greatestValue cX1_greatestValue 6 (some .int)]
def wsL_law0_r6 : List Cond := [Cond.methodLink RX1 57 Lib.Math.max.name, Cond.static Lib.Math.max.name, Cond.initialized "java/lang/Math", Cond.code Lib.Math.max.name Lib.Math.max.code 2 (some .int), Cond.methodLink RL 25 yX3_elements, Cond.instanceMethod yX3_elements, Cond.selects RX3 yX3_elements yX3_elements, Cond.code yX3_elements cX3_elements 3 (some .int), Cond.methodLink RX3 137 yX1_elementBits, Cond.instanceMethod yX1_elementBits, Cond.selects RX1 yX1_elementBits yX1_elementBits, Cond.code yX1_elementBits cX1_elementBits 6 (some .int), Cond.methodLink RL 87 yX3_relation, Cond.instanceMethod yX3_relation, Cond.selects RX3 yX3_relation yX3_relation, Cond.code yX3_relation cX3_relation 5 (some .int), Cond.methodLink RX3 156 yX1_knows, Cond.instanceMethod yX1_knows, Cond.selects RX1 yX1_knows yX1_knows, Cond.code yX1_knows cX1_knows 4 (some .boolean), Cond.methodLink RX1 47 yX1_seenNumber, Cond.methodLink RL 37 yL_cells, Cond.static yL_cells, Cond.code yL_cells cL_cells 6 (some .long)]
def wsL_law0_r7 : List Cond := [Cond.constantLong RL 9 (67), Cond.constantLong RL 11 (31), Cond.methodLink RL 22 yX3_counter, Cond.instanceMethod yX3_counter, Cond.selects RX3 yX3_counter yX3_counter, Cond.code yX3_counter cX3_counter 3 (some .int), Cond.methodLink RX3 63 yX1_sumOfCell, Cond.instanceMethod yX1_sumOfCell, Cond.selects RX1 yX1_sumOfCell yX1_sumOfCell, Cond.code yX1_sumOfCell cX1_sumOfCell 7 (some .int), Cond.methodLink RL 32 yX3_sibling, Cond.instanceMethod yX3_sibling, Cond.selects RX3 yX3_sibling yX3_sibling, Cond.code yX3_sibling cX3_sibling 4 (some .int), Cond.methodLink RX3 131 yX1_siblingAt, Cond.instanceMethod yX1_siblingAt, Cond.selects RX1 yX1_siblingAt yX1_siblingAt, Cond.code yX1_siblingAt cX1_siblingAt 7 (some .int), Cond.methodLink RX1 100 yX1_rankInCell, Cond.instanceMethod yX1_rankInCell, Cond.selects RX1 yX1_rankInCell yX1_rankInCell, Cond.code yX1_rankInCell cX1_rankInCell 7 (some .int), Cond.methodLink RL 93 yX3_conflicts, Cond.instanceMethod yX3_conflicts]
def wsL_law0_r8 : List Cond := [Cond.selects RX3 yX3_conflicts yX3_conflicts, Cond.code yX3_conflicts cX3_conflicts 4 (some .int), Cond.methodLink RL 96 yX3_agreement, Cond.instanceMethod yX3_agreement, Cond.selects RX3 yX3_agreement yX3_agreement, Cond.code yX3_agreement cX3_agreement 4 (some .double), Cond.constantDouble RX3 162 (4629137466983448576), Cond.methodLink RX3 159 yX1_isAgreed, Cond.instanceMethod yX1_isAgreed, Cond.selects RX1 yX1_isAgreed yX1_isAgreed, Cond.code yX1_isAgreed cX1_isAgreed 6 (some .boolean), Cond.methodLink RL 117 yL_cell, Cond.static yL_cell, Cond.code yL_cell cL_cell 2 (some .int), Cond.constant RL 7 (1812433253), Cond.methodLink RL 53 yL_up, Cond.static yL_up, Cond.code yL_up cL_up 2 (some .int), Cond.constant RL 8 (2147483647), Cond.methodLink RL 104 yL_told, Cond.static yL_told, Cond.code yL_told cL_told 5 (some .long), Cond.constantLong RL 35 (71), Cond.methodLink RL 50 yX3_latestMerge]
def wsL_law0_r9 : List Cond := [Cond.instanceMethod yX3_latestMerge, Cond.selects RX3 yX3_latestMerge yX3_latestMerge, Cond.code yX3_latestMerge cX3_latestMerge 2 (some .int), Cond.classLink RX3 44 "java/lang/IllegalArgumentException", Cond.initialized "java/lang/IllegalArgumentException", Cond.methodLink RL 121 yL_merges, Cond.static yL_merges, Cond.code yL_merges cL_merges 12 (some .boolean), Cond.methodLink RL 84 yX3_ifMerged, Cond.instanceMethod yX3_ifMerged, Cond.selects RX3 yX3_ifMerged yX3_ifMerged, Cond.code yX3_ifMerged cX3_ifMerged 4 (some .int), Cond.methodLink RX3 80 yX3_checkDifferent, Cond.static yX3_checkDifferent, Cond.code yX3_checkDifferent cX3_checkDifferent 2 none, Cond.methodLink RX3 171 yX1_countAdded, Cond.instanceMethod yX1_countAdded, Cond.selects RX1 yX1_countAdded yX1_countAdded, Cond.code yX1_countAdded cX1_countAdded 5 (some .int), Cond.methodLink RX1 87 yX1_isAdded, Cond.instanceMethod yX1_isAdded, Cond.selects RX1 yX1_isAdded yX1_isAdded, Cond.code yX1_isAdded cX1_isAdded 5 (some .boolean), Cond.methodLink RX3 174 yX1_countRemoved]
def wsL_law0_r10 : List Cond := [Cond.instanceMethod yX1_countRemoved, Cond.selects RX1 yX1_countRemoved yX1_countRemoved, Cond.code yX1_countRemoved cX1_countRemoved 5 (some .int), Cond.methodLink RX1 91 yX1_isRemoved, Cond.instanceMethod yX1_isRemoved, Cond.selects RX1 yX1_isRemoved yX1_isRemoved, Cond.code yX1_isRemoved cX1_isRemoved 5 (some .boolean), Cond.methodLink RL 90 yX3_merge, Cond.instanceMethod yX3_merge, Cond.selects RX3 yX3_merge yX3_merge, Cond.code yX3_merge cX3_merge 3 (some .int), Cond.methodLink RX3 49 yX0_save, Cond.instanceMethod yX0_save, Cond.selects RX0 yX0_save yX0_save, Cond.code yX0_save cX0_save 4 none, Cond.methodLink RX0 25 yX1_copyFrom, Cond.instanceMethod yX1_copyFrom, Cond.selects RX1 yX1_copyFrom yX1_copyFrom, Cond.code yX1_copyFrom cX1_copyFrom 2 none, Cond.methodLink RX1 30 arraycopyName, Cond.native arraycopyName, Cond.static arraycopyName, Cond.initialized "java/lang/System", Cond.methodLink RX3 84 yX1_mergeReplica]
def wsL_law0_r11 : List Cond := [Cond.instanceMethod yX1_mergeReplica, Cond.selects RX1 yX1_mergeReplica yX1_mergeReplica, Cond.code yX1_mergeReplica cX1_mergeReplica 6 (some .int), Cond.methodLink RX1 73 yX1_countAdded, Cond.methodLink RX1 76 yX1_countRemoved, Cond.methodLink RX1 79 yX1_mergeSlot, Cond.instanceMethod yX1_mergeSlot, Cond.selects RX1 yX1_mergeSlot yX1_mergeSlot, Cond.code yX1_mergeSlot cX1_mergeSlot 6 none, Cond.methodLink RX1 83 yX1_mergeKnowledge, Cond.instanceMethod yX1_mergeKnowledge, Cond.selects RX1 yX1_mergeKnowledge yX1_mergeKnowledge, Cond.code yX1_mergeKnowledge cX1_mergeKnowledge 4 none, Cond.methodLink RL 125 yL_updates, Cond.static yL_updates, Cond.code yL_updates cL_updates 22 (some .boolean), Cond.constantLong RL 56 (3), Cond.constantLong RL 58 (5), Cond.methodLink RL 60 yX3_put, Cond.instanceMethod yX3_put, Cond.selects RX3 yX3_put yX3_put, Cond.code yX3_put cX3_put 5 (some .int), Cond.methodLink RX3 53 yX1_putValue, Cond.instanceMethod yX1_putValue]
def wsL_law0_r12 : List Cond := [Cond.selects RX1 yX1_putValue yX1_putValue, Cond.code yX1_putValue cX1_putValue 7 (some .int), Cond.methodLink RX1 50 yX1_beginUpdate, Cond.instanceMethod yX1_beginUpdate, Cond.selects RX1 yX1_beginUpdate yX1_beginUpdate, Cond.code yX1_beginUpdate cX1_beginUpdate 2 none, Cond.methodLink RX1 54 yX1_greatestValue, Cond.methodLink RX1 62 yX1_removeGroup, Cond.instanceMethod yX1_removeGroup, Cond.selects RX1 yX1_removeGroup yX1_removeGroup, Cond.code yX1_removeGroup cX1_removeGroup 4 (some .int), Cond.methodLink RX1 44 yX1_removeEntries, Cond.instanceMethod yX1_removeEntries, Cond.selects RX1 yX1_removeEntries yX1_removeEntries, Cond.code yX1_removeEntries cX1_removeEntries 5 (some .int), Cond.methodLink RX1 65 yX1_makeEntry, Cond.instanceMethod yX1_makeEntry, Cond.selects RX1 yX1_makeEntry yX1_makeEntry, Cond.code yX1_makeEntry cX1_makeEntry 6 none, Cond.methodLink RL 64 yX3_mean, Cond.instanceMethod yX3_mean, Cond.selects RX3 yX3_mean yX3_mean, Cond.code yX3_mean cX3_mean 4 (some .float), Cond.methodLink RL 68 yX3_add]
def wsL_law0_r13 : List Cond := [Cond.instanceMethod yX3_add, Cond.selects RX3 yX3_add yX3_add, Cond.code yX3_add cX3_add 4 (some .int), Cond.methodLink RX3 59 yX1_addAmount, Cond.instanceMethod yX1_addAmount, Cond.selects RX1 yX1_addAmount yX1_addAmount, Cond.code yX1_addAmount cX1_addAmount 6 none, Cond.methodLink RL 71 yX3_include, Cond.instanceMethod yX3_include, Cond.selects RX3 yX3_include yX3_include, Cond.code yX3_include cX3_include 4 (some .int), Cond.methodLink RX3 67 yX3_checkElement, Cond.static yX3_checkElement, Cond.code yX3_checkElement cX3_checkElement 1 none, Cond.methodLink RX3 70 yX1_includeElement, Cond.instanceMethod yX1_includeElement, Cond.selects RX1 yX1_includeElement yX1_includeElement, Cond.code yX1_includeElement cX1_includeElement 5 (some .int), Cond.methodLink RX1 69 yX1_groupOfElement, Cond.static yX1_groupOfElement, Cond.code yX1_groupOfElement cX1_groupOfElement 1 (some .int), Cond.methodLink RL 74 yX3_exclude, Cond.instanceMethod yX3_exclude, Cond.selects RX3 yX3_exclude yX3_exclude]
def wsL_law0_r14 : List Cond := [Cond.code yX3_exclude cX3_exclude 4 (some .int), Cond.methodLink RX3 73 yX1_excludeElement, Cond.instanceMethod yX1_excludeElement, Cond.selects RX1 yX1_excludeElement yX1_excludeElement, Cond.code yX1_excludeElement cX1_excludeElement 4 (some .int), Cond.methodLink RL 81 yX3_delete, Cond.instanceMethod yX3_delete, Cond.selects RX3 yX3_delete yX3_delete, Cond.code yX3_delete cX3_delete 3 (some .int), Cond.methodLink RX3 76 yX1_deleteRow, Cond.instanceMethod yX1_deleteRow, Cond.selects RX1 yX1_deleteRow yX1_deleteRow, Cond.code yX1_deleteRow cX1_deleteRow 3 (some .int), Cond.methodLink RL 108 yX3_undo, Cond.instanceMethod yX3_undo, Cond.selects RX3 yX3_undo yX3_undo, Cond.code yX3_undo cX3_undo 1 (some .int), Cond.classLink RX3 93 "java/lang/IllegalStateException", Cond.initialized "java/lang/IllegalStateException", Cond.methodLink RX3 123 yX0_restore, Cond.instanceMethod yX0_restore, Cond.selects RX0 yX0_restore yX0_restore, Cond.code yX0_restore cX0_restore 3 none, Cond.methodLink RL 129 yL_isKept]
def wsL_law0_r15 : List Cond := [Cond.static yL_isKept, Cond.code yL_isKept cL_isKept 9 (some .boolean), Cond.methodLink RL 132 yX3_mergeAll, Cond.instanceMethod yX3_mergeAll, Cond.selects RX3 yX3_mergeAll yX3_mergeAll, Cond.code yX3_mergeAll cX3_mergeAll 3 (some .int)]
def wsL_law0 : List Cond := (wsL_law0_r1 ++ (wsL_law0_r2 ++ (wsL_law0_r3 ++ (wsL_law0_r4 ++ (wsL_law0_r5 ++ (wsL_law0_r6 ++ (wsL_law0_r7 ++ (wsL_law0_r8 ++ (wsL_law0_r9 ++ (wsL_law0_r10 ++ (wsL_law0_r11 ++ (wsL_law0_r12 ++ (wsL_law0_r13 ++ (wsL_law0_r14 ++ wsL_law0_r15)))))))))))))) ++ wsX30 ++ wsX10 ++ wsX00 ++ wsX20 ++ ([] : List Cond)
def wsL_law : List Cond := wsL_law0 ++ (vx_atS RX3 41 "java/lang/IndexOutOfBoundsException" ["java/lang/RuntimeException", "java/lang/Exception"]).filter goodWord ++ (vx_atS RX3 48 "java/lang/IllegalArgumentException" ["java/lang/RuntimeException", "java/lang/Exception"]).filter goodWord ++ (vx_atS RX3 97 "java/lang/IllegalStateException" ["java/lang/RuntimeException", "java/lang/Exception"]).filter goodWord
abbrev vwCl : List vw_C := [(RX0, TX0, 3), (RX1, TX1, 6), (RX2, TX2, 7), (RX3, TX3, 3)]
end
section
theorem dX0_init_0 : decode cX0_init 0 = .ok (.aload_n 0, 1) := by decide +kernel
theorem dX0_init_1 : decode cX0_init 1 = .ok (.invokespecial 3, 3) := by decide +kernel
theorem dX0_init_4 : decode cX0_init 4 = .ok (.aload_n 0, 1) := by decide +kernel
theorem dX0_init_5 : decode cX0_init 5 = .ok (.bipush 6, 2) := by decide +kernel
theorem dX0_init_7 : decode cX0_init 7 = .ok (.anewarray 9, 3) := by decide +kernel
theorem dX0_init_10 : decode cX0_init 10 = .ok (.putfield 11, 3) := by decide +kernel
theorem dX0_init_13 : decode cX0_init 13 = .ok (.aload_n 0, 1) := by decide +kernel
theorem dX0_init_14 : decode cX0_init 14 = .ok (.iconst 0, 1) := by decide +kernel
theorem dX0_init_15 : decode cX0_init 15 = .ok (.putfield 17, 3) := by decide +kernel
theorem dX0_init_18 : decode cX0_init 18 = .ok (.aload_n 0, 1) := by decide +kernel
theorem dX0_init_19 : decode cX0_init 19 = .ok (.iconst 0, 1) := by decide +kernel
theorem dX0_init_20 : decode cX0_init 20 = .ok (.putfield 21, 3) := by decide +kernel
theorem dX0_init_23 : decode cX0_init 23 = .ok (.return_, 1) := by decide +kernel
set_option maxRecDepth 20000 in
theorem ggX0_save_X1_init : GoodIn wsX0_save wsX1_init := goodIn_r _ [8, 9, 10, 11, 12, 13, 14, 15, 16, 17, 18, 30, 31, 32, 33, 34, 35] (by decide +kernel) (by decide +kernel)
set_option maxRecDepth 20000 in
theorem gX0_save_X1_init_n24 : GoodIn wsX0_save (wsX1_init) := ggX0_save_X1_init
set_option maxRecDepth 20000 in
theorem ggX0_save_X1_copyFrom : GoodIn wsX0_save wsX1_copyFrom := goodIn_r _ [22, 13, 23, 24, 25, 26, 14, 15, 16, 17, 18, 30, 31, 32, 33, 34, 35] (by decide +kernel) (by decide +kernel)
set_option maxRecDepth 20000 in
theorem gX0_save_X1_copyFrom : GoodIn wsX0_save (wsV RX0 25 RX1 yX1_copyFrom wsX1_copyFrom) := goodIn_app (goodIn_of _ (by decide +kernel)) ggX0_save_X1_copyFrom
theorem dX0_save_0 : decode cX0_save 0 = .ok (.aload_n 0, 1) := by decide +kernel
theorem dX0_save_1 : decode cX0_save 1 = .ok (.getfield 21, 3) := by decide +kernel
theorem dX0_save_4 : decode cX0_save 4 = .ok (.bipush 6, 2) := by decide +kernel
theorem dX0_save_6 : decode cX0_save 6 = .ok (.if_icmp .ne 26, 3) := by decide +kernel
theorem dX0_save_9 : decode cX0_save 9 = .ok (.aload_n 0, 1) := by decide +kernel
theorem dX0_save_10 : decode cX0_save 10 = .ok (.aload_n 0, 1) := by decide +kernel
theorem dX0_save_11 : decode cX0_save 11 = .ok (.getfield 17, 3) := by decide +kernel
theorem dX0_save_14 : decode cX0_save 14 = .ok (.iconst 1, 1) := by decide +kernel
theorem dX0_save_15 : decode cX0_save 15 = .ok (.iadd, 1) := by decide +kernel
theorem dX0_save_16 : decode cX0_save 16 = .ok (.bipush 6, 2) := by decide +kernel
theorem dX0_save_18 : decode cX0_save 18 = .ok (.irem, 1) := by decide +kernel
theorem dX0_save_19 : decode cX0_save 19 = .ok (.putfield 17, 3) := by decide +kernel
theorem dX0_save_22 : decode cX0_save 22 = .ok (.aload_n 0, 1) := by decide +kernel
theorem dX0_save_23 : decode cX0_save 23 = .ok (.dup, 1) := by decide +kernel
theorem dX0_save_24 : decode cX0_save 24 = .ok (.getfield 21, 3) := by decide +kernel
theorem dX0_save_27 : decode cX0_save 27 = .ok (.iconst 1, 1) := by decide +kernel
theorem dX0_save_28 : decode cX0_save 28 = .ok (.isub, 1) := by decide +kernel
theorem dX0_save_29 : decode cX0_save 29 = .ok (.putfield 21, 3) := by decide +kernel
theorem dX0_save_32 : decode cX0_save 32 = .ok (.aload_n 0, 1) := by decide +kernel
theorem dX0_save_33 : decode cX0_save 33 = .ok (.getfield 17, 3) := by decide +kernel
theorem dX0_save_36 : decode cX0_save 36 = .ok (.aload_n 0, 1) := by decide +kernel
theorem dX0_save_37 : decode cX0_save 37 = .ok (.getfield 21, 3) := by decide +kernel
theorem dX0_save_40 : decode cX0_save 40 = .ok (.iadd, 1) := by decide +kernel
theorem dX0_save_41 : decode cX0_save 41 = .ok (.bipush 6, 2) := by decide +kernel
theorem dX0_save_43 : decode cX0_save 43 = .ok (.irem, 1) := by decide +kernel
theorem dX0_save_44 : decode cX0_save 44 = .ok (.istore_n 2, 1) := by decide +kernel
theorem dX0_save_45 : decode cX0_save 45 = .ok (.aload_n 0, 1) := by decide +kernel
theorem dX0_save_46 : decode cX0_save 46 = .ok (.getfield 11, 3) := by decide +kernel
theorem dX0_save_49 : decode cX0_save 49 = .ok (.iload_n 2, 1) := by decide +kernel
theorem dX0_save_50 : decode cX0_save 50 = .ok (.aaload, 1) := by decide +kernel
theorem dX0_save_51 : decode cX0_save 51 = .ok (.astore_n 3, 1) := by decide +kernel
theorem dX0_save_52 : decode cX0_save 52 = .ok (.aload_n 3, 1) := by decide +kernel
theorem dX0_save_53 : decode cX0_save 53 = .ok (.ifnonnull 18, 3) := by decide +kernel
theorem dX0_save_56 : decode cX0_save 56 = .ok (.new 9, 3) := by decide +kernel
theorem dX0_save_59 : decode cX0_save 59 = .ok (.dup, 1) := by decide +kernel
theorem dX0_save_60 : decode cX0_save 60 = .ok (.invokespecial 24, 3) := by decide +kernel
theorem dX0_save_63 : decode cX0_save 63 = .ok (.astore_n 3, 1) := by decide +kernel
theorem dX0_save_64 : decode cX0_save 64 = .ok (.aload_n 0, 1) := by decide +kernel
theorem dX0_save_65 : decode cX0_save 65 = .ok (.getfield 11, 3) := by decide +kernel
theorem dX0_save_68 : decode cX0_save 68 = .ok (.iload_n 2, 1) := by decide +kernel
theorem dX0_save_69 : decode cX0_save 69 = .ok (.aload_n 3, 1) := by decide +kernel
theorem dX0_save_70 : decode cX0_save 70 = .ok (.aastore, 1) := by decide +kernel
theorem dX0_save_71 : decode cX0_save 71 = .ok (.aload_n 3, 1) := by decide +kernel
theorem dX0_save_72 : decode cX0_save 72 = .ok (.aload_n 1, 1) := by decide +kernel
theorem dX0_save_73 : decode cX0_save 73 = .ok (.invokevirtual 25, 3) := by decide +kernel
theorem dX0_save_76 : decode cX0_save 76 = .ok (.aload_n 0, 1) := by decide +kernel
theorem dX0_save_77 : decode cX0_save 77 = .ok (.dup, 1) := by decide +kernel
theorem dX0_save_78 : decode cX0_save 78 = .ok (.getfield 21, 3) := by decide +kernel
theorem dX0_save_81 : decode cX0_save 81 = .ok (.iconst 1, 1) := by decide +kernel
theorem dX0_save_82 : decode cX0_save 82 = .ok (.iadd, 1) := by decide +kernel
theorem dX0_save_83 : decode cX0_save 83 = .ok (.putfield 21, 3) := by decide +kernel
theorem dX0_save_86 : decode cX0_save 86 = .ok (.return_, 1) := by decide +kernel
set_option maxRecDepth 20000 in
theorem ggX0_restore_X1_copyFrom : GoodIn wsX0_restore wsX1_copyFrom := goodIn_r _ [8, 9, 10, 11, 12, 13, 14, 15, 16, 17, 18, 22, 23, 24, 25, 26, 27] (by decide +kernel) (by decide +kernel)
set_option maxRecDepth 20000 in
theorem gX0_restore_X1_copyFrom : GoodIn wsX0_restore (wsV RX0 25 RX1 yX1_copyFrom wsX1_copyFrom) := goodIn_app (goodIn_of _ (by decide +kernel)) ggX0_restore_X1_copyFrom
theorem dX0_restore_0 : decode cX0_restore 0 = .ok (.aload_n 0, 1) := by decide +kernel
theorem dX0_restore_1 : decode cX0_restore 1 = .ok (.getfield 21, 3) := by decide +kernel
theorem dX0_restore_4 : decode cX0_restore 4 = .ok (.ifCond .ne 4, 3) := by decide +kernel
theorem dX0_restore_7 : decode cX0_restore 7 = .ok (.return_, 1) := by decide +kernel
theorem dX0_restore_8 : decode cX0_restore 8 = .ok (.aload_n 0, 1) := by decide +kernel
theorem dX0_restore_9 : decode cX0_restore 9 = .ok (.dup, 1) := by decide +kernel
theorem dX0_restore_10 : decode cX0_restore 10 = .ok (.getfield 21, 3) := by decide +kernel
theorem dX0_restore_13 : decode cX0_restore 13 = .ok (.iconst 1, 1) := by decide +kernel
theorem dX0_restore_14 : decode cX0_restore 14 = .ok (.isub, 1) := by decide +kernel
theorem dX0_restore_15 : decode cX0_restore 15 = .ok (.putfield 21, 3) := by decide +kernel
theorem dX0_restore_18 : decode cX0_restore 18 = .ok (.aload_n 0, 1) := by decide +kernel
theorem dX0_restore_19 : decode cX0_restore 19 = .ok (.getfield 11, 3) := by decide +kernel
theorem dX0_restore_22 : decode cX0_restore 22 = .ok (.aload_n 0, 1) := by decide +kernel
theorem dX0_restore_23 : decode cX0_restore 23 = .ok (.getfield 17, 3) := by decide +kernel
theorem dX0_restore_26 : decode cX0_restore 26 = .ok (.aload_n 0, 1) := by decide +kernel
theorem dX0_restore_27 : decode cX0_restore 27 = .ok (.getfield 21, 3) := by decide +kernel
theorem dX0_restore_30 : decode cX0_restore 30 = .ok (.iadd, 1) := by decide +kernel
theorem dX0_restore_31 : decode cX0_restore 31 = .ok (.bipush 6, 2) := by decide +kernel
theorem dX0_restore_33 : decode cX0_restore 33 = .ok (.irem, 1) := by decide +kernel
theorem dX0_restore_34 : decode cX0_restore 34 = .ok (.aaload, 1) := by decide +kernel
theorem dX0_restore_35 : decode cX0_restore 35 = .ok (.astore_n 2, 1) := by decide +kernel
theorem dX0_restore_36 : decode cX0_restore 36 = .ok (.aload_n 2, 1) := by decide +kernel
theorem dX0_restore_37 : decode cX0_restore 37 = .ok (.ifnull 8, 3) := by decide +kernel
theorem dX0_restore_40 : decode cX0_restore 40 = .ok (.aload_n 1, 1) := by decide +kernel
theorem dX0_restore_41 : decode cX0_restore 41 = .ok (.aload_n 2, 1) := by decide +kernel
theorem dX0_restore_42 : decode cX0_restore 42 = .ok (.invokevirtual 25, 3) := by decide +kernel
theorem dX0_restore_45 : decode cX0_restore 45 = .ok (.return_, 1) := by decide +kernel
theorem dX1_init_0 : decode cX1_init 0 = .ok (.aload_n 0, 1) := by decide +kernel
theorem dX1_init_1 : decode cX1_init 1 = .ok (.invokespecial 5, 3) := by decide +kernel
theorem dX1_init_4 : decode cX1_init 4 = .ok (.aload_n 0, 1) := by decide +kernel
theorem dX1_init_5 : decode cX1_init 5 = .ok (.sipush 1920, 3) := by decide +kernel
theorem dX1_init_8 : decode cX1_init 8 = .ok (.newarray .int, 2) := by decide +kernel
theorem dX1_init_10 : decode cX1_init 10 = .ok (.putfield 11, 3) := by decide +kernel
theorem dX1_init_13 : decode cX1_init 13 = .ok (.aload_n 0, 1) := by decide +kernel
theorem dX1_init_14 : decode cX1_init 14 = .ok (.sipush 1920, 3) := by decide +kernel
theorem dX1_init_17 : decode cX1_init 17 = .ok (.newarray .int, 2) := by decide +kernel
theorem dX1_init_19 : decode cX1_init 19 = .ok (.putfield 15, 3) := by decide +kernel
theorem dX1_init_22 : decode cX1_init 22 = .ok (.aload_n 0, 1) := by decide +kernel
theorem dX1_init_23 : decode cX1_init 23 = .ok (.sipush 1920, 3) := by decide +kernel
theorem dX1_init_26 : decode cX1_init 26 = .ok (.newarray .int, 2) := by decide +kernel
theorem dX1_init_28 : decode cX1_init 28 = .ok (.putfield 18, 3) := by decide +kernel
theorem dX1_init_31 : decode cX1_init 31 = .ok (.aload_n 0, 1) := by decide +kernel
theorem dX1_init_32 : decode cX1_init 32 = .ok (.bipush 16, 2) := by decide +kernel
theorem dX1_init_34 : decode cX1_init 34 = .ok (.newarray .int, 2) := by decide +kernel
theorem dX1_init_36 : decode cX1_init 36 = .ok (.putfield 21, 3) := by decide +kernel
theorem dX1_init_39 : decode cX1_init 39 = .ok (.aload_n 0, 1) := by decide +kernel
theorem dX1_init_40 : decode cX1_init 40 = .ok (.iconst 4, 1) := by decide +kernel
theorem dX1_init_41 : decode cX1_init 41 = .ok (.newarray .int, 2) := by decide +kernel
theorem dX1_init_43 : decode cX1_init 43 = .ok (.putfield 24, 3) := by decide +kernel
theorem dX1_init_46 : decode cX1_init 46 = .ok (.aload_n 0, 1) := by decide +kernel
theorem dX1_init_47 : decode cX1_init 47 = .ok (.iconst 4, 1) := by decide +kernel
theorem dX1_init_48 : decode cX1_init 48 = .ok (.newarray .int, 2) := by decide +kernel
theorem dX1_init_50 : decode cX1_init 50 = .ok (.dup, 1) := by decide +kernel
theorem dX1_init_51 : decode cX1_init 51 = .ok (.iconst 0, 1) := by decide +kernel
theorem dX1_init_52 : decode cX1_init 52 = .ok (.iconst (-1), 1) := by decide +kernel
theorem dX1_init_53 : decode cX1_init 53 = .ok (.iastore, 1) := by decide +kernel
theorem dX1_init_54 : decode cX1_init 54 = .ok (.dup, 1) := by decide +kernel
theorem dX1_init_55 : decode cX1_init 55 = .ok (.iconst 1, 1) := by decide +kernel
theorem dX1_init_56 : decode cX1_init 56 = .ok (.iconst (-1), 1) := by decide +kernel
theorem dX1_init_57 : decode cX1_init 57 = .ok (.iastore, 1) := by decide +kernel
theorem dX1_init_58 : decode cX1_init 58 = .ok (.dup, 1) := by decide +kernel
theorem dX1_init_59 : decode cX1_init 59 = .ok (.iconst 2, 1) := by decide +kernel
theorem dX1_init_60 : decode cX1_init 60 = .ok (.iconst (-1), 1) := by decide +kernel
theorem dX1_init_61 : decode cX1_init 61 = .ok (.iastore, 1) := by decide +kernel
theorem dX1_init_62 : decode cX1_init 62 = .ok (.dup, 1) := by decide +kernel
theorem dX1_init_63 : decode cX1_init 63 = .ok (.iconst 3, 1) := by decide +kernel
theorem dX1_init_64 : decode cX1_init 64 = .ok (.iconst (-1), 1) := by decide +kernel
theorem dX1_init_65 : decode cX1_init 65 = .ok (.iastore, 1) := by decide +kernel
theorem dX1_init_66 : decode cX1_init 66 = .ok (.putfield 27, 3) := by decide +kernel
theorem dX1_init_69 : decode cX1_init 69 = .ok (.return_, 1) := by decide +kernel
theorem dX1_copyFrom_0 : decode cX1_copyFrom 0 = .ok (.aload_n 1, 1) := by decide +kernel
theorem dX1_copyFrom_1 : decode cX1_copyFrom 1 = .ok (.getfield 11, 3) := by decide +kernel
theorem dX1_copyFrom_4 : decode cX1_copyFrom 4 = .ok (.iconst 0, 1) := by decide +kernel
theorem dX1_copyFrom_5 : decode cX1_copyFrom 5 = .ok (.aload_n 0, 1) := by decide +kernel
theorem dX1_copyFrom_6 : decode cX1_copyFrom 6 = .ok (.getfield 11, 3) := by decide +kernel
theorem dX1_copyFrom_9 : decode cX1_copyFrom 9 = .ok (.iconst 0, 1) := by decide +kernel
theorem dX1_copyFrom_10 : decode cX1_copyFrom 10 = .ok (.sipush 1920, 3) := by decide +kernel
theorem dX1_copyFrom_13 : decode cX1_copyFrom 13 = .ok (.invokestatic 30, 3) := by decide +kernel
theorem dX1_copyFrom_16 : decode cX1_copyFrom 16 = .ok (.aload_n 1, 1) := by decide +kernel
theorem dX1_copyFrom_17 : decode cX1_copyFrom 17 = .ok (.getfield 15, 3) := by decide +kernel
theorem dX1_copyFrom_20 : decode cX1_copyFrom 20 = .ok (.iconst 0, 1) := by decide +kernel
theorem dX1_copyFrom_21 : decode cX1_copyFrom 21 = .ok (.aload_n 0, 1) := by decide +kernel
theorem dX1_copyFrom_22 : decode cX1_copyFrom 22 = .ok (.getfield 15, 3) := by decide +kernel
theorem dX1_copyFrom_25 : decode cX1_copyFrom 25 = .ok (.iconst 0, 1) := by decide +kernel
theorem dX1_copyFrom_26 : decode cX1_copyFrom 26 = .ok (.sipush 1920, 3) := by decide +kernel
theorem dX1_copyFrom_29 : decode cX1_copyFrom 29 = .ok (.invokestatic 30, 3) := by decide +kernel
theorem dX1_copyFrom_32 : decode cX1_copyFrom 32 = .ok (.aload_n 1, 1) := by decide +kernel
theorem dX1_copyFrom_33 : decode cX1_copyFrom 33 = .ok (.getfield 18, 3) := by decide +kernel
theorem dX1_copyFrom_36 : decode cX1_copyFrom 36 = .ok (.iconst 0, 1) := by decide +kernel
theorem dX1_copyFrom_37 : decode cX1_copyFrom 37 = .ok (.aload_n 0, 1) := by decide +kernel
theorem dX1_copyFrom_38 : decode cX1_copyFrom 38 = .ok (.getfield 18, 3) := by decide +kernel
theorem dX1_copyFrom_41 : decode cX1_copyFrom 41 = .ok (.iconst 0, 1) := by decide +kernel
theorem dX1_copyFrom_42 : decode cX1_copyFrom 42 = .ok (.sipush 1920, 3) := by decide +kernel
theorem dX1_copyFrom_45 : decode cX1_copyFrom 45 = .ok (.invokestatic 30, 3) := by decide +kernel
theorem dX1_copyFrom_48 : decode cX1_copyFrom 48 = .ok (.aload_n 1, 1) := by decide +kernel
theorem dX1_copyFrom_49 : decode cX1_copyFrom 49 = .ok (.getfield 21, 3) := by decide +kernel
theorem dX1_copyFrom_52 : decode cX1_copyFrom 52 = .ok (.iconst 0, 1) := by decide +kernel
theorem dX1_copyFrom_53 : decode cX1_copyFrom 53 = .ok (.aload_n 0, 1) := by decide +kernel
theorem dX1_copyFrom_54 : decode cX1_copyFrom 54 = .ok (.getfield 21, 3) := by decide +kernel
theorem dX1_copyFrom_57 : decode cX1_copyFrom 57 = .ok (.iconst 0, 1) := by decide +kernel
theorem dX1_copyFrom_58 : decode cX1_copyFrom 58 = .ok (.bipush 16, 2) := by decide +kernel
theorem dX1_copyFrom_60 : decode cX1_copyFrom 60 = .ok (.invokestatic 30, 3) := by decide +kernel
theorem dX1_copyFrom_63 : decode cX1_copyFrom 63 = .ok (.aload_n 1, 1) := by decide +kernel
theorem dX1_copyFrom_64 : decode cX1_copyFrom 64 = .ok (.getfield 24, 3) := by decide +kernel
theorem dX1_copyFrom_67 : decode cX1_copyFrom 67 = .ok (.iconst 0, 1) := by decide +kernel
theorem dX1_copyFrom_68 : decode cX1_copyFrom 68 = .ok (.aload_n 0, 1) := by decide +kernel
theorem dX1_copyFrom_69 : decode cX1_copyFrom 69 = .ok (.getfield 24, 3) := by decide +kernel
theorem dX1_copyFrom_72 : decode cX1_copyFrom 72 = .ok (.iconst 0, 1) := by decide +kernel
theorem dX1_copyFrom_73 : decode cX1_copyFrom 73 = .ok (.iconst 4, 1) := by decide +kernel
theorem dX1_copyFrom_74 : decode cX1_copyFrom 74 = .ok (.invokestatic 30, 3) := by decide +kernel
theorem dX1_copyFrom_77 : decode cX1_copyFrom 77 = .ok (.aload_n 1, 1) := by decide +kernel
theorem dX1_copyFrom_78 : decode cX1_copyFrom 78 = .ok (.getfield 27, 3) := by decide +kernel
theorem dX1_copyFrom_81 : decode cX1_copyFrom 81 = .ok (.iconst 0, 1) := by decide +kernel
theorem dX1_copyFrom_82 : decode cX1_copyFrom 82 = .ok (.aload_n 0, 1) := by decide +kernel
theorem dX1_copyFrom_83 : decode cX1_copyFrom 83 = .ok (.getfield 27, 3) := by decide +kernel
theorem dX1_copyFrom_86 : decode cX1_copyFrom 86 = .ok (.iconst 0, 1) := by decide +kernel
theorem dX1_copyFrom_87 : decode cX1_copyFrom 87 = .ok (.iconst 4, 1) := by decide +kernel
theorem dX1_copyFrom_88 : decode cX1_copyFrom 88 = .ok (.invokestatic 30, 3) := by decide +kernel
theorem dX1_copyFrom_91 : decode cX1_copyFrom 91 = .ok (.return_, 1) := by decide +kernel
theorem dX1_slotOf_0 : decode cX1_slotOf 0 = .ok (.iload_n 0, 1) := by decide +kernel
theorem dX1_slotOf_1 : decode cX1_slotOf 1 = .ok (.sipush 480, 3) := by decide +kernel
theorem dX1_slotOf_4 : decode cX1_slotOf 4 = .ok (.imul, 1) := by decide +kernel
theorem dX1_slotOf_5 : decode cX1_slotOf 5 = .ok (.iload_n 1, 1) := by decide +kernel
theorem dX1_slotOf_6 : decode cX1_slotOf 6 = .ok (.bipush 80, 2) := by decide +kernel
theorem dX1_slotOf_8 : decode cX1_slotOf 8 = .ok (.imul, 1) := by decide +kernel
theorem dX1_slotOf_9 : decode cX1_slotOf 9 = .ok (.iadd, 1) := by decide +kernel
theorem dX1_slotOf_10 : decode cX1_slotOf 10 = .ok (.iload_n 2, 1) := by decide +kernel
theorem dX1_slotOf_11 : decode cX1_slotOf 11 = .ok (.iconst 4, 1) := by decide +kernel
theorem dX1_slotOf_12 : decode cX1_slotOf 12 = .ok (.imul, 1) := by decide +kernel
theorem dX1_slotOf_13 : decode cX1_slotOf 13 = .ok (.iadd, 1) := by decide +kernel
theorem dX1_slotOf_14 : decode cX1_slotOf 14 = .ok (.ireturn, 1) := by decide +kernel
set_option maxRecDepth 20000 in
theorem ggX1_cellStart_X1_slotOf : GoodIn wsX1_cellStart wsX1_slotOf := goodIn_r _ [4] (by decide +kernel) (by decide +kernel)
set_option maxRecDepth 20000 in
theorem gX1_cellStart_X1_slotOf : GoodIn wsX1_cellStart (va_wsS RX1 36 yX1_slotOf wsX1_slotOf) := goodIn_app (goodIn_of _ (by decide +kernel)) ggX1_cellStart_X1_slotOf
theorem dX1_cellStart_0 : decode cX1_cellStart 0 = .ok (.iload_n 0, 1) := by decide +kernel
theorem dX1_cellStart_1 : decode cX1_cellStart 1 = .ok (.iload_n 1, 1) := by decide +kernel
theorem dX1_cellStart_2 : decode cX1_cellStart 2 = .ok (.iload_n 2, 1) := by decide +kernel
theorem dX1_cellStart_3 : decode cX1_cellStart 3 = .ok (.invokestatic 36, 3) := by decide +kernel
theorem dX1_cellStart_6 : decode cX1_cellStart 6 = .ok (.ireturn, 1) := by decide +kernel
set_option maxRecDepth 20000 in
theorem ggX1_cellEnd_X1_slotOf : GoodIn wsX1_cellEnd wsX1_slotOf := goodIn_r _ [4] (by decide +kernel) (by decide +kernel)
set_option maxRecDepth 20000 in
theorem gX1_cellEnd_X1_slotOf : GoodIn wsX1_cellEnd (va_wsS RX1 36 yX1_slotOf wsX1_slotOf) := goodIn_app (goodIn_of _ (by decide +kernel)) ggX1_cellEnd_X1_slotOf
theorem dX1_cellEnd_0 : decode cX1_cellEnd 0 = .ok (.iload_n 0, 1) := by decide +kernel
theorem dX1_cellEnd_1 : decode cX1_cellEnd 1 = .ok (.iload_n 1, 1) := by decide +kernel
theorem dX1_cellEnd_2 : decode cX1_cellEnd 2 = .ok (.iload_n 2, 1) := by decide +kernel
theorem dX1_cellEnd_3 : decode cX1_cellEnd 3 = .ok (.iconst 4, 1) := by decide +kernel
theorem dX1_cellEnd_4 : decode cX1_cellEnd 4 = .ok (.if_icmp .ne 8, 3) := by decide +kernel
theorem dX1_cellEnd_7 : decode cX1_cellEnd 7 = .ok (.bipush 20, 2) := by decide +kernel
theorem dX1_cellEnd_9 : decode cX1_cellEnd 9 = .ok (.goto 6, 3) := by decide +kernel
theorem dX1_cellEnd_12 : decode cX1_cellEnd 12 = .ok (.iload_n 2, 1) := by decide +kernel
theorem dX1_cellEnd_13 : decode cX1_cellEnd 13 = .ok (.iconst 1, 1) := by decide +kernel
theorem dX1_cellEnd_14 : decode cX1_cellEnd 14 = .ok (.iadd, 1) := by decide +kernel
theorem dX1_cellEnd_15 : decode cX1_cellEnd 15 = .ok (.invokestatic 36, 3) := by decide +kernel
theorem dX1_cellEnd_18 : decode cX1_cellEnd 18 = .ok (.ireturn, 1) := by decide +kernel
theorem dX1_groupOfElement_0 : decode cX1_groupOfElement 0 = .ok (.iconst 4, 1) := by decide +kernel
theorem dX1_groupOfElement_1 : decode cX1_groupOfElement 1 = .ok (.iload_n 0, 1) := by decide +kernel
theorem dX1_groupOfElement_2 : decode cX1_groupOfElement 2 = .ok (.iadd, 1) := by decide +kernel
theorem dX1_groupOfElement_3 : decode cX1_groupOfElement 3 = .ok (.ireturn, 1) := by decide +kernel
theorem dX1_countEntries_0 : decode cX1_countEntries 0 = .ok (.iconst 0, 1) := by decide +kernel
theorem dX1_countEntries_1 : decode cX1_countEntries 1 = .ok (.istore_n 3, 1) := by decide +kernel
theorem dX1_countEntries_2 : decode cX1_countEntries 2 = .ok (.iload_n 1, 1) := by decide +kernel
theorem dX1_countEntries_3 : decode cX1_countEntries 3 = .ok (.istore 4, 2) := by decide +kernel
theorem dX1_countEntries_5 : decode cX1_countEntries 5 = .ok (.iload 4, 2) := by decide +kernel
theorem dX1_countEntries_7 : decode cX1_countEntries 7 = .ok (.iload_n 2, 1) := by decide +kernel
theorem dX1_countEntries_8 : decode cX1_countEntries 8 = .ok (.if_icmp .ge 22, 3) := by decide +kernel
theorem dX1_countEntries_11 : decode cX1_countEntries 11 = .ok (.aload_n 0, 1) := by decide +kernel
theorem dX1_countEntries_12 : decode cX1_countEntries 12 = .ok (.getfield 11, 3) := by decide +kernel
theorem dX1_countEntries_15 : decode cX1_countEntries 15 = .ok (.iload 4, 2) := by decide +kernel
theorem dX1_countEntries_17 : decode cX1_countEntries 17 = .ok (.iaload, 1) := by decide +kernel
theorem dX1_countEntries_18 : decode cX1_countEntries 18 = .ok (.ifCond .eq 6, 3) := by decide +kernel
theorem dX1_countEntries_21 : decode cX1_countEntries 21 = .ok (.iinc 3 1, 3) := by decide +kernel
theorem dX1_countEntries_24 : decode cX1_countEntries 24 = .ok (.iinc 4 1, 3) := by decide +kernel
theorem dX1_countEntries_27 : decode cX1_countEntries 27 = .ok (.goto (-22), 3) := by decide +kernel
theorem dX1_countEntries_30 : decode cX1_countEntries 30 = .ok (.iload_n 3, 1) := by decide +kernel
theorem dX1_countEntries_31 : decode cX1_countEntries 31 = .ok (.ireturn, 1) := by decide +kernel
set_option maxRecDepth 20000 in
theorem ggX1_removeEntries_X1_countEntries : GoodIn wsX1_removeEntries wsX1_countEntries := goodIn_r _ [6, 1, 7, 8, 9, 10, 11, 12] (by decide +kernel) (by decide +kernel)
set_option maxRecDepth 20000 in
theorem gX1_removeEntries_X1_countEntries : GoodIn wsX1_removeEntries (wsV RX1 40 RX1 yX1_countEntries wsX1_countEntries) := goodIn_app (goodIn_of _ (by decide +kernel)) ggX1_removeEntries_X1_countEntries
theorem dX1_removeEntries_0 : decode cX1_removeEntries 0 = .ok (.aload_n 0, 1) := by decide +kernel
theorem dX1_removeEntries_1 : decode cX1_removeEntries 1 = .ok (.iload_n 1, 1) := by decide +kernel
theorem dX1_removeEntries_2 : decode cX1_removeEntries 2 = .ok (.iload_n 2, 1) := by decide +kernel
theorem dX1_removeEntries_3 : decode cX1_removeEntries 3 = .ok (.invokevirtual 40, 3) := by decide +kernel
theorem dX1_removeEntries_6 : decode cX1_removeEntries 6 = .ok (.istore_n 3, 1) := by decide +kernel
theorem dX1_removeEntries_7 : decode cX1_removeEntries 7 = .ok (.iload_n 1, 1) := by decide +kernel
theorem dX1_removeEntries_8 : decode cX1_removeEntries 8 = .ok (.istore 4, 2) := by decide +kernel
theorem dX1_removeEntries_10 : decode cX1_removeEntries 10 = .ok (.iload 4, 2) := by decide +kernel
theorem dX1_removeEntries_12 : decode cX1_removeEntries 12 = .ok (.iload_n 2, 1) := by decide +kernel
theorem dX1_removeEntries_13 : decode cX1_removeEntries 13 = .ok (.if_icmp .ge 17, 3) := by decide +kernel
theorem dX1_removeEntries_16 : decode cX1_removeEntries 16 = .ok (.aload_n 0, 1) := by decide +kernel
theorem dX1_removeEntries_17 : decode cX1_removeEntries 17 = .ok (.getfield 11, 3) := by decide +kernel
theorem dX1_removeEntries_20 : decode cX1_removeEntries 20 = .ok (.iload 4, 2) := by decide +kernel
theorem dX1_removeEntries_22 : decode cX1_removeEntries 22 = .ok (.iconst 0, 1) := by decide +kernel
theorem dX1_removeEntries_23 : decode cX1_removeEntries 23 = .ok (.iastore, 1) := by decide +kernel
theorem dX1_removeEntries_24 : decode cX1_removeEntries 24 = .ok (.iinc 4 1, 3) := by decide +kernel
theorem dX1_removeEntries_27 : decode cX1_removeEntries 27 = .ok (.goto (-17), 3) := by decide +kernel
theorem dX1_removeEntries_30 : decode cX1_removeEntries 30 = .ok (.iload_n 3, 1) := by decide +kernel
theorem dX1_removeEntries_31 : decode cX1_removeEntries 31 = .ok (.ireturn, 1) := by decide +kernel
set_option maxRecDepth 20000 in
theorem ggX1_removeGroup_X1_slotOf : GoodIn wsX1_removeGroup wsX1_slotOf := goodIn_r _ [4] (by decide +kernel) (by decide +kernel)
set_option maxRecDepth 20000 in
theorem gX1_removeGroup_X1_slotOf : GoodIn wsX1_removeGroup (va_wsS RX1 36 yX1_slotOf wsX1_slotOf) := goodIn_app (goodIn_of _ (by decide +kernel)) ggX1_removeGroup_X1_slotOf
set_option maxRecDepth 20000 in
theorem ggX1_removeGroup_X1_removeEntries : GoodIn wsX1_removeGroup wsX1_removeEntries := goodIn_r _ [8, 9, 10, 11, 12, 3, 13, 14, 15, 16, 17, 18, 19] (by decide +kernel) (by decide +kernel)
set_option maxRecDepth 20000 in
theorem gX1_removeGroup_X1_removeEntries : GoodIn wsX1_removeGroup (wsV RX1 44 RX1 yX1_removeEntries wsX1_removeEntries) := goodIn_app (goodIn_of _ (by decide +kernel)) ggX1_removeGroup_X1_removeEntries
theorem dX1_removeGroup_0 : decode cX1_removeGroup 0 = .ok (.aload_n 0, 1) := by decide +kernel
theorem dX1_removeGroup_1 : decode cX1_removeGroup 1 = .ok (.iload_n 1, 1) := by decide +kernel
theorem dX1_removeGroup_2 : decode cX1_removeGroup 2 = .ok (.iload_n 2, 1) := by decide +kernel
theorem dX1_removeGroup_3 : decode cX1_removeGroup 3 = .ok (.iload_n 3, 1) := by decide +kernel
theorem dX1_removeGroup_4 : decode cX1_removeGroup 4 = .ok (.invokestatic 36, 3) := by decide +kernel
theorem dX1_removeGroup_7 : decode cX1_removeGroup 7 = .ok (.iload_n 1, 1) := by decide +kernel
theorem dX1_removeGroup_8 : decode cX1_removeGroup 8 = .ok (.iload_n 2, 1) := by decide +kernel
theorem dX1_removeGroup_9 : decode cX1_removeGroup 9 = .ok (.iload_n 3, 1) := by decide +kernel
theorem dX1_removeGroup_10 : decode cX1_removeGroup 10 = .ok (.iconst 1, 1) := by decide +kernel
theorem dX1_removeGroup_11 : decode cX1_removeGroup 11 = .ok (.iadd, 1) := by decide +kernel
theorem dX1_removeGroup_12 : decode cX1_removeGroup 12 = .ok (.invokestatic 36, 3) := by decide +kernel
theorem dX1_removeGroup_15 : decode cX1_removeGroup 15 = .ok (.invokevirtual 44, 3) := by decide +kernel
theorem dX1_removeGroup_18 : decode cX1_removeGroup 18 = .ok (.ireturn, 1) := by decide +kernel
theorem dX1_seenNumber_0 : decode cX1_seenNumber 0 = .ok (.aload_n 0, 1) := by decide +kernel
theorem dX1_seenNumber_1 : decode cX1_seenNumber 1 = .ok (.getfield 21, 3) := by decide +kernel
theorem dX1_seenNumber_4 : decode cX1_seenNumber 4 = .ok (.iload_n 1, 1) := by decide +kernel
theorem dX1_seenNumber_5 : decode cX1_seenNumber 5 = .ok (.iconst 4, 1) := by decide +kernel
theorem dX1_seenNumber_6 : decode cX1_seenNumber 6 = .ok (.imul, 1) := by decide +kernel
theorem dX1_seenNumber_7 : decode cX1_seenNumber 7 = .ok (.iload_n 2, 1) := by decide +kernel
theorem dX1_seenNumber_8 : decode cX1_seenNumber 8 = .ok (.iadd, 1) := by decide +kernel
theorem dX1_seenNumber_9 : decode cX1_seenNumber 9 = .ok (.iaload, 1) := by decide +kernel
theorem dX1_seenNumber_10 : decode cX1_seenNumber 10 = .ok (.ireturn, 1) := by decide +kernel
theorem dX1_beginUpdate_0 : decode cX1_beginUpdate 0 = .ok (.aload_n 0, 1) := by decide +kernel
theorem dX1_beginUpdate_1 : decode cX1_beginUpdate 1 = .ok (.getfield 24, 3) := by decide +kernel
theorem dX1_beginUpdate_4 : decode cX1_beginUpdate 4 = .ok (.iload_n 1, 1) := by decide +kernel
theorem dX1_beginUpdate_5 : decode cX1_beginUpdate 5 = .ok (.dup2, 1) := by decide +kernel
theorem dX1_beginUpdate_6 : decode cX1_beginUpdate 6 = .ok (.iaload, 1) := by decide +kernel
theorem dX1_beginUpdate_7 : decode cX1_beginUpdate 7 = .ok (.iconst 1, 1) := by decide +kernel
theorem dX1_beginUpdate_8 : decode cX1_beginUpdate 8 = .ok (.iadd, 1) := by decide +kernel
theorem dX1_beginUpdate_9 : decode cX1_beginUpdate 9 = .ok (.iastore, 1) := by decide +kernel
theorem dX1_beginUpdate_10 : decode cX1_beginUpdate 10 = .ok (.aload_n 0, 1) := by decide +kernel
theorem dX1_beginUpdate_11 : decode cX1_beginUpdate 11 = .ok (.getfield 21, 3) := by decide +kernel
theorem dX1_beginUpdate_14 : decode cX1_beginUpdate 14 = .ok (.iload_n 1, 1) := by decide +kernel
theorem dX1_beginUpdate_15 : decode cX1_beginUpdate 15 = .ok (.iconst 4, 1) := by decide +kernel
theorem dX1_beginUpdate_16 : decode cX1_beginUpdate 16 = .ok (.imul, 1) := by decide +kernel
theorem dX1_beginUpdate_17 : decode cX1_beginUpdate 17 = .ok (.iload_n 1, 1) := by decide +kernel
theorem dX1_beginUpdate_18 : decode cX1_beginUpdate 18 = .ok (.iadd, 1) := by decide +kernel
theorem dX1_beginUpdate_19 : decode cX1_beginUpdate 19 = .ok (.dup2, 1) := by decide +kernel
theorem dX1_beginUpdate_20 : decode cX1_beginUpdate 20 = .ok (.iaload, 1) := by decide +kernel
theorem dX1_beginUpdate_21 : decode cX1_beginUpdate 21 = .ok (.iconst 1, 1) := by decide +kernel
theorem dX1_beginUpdate_22 : decode cX1_beginUpdate 22 = .ok (.iadd, 1) := by decide +kernel
theorem dX1_beginUpdate_23 : decode cX1_beginUpdate 23 = .ok (.iastore, 1) := by decide +kernel
theorem dX1_beginUpdate_24 : decode cX1_beginUpdate 24 = .ok (.return_, 1) := by decide +kernel
set_option maxRecDepth 20000 in
theorem ggX1_makeEntry_X1_slotOf : GoodIn wsX1_makeEntry wsX1_slotOf := goodIn_r _ [8] (by decide +kernel) (by decide +kernel)
set_option maxRecDepth 20000 in
theorem gX1_makeEntry_X1_slotOf : GoodIn wsX1_makeEntry (va_wsS RX1 36 yX1_slotOf wsX1_slotOf) := goodIn_app (goodIn_of _ (by decide +kernel)) ggX1_makeEntry_X1_slotOf
set_option maxRecDepth 20000 in
theorem ggX1_makeEntry_X1_seenNumber : GoodIn wsX1_makeEntry wsX1_seenNumber := goodIn_r _ [12, 13, 14, 15, 16, 17, 18, 19] (by decide +kernel) (by decide +kernel)
set_option maxRecDepth 20000 in
theorem gX1_makeEntry_X1_seenNumber : GoodIn wsX1_makeEntry (wsV RX1 47 RX1 yX1_seenNumber wsX1_seenNumber) := goodIn_app (goodIn_of _ (by decide +kernel)) ggX1_makeEntry_X1_seenNumber
theorem dX1_makeEntry_0 : decode cX1_makeEntry 0 = .ok (.iload_n 1, 1) := by decide +kernel
theorem dX1_makeEntry_1 : decode cX1_makeEntry 1 = .ok (.iload_n 2, 1) := by decide +kernel
theorem dX1_makeEntry_2 : decode cX1_makeEntry 2 = .ok (.iload_n 3, 1) := by decide +kernel
theorem dX1_makeEntry_3 : decode cX1_makeEntry 3 = .ok (.invokestatic 36, 3) := by decide +kernel
theorem dX1_makeEntry_6 : decode cX1_makeEntry 6 = .ok (.iload_n 1, 1) := by decide +kernel
theorem dX1_makeEntry_7 : decode cX1_makeEntry 7 = .ok (.iadd, 1) := by decide +kernel
theorem dX1_makeEntry_8 : decode cX1_makeEntry 8 = .ok (.istore 5, 2) := by decide +kernel
theorem dX1_makeEntry_10 : decode cX1_makeEntry 10 = .ok (.aload_n 0, 1) := by decide +kernel
theorem dX1_makeEntry_11 : decode cX1_makeEntry 11 = .ok (.getfield 11, 3) := by decide +kernel
theorem dX1_makeEntry_14 : decode cX1_makeEntry 14 = .ok (.iload 5, 2) := by decide +kernel
theorem dX1_makeEntry_16 : decode cX1_makeEntry 16 = .ok (.aload_n 0, 1) := by decide +kernel
theorem dX1_makeEntry_17 : decode cX1_makeEntry 17 = .ok (.iload_n 1, 1) := by decide +kernel
theorem dX1_makeEntry_18 : decode cX1_makeEntry 18 = .ok (.iload_n 1, 1) := by decide +kernel
theorem dX1_makeEntry_19 : decode cX1_makeEntry 19 = .ok (.invokevirtual 47, 3) := by decide +kernel
theorem dX1_makeEntry_22 : decode cX1_makeEntry 22 = .ok (.iastore, 1) := by decide +kernel
theorem dX1_makeEntry_23 : decode cX1_makeEntry 23 = .ok (.aload_n 0, 1) := by decide +kernel
theorem dX1_makeEntry_24 : decode cX1_makeEntry 24 = .ok (.getfield 15, 3) := by decide +kernel
theorem dX1_makeEntry_27 : decode cX1_makeEntry 27 = .ok (.iload 5, 2) := by decide +kernel
theorem dX1_makeEntry_29 : decode cX1_makeEntry 29 = .ok (.aload_n 0, 1) := by decide +kernel
theorem dX1_makeEntry_30 : decode cX1_makeEntry 30 = .ok (.getfield 24, 3) := by decide +kernel
theorem dX1_makeEntry_33 : decode cX1_makeEntry 33 = .ok (.iload_n 1, 1) := by decide +kernel
theorem dX1_makeEntry_34 : decode cX1_makeEntry 34 = .ok (.iaload, 1) := by decide +kernel
theorem dX1_makeEntry_35 : decode cX1_makeEntry 35 = .ok (.iastore, 1) := by decide +kernel
theorem dX1_makeEntry_36 : decode cX1_makeEntry 36 = .ok (.aload_n 0, 1) := by decide +kernel
theorem dX1_makeEntry_37 : decode cX1_makeEntry 37 = .ok (.getfield 18, 3) := by decide +kernel
theorem dX1_makeEntry_40 : decode cX1_makeEntry 40 = .ok (.iload 5, 2) := by decide +kernel
theorem dX1_makeEntry_42 : decode cX1_makeEntry 42 = .ok (.iload 4, 2) := by decide +kernel
theorem dX1_makeEntry_44 : decode cX1_makeEntry 44 = .ok (.iastore, 1) := by decide +kernel
theorem dX1_makeEntry_45 : decode cX1_makeEntry 45 = .ok (.return_, 1) := by decide +kernel
set_option maxRecDepth 20000 in
theorem ggX1_putValue_X1_beginUpdate : GoodIn wsX1_putValue wsX1_beginUpdate := goodIn_r _ [9, 10, 11, 48, 49, 50, 51, 52, 53] (by decide +kernel) (by decide +kernel)
set_option maxRecDepth 20000 in
theorem gX1_putValue_X1_beginUpdate : GoodIn wsX1_putValue (wsV RX1 50 RX1 yX1_beginUpdate wsX1_beginUpdate) := goodIn_app (goodIn_of _ (by decide +kernel)) ggX1_putValue_X1_beginUpdate
set_option maxRecDepth 20000 in
theorem ggX1_putValue_X1_greatestValue : GoodIn wsX1_putValue wsX1_greatestValue := goodIn_r _ [15, 16, 17, 1, 2, 3, 4, 18, 19, 8, 20, 21, 22, 23, 24, 25, 26, 48, 49, 50, 51, 52, 53] (by decide +kernel) (by decide +kernel)
set_option maxRecDepth 20000 in
theorem gX1_putValue_X1_greatestValue : GoodIn wsX1_putValue (wsV RX1 54 RX1 yX1_greatestValue wsX1_greatestValue) := goodIn_app (goodIn_of _ (by decide +kernel)) ggX1_putValue_X1_greatestValue
set_option maxRecDepth 20000 in
theorem ggX1_putValue_X1_removeGroup : GoodIn wsX1_putValue wsX1_removeGroup := goodIn_r _ [30, 21, 22, 8, 23, 31, 32, 33, 34, 16, 35, 36, 37, 38, 48, 49, 50, 51, 52, 53] (by decide +kernel) (by decide +kernel)
set_option maxRecDepth 20000 in
theorem gX1_putValue_X1_removeGroup : GoodIn wsX1_putValue (wsV RX1 62 RX1 yX1_removeGroup wsX1_removeGroup) := goodIn_app (goodIn_of _ (by decide +kernel)) ggX1_putValue_X1_removeGroup
set_option maxRecDepth 20000 in
theorem ggX1_putValue_X1_makeEntry : GoodIn wsX1_putValue wsX1_makeEntry := goodIn_r _ [42, 16, 43, 10, 17, 21, 22, 8, 23, 44, 45, 46, 47, 11, 48, 49, 50, 51, 52, 53] (by decide +kernel) (by decide +kernel)
set_option maxRecDepth 20000 in
theorem gX1_putValue_X1_makeEntry : GoodIn wsX1_putValue (wsV RX1 65 RX1 yX1_makeEntry wsX1_makeEntry) := goodIn_app (goodIn_of _ (by decide +kernel)) ggX1_putValue_X1_makeEntry
theorem dX1_putValue_0 : decode cX1_putValue 0 = .ok (.aload_n 0, 1) := by decide +kernel
theorem dX1_putValue_1 : decode cX1_putValue 1 = .ok (.iload_n 1, 1) := by decide +kernel
theorem dX1_putValue_2 : decode cX1_putValue 2 = .ok (.invokevirtual 50, 3) := by decide +kernel
theorem dX1_putValue_5 : decode cX1_putValue 5 = .ok (.iload 4, 2) := by decide +kernel
theorem dX1_putValue_7 : decode cX1_putValue 7 = .ok (.istore 5, 2) := by decide +kernel
theorem dX1_putValue_9 : decode cX1_putValue 9 = .ok (.iload_n 3, 1) := by decide +kernel
theorem dX1_putValue_10 : decode cX1_putValue 10 = .ok (.iconst 2, 1) := by decide +kernel
theorem dX1_putValue_11 : decode cX1_putValue 11 = .ok (.if_icmp .ne 16, 3) := by decide +kernel
theorem dX1_putValue_14 : decode cX1_putValue 14 = .ok (.iload 4, 2) := by decide +kernel
theorem dX1_putValue_16 : decode cX1_putValue 16 = .ok (.aload_n 0, 1) := by decide +kernel
theorem dX1_putValue_17 : decode cX1_putValue 17 = .ok (.iload_n 1, 1) := by decide +kernel
theorem dX1_putValue_18 : decode cX1_putValue 18 = .ok (.iload_n 2, 1) := by decide +kernel
theorem dX1_putValue_19 : decode cX1_putValue 19 = .ok (.invokevirtual 54, 3) := by decide +kernel
theorem dX1_putValue_22 : decode cX1_putValue 22 = .ok (.invokestatic 57, 3) := by decide +kernel
theorem dX1_putValue_25 : decode cX1_putValue 25 = .ok (.istore 5, 2) := by decide +kernel
theorem dX1_putValue_27 : decode cX1_putValue 27 = .ok (.aload_n 0, 1) := by decide +kernel
theorem dX1_putValue_28 : decode cX1_putValue 28 = .ok (.iload_n 1, 1) := by decide +kernel
theorem dX1_putValue_29 : decode cX1_putValue 29 = .ok (.iload_n 2, 1) := by decide +kernel
theorem dX1_putValue_30 : decode cX1_putValue 30 = .ok (.iload_n 3, 1) := by decide +kernel
theorem dX1_putValue_31 : decode cX1_putValue 31 = .ok (.invokevirtual 62, 3) := by decide +kernel
theorem dX1_putValue_34 : decode cX1_putValue 34 = .ok (.istore 6, 2) := by decide +kernel
theorem dX1_putValue_36 : decode cX1_putValue 36 = .ok (.aload_n 0, 1) := by decide +kernel
theorem dX1_putValue_37 : decode cX1_putValue 37 = .ok (.iload_n 1, 1) := by decide +kernel
theorem dX1_putValue_38 : decode cX1_putValue 38 = .ok (.iload_n 2, 1) := by decide +kernel
theorem dX1_putValue_39 : decode cX1_putValue 39 = .ok (.iload_n 3, 1) := by decide +kernel
theorem dX1_putValue_40 : decode cX1_putValue 40 = .ok (.iload 5, 2) := by decide +kernel
theorem dX1_putValue_42 : decode cX1_putValue 42 = .ok (.invokevirtual 65, 3) := by decide +kernel
theorem dX1_putValue_45 : decode cX1_putValue 45 = .ok (.iload 6, 2) := by decide +kernel
theorem dX1_putValue_47 : decode cX1_putValue 47 = .ok (.ireturn, 1) := by decide +kernel
set_option maxRecDepth 20000 in
theorem ggX1_addAmount_X1_beginUpdate : GoodIn wsX1_addAmount wsX1_beginUpdate := goodIn_r _ [7, 8, 9, 22, 23, 24, 25, 26, 27] (by decide +kernel) (by decide +kernel)
set_option maxRecDepth 20000 in
theorem gX1_addAmount_X1_beginUpdate : GoodIn wsX1_addAmount (wsV RX1 50 RX1 yX1_beginUpdate wsX1_beginUpdate) := goodIn_app (goodIn_of _ (by decide +kernel)) ggX1_addAmount_X1_beginUpdate
set_option maxRecDepth 20000 in
theorem ggX1_addAmount_X1_slotOf : GoodIn wsX1_addAmount wsX1_slotOf := goodIn_r _ [12] (by decide +kernel) (by decide +kernel)
set_option maxRecDepth 20000 in
theorem gX1_addAmount_X1_slotOf : GoodIn wsX1_addAmount (va_wsS RX1 36 yX1_slotOf wsX1_slotOf) := goodIn_app (goodIn_of _ (by decide +kernel)) ggX1_addAmount_X1_slotOf
set_option maxRecDepth 20000 in
theorem ggX1_addAmount_X1_makeEntry : GoodIn wsX1_addAmount wsX1_makeEntry := goodIn_r _ [16, 1, 17, 8, 2, 10, 11, 6, 12, 18, 19, 20, 21, 9, 22, 23, 24, 25, 26, 27] (by decide +kernel) (by decide +kernel)
set_option maxRecDepth 20000 in
theorem gX1_addAmount_X1_makeEntry : GoodIn wsX1_addAmount (wsV RX1 65 RX1 yX1_makeEntry wsX1_makeEntry) := goodIn_app (goodIn_of _ (by decide +kernel)) ggX1_addAmount_X1_makeEntry
theorem dX1_addAmount_0 : decode cX1_addAmount 0 = .ok (.aload_n 0, 1) := by decide +kernel
theorem dX1_addAmount_1 : decode cX1_addAmount 1 = .ok (.iload_n 1, 1) := by decide +kernel
theorem dX1_addAmount_2 : decode cX1_addAmount 2 = .ok (.invokevirtual 50, 3) := by decide +kernel
theorem dX1_addAmount_5 : decode cX1_addAmount 5 = .ok (.iload_n 1, 1) := by decide +kernel
theorem dX1_addAmount_6 : decode cX1_addAmount 6 = .ok (.iload_n 2, 1) := by decide +kernel
theorem dX1_addAmount_7 : decode cX1_addAmount 7 = .ok (.iconst 3, 1) := by decide +kernel
theorem dX1_addAmount_8 : decode cX1_addAmount 8 = .ok (.invokestatic 36, 3) := by decide +kernel
theorem dX1_addAmount_11 : decode cX1_addAmount 11 = .ok (.iload_n 1, 1) := by decide +kernel
theorem dX1_addAmount_12 : decode cX1_addAmount 12 = .ok (.iadd, 1) := by decide +kernel
theorem dX1_addAmount_13 : decode cX1_addAmount 13 = .ok (.istore 4, 2) := by decide +kernel
theorem dX1_addAmount_15 : decode cX1_addAmount 15 = .ok (.aload_n 0, 1) := by decide +kernel
theorem dX1_addAmount_16 : decode cX1_addAmount 16 = .ok (.getfield 11, 3) := by decide +kernel
theorem dX1_addAmount_19 : decode cX1_addAmount 19 = .ok (.iload 4, 2) := by decide +kernel
theorem dX1_addAmount_21 : decode cX1_addAmount 21 = .ok (.iaload, 1) := by decide +kernel
theorem dX1_addAmount_22 : decode cX1_addAmount 22 = .ok (.ifCond .eq 13, 3) := by decide +kernel
theorem dX1_addAmount_25 : decode cX1_addAmount 25 = .ok (.aload_n 0, 1) := by decide +kernel
theorem dX1_addAmount_26 : decode cX1_addAmount 26 = .ok (.getfield 18, 3) := by decide +kernel
theorem dX1_addAmount_29 : decode cX1_addAmount 29 = .ok (.iload 4, 2) := by decide +kernel
theorem dX1_addAmount_31 : decode cX1_addAmount 31 = .ok (.iaload, 1) := by decide +kernel
theorem dX1_addAmount_32 : decode cX1_addAmount 32 = .ok (.goto 4, 3) := by decide +kernel
theorem dX1_addAmount_35 : decode cX1_addAmount 35 = .ok (.iconst 0, 1) := by decide +kernel
theorem dX1_addAmount_36 : decode cX1_addAmount 36 = .ok (.istore 5, 2) := by decide +kernel
theorem dX1_addAmount_38 : decode cX1_addAmount 38 = .ok (.aload_n 0, 1) := by decide +kernel
theorem dX1_addAmount_39 : decode cX1_addAmount 39 = .ok (.iload_n 1, 1) := by decide +kernel
theorem dX1_addAmount_40 : decode cX1_addAmount 40 = .ok (.iload_n 2, 1) := by decide +kernel
theorem dX1_addAmount_41 : decode cX1_addAmount 41 = .ok (.iconst 3, 1) := by decide +kernel
theorem dX1_addAmount_42 : decode cX1_addAmount 42 = .ok (.iload 5, 2) := by decide +kernel
theorem dX1_addAmount_44 : decode cX1_addAmount 44 = .ok (.iload_n 3, 1) := by decide +kernel
theorem dX1_addAmount_45 : decode cX1_addAmount 45 = .ok (.iadd, 1) := by decide +kernel
theorem dX1_addAmount_46 : decode cX1_addAmount 46 = .ok (.invokevirtual 65, 3) := by decide +kernel
theorem dX1_addAmount_49 : decode cX1_addAmount 49 = .ok (.return_, 1) := by decide +kernel
set_option maxRecDepth 20000 in
theorem ggX1_includeElement_X1_beginUpdate : GoodIn wsX1_includeElement wsX1_beginUpdate := goodIn_r _ [5, 6, 7, 37, 38, 39, 40, 41, 42] (by decide +kernel) (by decide +kernel)
set_option maxRecDepth 20000 in
theorem gX1_includeElement_X1_beginUpdate : GoodIn wsX1_includeElement (wsV RX1 50 RX1 yX1_beginUpdate wsX1_beginUpdate) := goodIn_app (goodIn_of _ (by decide +kernel)) ggX1_includeElement_X1_beginUpdate
set_option maxRecDepth 20000 in
theorem ggX1_includeElement_X1_groupOfElement : GoodIn wsX1_includeElement wsX1_groupOfElement := goodIn_r _ [10] (by decide +kernel) (by decide +kernel)
set_option maxRecDepth 20000 in
theorem gX1_includeElement_X1_groupOfElement : GoodIn wsX1_includeElement (va_wsS RX1 69 yX1_groupOfElement wsX1_groupOfElement) := goodIn_app (goodIn_of _ (by decide +kernel)) ggX1_includeElement_X1_groupOfElement
set_option maxRecDepth 20000 in
theorem ggX1_includeElement_X1_removeGroup : GoodIn wsX1_includeElement wsX1_removeGroup := goodIn_r _ [14, 15, 16, 4, 17, 18, 19, 20, 21, 22, 23, 24, 25, 26, 37, 38, 39, 40, 41, 42] (by decide +kernel) (by decide +kernel)
set_option maxRecDepth 20000 in
theorem gX1_includeElement_X1_removeGroup : GoodIn wsX1_includeElement (wsV RX1 62 RX1 yX1_removeGroup wsX1_removeGroup) := goodIn_app (goodIn_of _ (by decide +kernel)) ggX1_includeElement_X1_removeGroup
set_option maxRecDepth 20000 in
theorem ggX1_includeElement_X1_makeEntry : GoodIn wsX1_includeElement wsX1_makeEntry := goodIn_r _ [30, 22, 31, 6, 32, 15, 16, 4, 17, 33, 34, 35, 36, 7, 37, 38, 39, 40, 41, 42] (by decide +kernel) (by decide +kernel)
set_option maxRecDepth 20000 in
theorem gX1_includeElement_X1_makeEntry : GoodIn wsX1_includeElement (wsV RX1 65 RX1 yX1_makeEntry wsX1_makeEntry) := goodIn_app (goodIn_of _ (by decide +kernel)) ggX1_includeElement_X1_makeEntry
theorem dX1_includeElement_0 : decode cX1_includeElement 0 = .ok (.aload_n 0, 1) := by decide +kernel
theorem dX1_includeElement_1 : decode cX1_includeElement 1 = .ok (.iload_n 1, 1) := by decide +kernel
theorem dX1_includeElement_2 : decode cX1_includeElement 2 = .ok (.invokevirtual 50, 3) := by decide +kernel
theorem dX1_includeElement_5 : decode cX1_includeElement 5 = .ok (.aload_n 0, 1) := by decide +kernel
theorem dX1_includeElement_6 : decode cX1_includeElement 6 = .ok (.iload_n 1, 1) := by decide +kernel
theorem dX1_includeElement_7 : decode cX1_includeElement 7 = .ok (.iload_n 2, 1) := by decide +kernel
theorem dX1_includeElement_8 : decode cX1_includeElement 8 = .ok (.iload_n 3, 1) := by decide +kernel
theorem dX1_includeElement_9 : decode cX1_includeElement 9 = .ok (.invokestatic 69, 3) := by decide +kernel
theorem dX1_includeElement_12 : decode cX1_includeElement 12 = .ok (.invokevirtual 62, 3) := by decide +kernel
theorem dX1_includeElement_15 : decode cX1_includeElement 15 = .ok (.istore 4, 2) := by decide +kernel
theorem dX1_includeElement_17 : decode cX1_includeElement 17 = .ok (.aload_n 0, 1) := by decide +kernel
theorem dX1_includeElement_18 : decode cX1_includeElement 18 = .ok (.iload_n 1, 1) := by decide +kernel
theorem dX1_includeElement_19 : decode cX1_includeElement 19 = .ok (.iload_n 2, 1) := by decide +kernel
theorem dX1_includeElement_20 : decode cX1_includeElement 20 = .ok (.iload_n 3, 1) := by decide +kernel
theorem dX1_includeElement_21 : decode cX1_includeElement 21 = .ok (.invokestatic 69, 3) := by decide +kernel
theorem dX1_includeElement_24 : decode cX1_includeElement 24 = .ok (.iload_n 3, 1) := by decide +kernel
theorem dX1_includeElement_25 : decode cX1_includeElement 25 = .ok (.invokevirtual 65, 3) := by decide +kernel
theorem dX1_includeElement_28 : decode cX1_includeElement 28 = .ok (.iload 4, 2) := by decide +kernel
theorem dX1_includeElement_30 : decode cX1_includeElement 30 = .ok (.ireturn, 1) := by decide +kernel
set_option maxRecDepth 20000 in
theorem ggX1_excludeElement_X1_beginUpdate : GoodIn wsX1_excludeElement wsX1_beginUpdate := goodIn_r _ [5, 6, 7, 27, 28, 29, 30, 31, 32] (by decide +kernel) (by decide +kernel)
set_option maxRecDepth 20000 in
theorem gX1_excludeElement_X1_beginUpdate : GoodIn wsX1_excludeElement (wsV RX1 50 RX1 yX1_beginUpdate wsX1_beginUpdate) := goodIn_app (goodIn_of _ (by decide +kernel)) ggX1_excludeElement_X1_beginUpdate
set_option maxRecDepth 20000 in
theorem ggX1_excludeElement_X1_groupOfElement : GoodIn wsX1_excludeElement wsX1_groupOfElement := goodIn_r _ [10] (by decide +kernel) (by decide +kernel)
set_option maxRecDepth 20000 in
theorem gX1_excludeElement_X1_groupOfElement : GoodIn wsX1_excludeElement (va_wsS RX1 69 yX1_groupOfElement wsX1_groupOfElement) := goodIn_app (goodIn_of _ (by decide +kernel)) ggX1_excludeElement_X1_groupOfElement
set_option maxRecDepth 20000 in
theorem ggX1_excludeElement_X1_removeGroup : GoodIn wsX1_excludeElement wsX1_removeGroup := goodIn_r _ [14, 15, 16, 4, 17, 18, 19, 20, 21, 22, 23, 24, 25, 26, 27, 28, 29, 30, 31, 32] (by decide +kernel) (by decide +kernel)
set_option maxRecDepth 20000 in
theorem gX1_excludeElement_X1_removeGroup : GoodIn wsX1_excludeElement (wsV RX1 62 RX1 yX1_removeGroup wsX1_removeGroup) := goodIn_app (goodIn_of _ (by decide +kernel)) ggX1_excludeElement_X1_removeGroup
theorem dX1_excludeElement_0 : decode cX1_excludeElement 0 = .ok (.aload_n 0, 1) := by decide +kernel
theorem dX1_excludeElement_1 : decode cX1_excludeElement 1 = .ok (.iload_n 1, 1) := by decide +kernel
theorem dX1_excludeElement_2 : decode cX1_excludeElement 2 = .ok (.invokevirtual 50, 3) := by decide +kernel
theorem dX1_excludeElement_5 : decode cX1_excludeElement 5 = .ok (.aload_n 0, 1) := by decide +kernel
theorem dX1_excludeElement_6 : decode cX1_excludeElement 6 = .ok (.iload_n 1, 1) := by decide +kernel
theorem dX1_excludeElement_7 : decode cX1_excludeElement 7 = .ok (.iload_n 2, 1) := by decide +kernel
theorem dX1_excludeElement_8 : decode cX1_excludeElement 8 = .ok (.iload_n 3, 1) := by decide +kernel
theorem dX1_excludeElement_9 : decode cX1_excludeElement 9 = .ok (.invokestatic 69, 3) := by decide +kernel
theorem dX1_excludeElement_12 : decode cX1_excludeElement 12 = .ok (.invokevirtual 62, 3) := by decide +kernel
theorem dX1_excludeElement_15 : decode cX1_excludeElement 15 = .ok (.ireturn, 1) := by decide +kernel
set_option maxRecDepth 20000 in
theorem ggX1_deleteRow_X1_beginUpdate : GoodIn wsX1_deleteRow wsX1_beginUpdate := goodIn_r _ [5, 6, 7, 20, 21, 22, 23, 24, 25] (by decide +kernel) (by decide +kernel)
set_option maxRecDepth 20000 in
theorem gX1_deleteRow_X1_beginUpdate : GoodIn wsX1_deleteRow (wsV RX1 50 RX1 yX1_beginUpdate wsX1_beginUpdate) := goodIn_app (goodIn_of _ (by decide +kernel)) ggX1_deleteRow_X1_beginUpdate
set_option maxRecDepth 20000 in
theorem ggX1_deleteRow_X1_slotOf : GoodIn wsX1_deleteRow wsX1_slotOf := goodIn_r _ [10] (by decide +kernel) (by decide +kernel)
set_option maxRecDepth 20000 in
theorem gX1_deleteRow_X1_slotOf : GoodIn wsX1_deleteRow (va_wsS RX1 36 yX1_slotOf wsX1_slotOf) := goodIn_app (goodIn_of _ (by decide +kernel)) ggX1_deleteRow_X1_slotOf
set_option maxRecDepth 20000 in
theorem ggX1_deleteRow_X1_removeEntries : GoodIn wsX1_deleteRow wsX1_removeEntries := goodIn_r _ [14, 15, 16, 17, 18, 4, 19, 20, 21, 22, 23, 24, 25] (by decide +kernel) (by decide +kernel)
set_option maxRecDepth 20000 in
theorem gX1_deleteRow_X1_removeEntries : GoodIn wsX1_deleteRow (wsV RX1 44 RX1 yX1_removeEntries wsX1_removeEntries) := goodIn_app (goodIn_of _ (by decide +kernel)) ggX1_deleteRow_X1_removeEntries
theorem dX1_deleteRow_0 : decode cX1_deleteRow 0 = .ok (.aload_n 0, 1) := by decide +kernel
theorem dX1_deleteRow_1 : decode cX1_deleteRow 1 = .ok (.iload_n 1, 1) := by decide +kernel
theorem dX1_deleteRow_2 : decode cX1_deleteRow 2 = .ok (.invokevirtual 50, 3) := by decide +kernel
theorem dX1_deleteRow_5 : decode cX1_deleteRow 5 = .ok (.aload_n 0, 1) := by decide +kernel
theorem dX1_deleteRow_6 : decode cX1_deleteRow 6 = .ok (.iload_n 1, 1) := by decide +kernel
theorem dX1_deleteRow_7 : decode cX1_deleteRow 7 = .ok (.iload_n 2, 1) := by decide +kernel
theorem dX1_deleteRow_8 : decode cX1_deleteRow 8 = .ok (.iconst 0, 1) := by decide +kernel
theorem dX1_deleteRow_9 : decode cX1_deleteRow 9 = .ok (.invokestatic 36, 3) := by decide +kernel
theorem dX1_deleteRow_12 : decode cX1_deleteRow 12 = .ok (.iload_n 1, 1) := by decide +kernel
theorem dX1_deleteRow_13 : decode cX1_deleteRow 13 = .ok (.iload_n 2, 1) := by decide +kernel
theorem dX1_deleteRow_14 : decode cX1_deleteRow 14 = .ok (.bipush 20, 2) := by decide +kernel
theorem dX1_deleteRow_16 : decode cX1_deleteRow 16 = .ok (.invokestatic 36, 3) := by decide +kernel
theorem dX1_deleteRow_19 : decode cX1_deleteRow 19 = .ok (.invokevirtual 44, 3) := by decide +kernel
theorem dX1_deleteRow_22 : decode cX1_deleteRow 22 = .ok (.ireturn, 1) := by decide +kernel
set_option maxRecDepth 20000 in
theorem ggX1_mergeReplica_X1_countAdded : GoodIn wsX1_mergeReplica wsX1_countAdded := goodIn_r _ [6, 7, 8, 9, 5, 10, 11, 12, 13, 14, 15, 16, 40, 41, 42, 43, 44, 45] (by decide +kernel) (by decide +kernel)
set_option maxRecDepth 20000 in
theorem gX1_mergeReplica_X1_countAdded : GoodIn wsX1_mergeReplica (wsV RX1 73 RX1 yX1_countAdded wsX1_countAdded) := goodIn_app (goodIn_of _ (by decide +kernel)) ggX1_mergeReplica_X1_countAdded
set_option maxRecDepth 20000 in
theorem ggX1_mergeReplica_X1_countRemoved : GoodIn wsX1_mergeReplica wsX1_countRemoved := goodIn_r _ [20, 21, 22, 23, 5, 24, 11, 12, 13, 14, 15, 16, 40, 41, 42, 43, 44, 45] (by decide +kernel) (by decide +kernel)
set_option maxRecDepth 20000 in
theorem gX1_mergeReplica_X1_countRemoved : GoodIn wsX1_mergeReplica (wsV RX1 76 RX1 yX1_countRemoved wsX1_countRemoved) := goodIn_app (goodIn_of _ (by decide +kernel)) ggX1_mergeReplica_X1_countRemoved
set_option maxRecDepth 20000 in
theorem ggX1_mergeReplica_X1_mergeSlot : GoodIn wsX1_mergeReplica wsX1_mergeSlot := goodIn_r _ [28, 11, 29, 30, 7, 8, 9, 5, 10, 12, 13, 14, 15, 16, 21, 22, 23, 24, 40, 41, 42, 43, 44, 45] (by decide +kernel) (by decide +kernel)
set_option maxRecDepth 20000 in
theorem gX1_mergeReplica_X1_mergeSlot : GoodIn wsX1_mergeReplica (wsV RX1 79 RX1 yX1_mergeSlot wsX1_mergeSlot) := goodIn_app (goodIn_of _ (by decide +kernel)) ggX1_mergeReplica_X1_mergeSlot
set_option maxRecDepth 20000 in
theorem ggX1_mergeReplica_X1_mergeKnowledge : GoodIn wsX1_mergeReplica wsX1_mergeKnowledge := goodIn_r _ [34, 16, 35, 36, 37, 38, 39, 12, 13, 14, 5, 15, 40, 41, 42, 43, 44, 45] (by decide +kernel) (by decide +kernel)
set_option maxRecDepth 20000 in
theorem gX1_mergeReplica_X1_mergeKnowledge : GoodIn wsX1_mergeReplica (wsV RX1 83 RX1 yX1_mergeKnowledge wsX1_mergeKnowledge) := goodIn_app (goodIn_of _ (by decide +kernel)) ggX1_mergeReplica_X1_mergeKnowledge
theorem dX1_mergeReplica_0 : decode cX1_mergeReplica 0 = .ok (.aload_n 0, 1) := by decide +kernel
theorem dX1_mergeReplica_1 : decode cX1_mergeReplica 1 = .ok (.iload_n 1, 1) := by decide +kernel
theorem dX1_mergeReplica_2 : decode cX1_mergeReplica 2 = .ok (.iload_n 2, 1) := by decide +kernel
theorem dX1_mergeReplica_3 : decode cX1_mergeReplica 3 = .ok (.invokevirtual 73, 3) := by decide +kernel
theorem dX1_mergeReplica_6 : decode cX1_mergeReplica 6 = .ok (.istore_n 3, 1) := by decide +kernel
theorem dX1_mergeReplica_7 : decode cX1_mergeReplica 7 = .ok (.aload_n 0, 1) := by decide +kernel
theorem dX1_mergeReplica_8 : decode cX1_mergeReplica 8 = .ok (.iload_n 1, 1) := by decide +kernel
theorem dX1_mergeReplica_9 : decode cX1_mergeReplica 9 = .ok (.iload_n 2, 1) := by decide +kernel
theorem dX1_mergeReplica_10 : decode cX1_mergeReplica 10 = .ok (.invokevirtual 76, 3) := by decide +kernel
theorem dX1_mergeReplica_13 : decode cX1_mergeReplica 13 = .ok (.istore 4, 2) := by decide +kernel
theorem dX1_mergeReplica_15 : decode cX1_mergeReplica 15 = .ok (.iconst 0, 1) := by decide +kernel
theorem dX1_mergeReplica_16 : decode cX1_mergeReplica 16 = .ok (.istore 5, 2) := by decide +kernel
theorem dX1_mergeReplica_18 : decode cX1_mergeReplica 18 = .ok (.iload 5, 2) := by decide +kernel
theorem dX1_mergeReplica_20 : decode cX1_mergeReplica 20 = .ok (.sipush 480, 3) := by decide +kernel
theorem dX1_mergeReplica_23 : decode cX1_mergeReplica 23 = .ok (.if_icmp .ge 17, 3) := by decide +kernel
theorem dX1_mergeReplica_26 : decode cX1_mergeReplica 26 = .ok (.aload_n 0, 1) := by decide +kernel
theorem dX1_mergeReplica_27 : decode cX1_mergeReplica 27 = .ok (.iload_n 1, 1) := by decide +kernel
theorem dX1_mergeReplica_28 : decode cX1_mergeReplica 28 = .ok (.iload_n 2, 1) := by decide +kernel
theorem dX1_mergeReplica_29 : decode cX1_mergeReplica 29 = .ok (.iload 5, 2) := by decide +kernel
theorem dX1_mergeReplica_31 : decode cX1_mergeReplica 31 = .ok (.invokevirtual 79, 3) := by decide +kernel
theorem dX1_mergeReplica_34 : decode cX1_mergeReplica 34 = .ok (.iinc 5 1, 3) := by decide +kernel
theorem dX1_mergeReplica_37 : decode cX1_mergeReplica 37 = .ok (.goto (-19), 3) := by decide +kernel
theorem dX1_mergeReplica_40 : decode cX1_mergeReplica 40 = .ok (.aload_n 0, 1) := by decide +kernel
theorem dX1_mergeReplica_41 : decode cX1_mergeReplica 41 = .ok (.iload_n 1, 1) := by decide +kernel
theorem dX1_mergeReplica_42 : decode cX1_mergeReplica 42 = .ok (.iload_n 2, 1) := by decide +kernel
theorem dX1_mergeReplica_43 : decode cX1_mergeReplica 43 = .ok (.invokevirtual 83, 3) := by decide +kernel
theorem dX1_mergeReplica_46 : decode cX1_mergeReplica 46 = .ok (.aload_n 0, 1) := by decide +kernel
theorem dX1_mergeReplica_47 : decode cX1_mergeReplica 47 = .ok (.getfield 27, 3) := by decide +kernel
theorem dX1_mergeReplica_50 : decode cX1_mergeReplica 50 = .ok (.iconst 0, 1) := by decide +kernel
theorem dX1_mergeReplica_51 : decode cX1_mergeReplica 51 = .ok (.iload_n 1, 1) := by decide +kernel
theorem dX1_mergeReplica_52 : decode cX1_mergeReplica 52 = .ok (.iastore, 1) := by decide +kernel
theorem dX1_mergeReplica_53 : decode cX1_mergeReplica 53 = .ok (.aload_n 0, 1) := by decide +kernel
theorem dX1_mergeReplica_54 : decode cX1_mergeReplica 54 = .ok (.getfield 27, 3) := by decide +kernel
theorem dX1_mergeReplica_57 : decode cX1_mergeReplica 57 = .ok (.iconst 1, 1) := by decide +kernel
theorem dX1_mergeReplica_58 : decode cX1_mergeReplica 58 = .ok (.iload_n 2, 1) := by decide +kernel
theorem dX1_mergeReplica_59 : decode cX1_mergeReplica 59 = .ok (.iastore, 1) := by decide +kernel
theorem dX1_mergeReplica_60 : decode cX1_mergeReplica 60 = .ok (.aload_n 0, 1) := by decide +kernel
theorem dX1_mergeReplica_61 : decode cX1_mergeReplica 61 = .ok (.getfield 27, 3) := by decide +kernel
theorem dX1_mergeReplica_64 : decode cX1_mergeReplica 64 = .ok (.iconst 2, 1) := by decide +kernel
theorem dX1_mergeReplica_65 : decode cX1_mergeReplica 65 = .ok (.iload_n 3, 1) := by decide +kernel
theorem dX1_mergeReplica_66 : decode cX1_mergeReplica 66 = .ok (.iastore, 1) := by decide +kernel
theorem dX1_mergeReplica_67 : decode cX1_mergeReplica 67 = .ok (.aload_n 0, 1) := by decide +kernel
theorem dX1_mergeReplica_68 : decode cX1_mergeReplica 68 = .ok (.getfield 27, 3) := by decide +kernel
theorem dX1_mergeReplica_71 : decode cX1_mergeReplica 71 = .ok (.iconst 3, 1) := by decide +kernel
theorem dX1_mergeReplica_72 : decode cX1_mergeReplica 72 = .ok (.iload 4, 2) := by decide +kernel
theorem dX1_mergeReplica_74 : decode cX1_mergeReplica 74 = .ok (.iastore, 1) := by decide +kernel
theorem dX1_mergeReplica_75 : decode cX1_mergeReplica 75 = .ok (.iload_n 3, 1) := by decide +kernel
theorem dX1_mergeReplica_76 : decode cX1_mergeReplica 76 = .ok (.iload 4, 2) := by decide +kernel
theorem dX1_mergeReplica_78 : decode cX1_mergeReplica 78 = .ok (.iadd, 1) := by decide +kernel
theorem dX1_mergeReplica_79 : decode cX1_mergeReplica 79 = .ok (.ireturn, 1) := by decide +kernel
set_option maxRecDepth 20000 in
theorem ggX1_countAdded_X1_isAdded : GoodIn wsX1_countAdded wsX1_isAdded := goodIn_r _ [5, 6, 7, 8, 9, 4, 10, 11, 12, 13, 14, 15, 16, 17] (by decide +kernel) (by decide +kernel)
set_option maxRecDepth 20000 in
theorem gX1_countAdded_X1_isAdded : GoodIn wsX1_countAdded (wsV RX1 87 RX1 yX1_isAdded wsX1_isAdded) := goodIn_app (goodIn_of _ (by decide +kernel)) ggX1_countAdded_X1_isAdded
theorem dX1_countAdded_0 : decode cX1_countAdded 0 = .ok (.iconst 0, 1) := by decide +kernel
theorem dX1_countAdded_1 : decode cX1_countAdded 1 = .ok (.istore_n 3, 1) := by decide +kernel
theorem dX1_countAdded_2 : decode cX1_countAdded 2 = .ok (.iconst 0, 1) := by decide +kernel
theorem dX1_countAdded_3 : decode cX1_countAdded 3 = .ok (.istore 4, 2) := by decide +kernel
theorem dX1_countAdded_5 : decode cX1_countAdded 5 = .ok (.iload 4, 2) := by decide +kernel
theorem dX1_countAdded_7 : decode cX1_countAdded 7 = .ok (.sipush 480, 3) := by decide +kernel
theorem dX1_countAdded_10 : decode cX1_countAdded 10 = .ok (.if_icmp .ge 23, 3) := by decide +kernel
theorem dX1_countAdded_13 : decode cX1_countAdded 13 = .ok (.aload_n 0, 1) := by decide +kernel
theorem dX1_countAdded_14 : decode cX1_countAdded 14 = .ok (.iload_n 1, 1) := by decide +kernel
theorem dX1_countAdded_15 : decode cX1_countAdded 15 = .ok (.iload_n 2, 1) := by decide +kernel
theorem dX1_countAdded_16 : decode cX1_countAdded 16 = .ok (.iload 4, 2) := by decide +kernel
theorem dX1_countAdded_18 : decode cX1_countAdded 18 = .ok (.invokevirtual 87, 3) := by decide +kernel
theorem dX1_countAdded_21 : decode cX1_countAdded 21 = .ok (.ifCond .eq 6, 3) := by decide +kernel
theorem dX1_countAdded_24 : decode cX1_countAdded 24 = .ok (.iinc 3 1, 3) := by decide +kernel
theorem dX1_countAdded_27 : decode cX1_countAdded 27 = .ok (.iinc 4 1, 3) := by decide +kernel
theorem dX1_countAdded_30 : decode cX1_countAdded 30 = .ok (.goto (-25), 3) := by decide +kernel
theorem dX1_countAdded_33 : decode cX1_countAdded 33 = .ok (.iload_n 3, 1) := by decide +kernel
theorem dX1_countAdded_34 : decode cX1_countAdded 34 = .ok (.ireturn, 1) := by decide +kernel
set_option maxRecDepth 20000 in
theorem ggX1_countRemoved_X1_isRemoved : GoodIn wsX1_countRemoved wsX1_isRemoved := goodIn_r _ [5, 6, 7, 8, 9, 4, 10, 11, 12, 13, 14, 15, 16, 17] (by decide +kernel) (by decide +kernel)
set_option maxRecDepth 20000 in
theorem gX1_countRemoved_X1_isRemoved : GoodIn wsX1_countRemoved (wsV RX1 91 RX1 yX1_isRemoved wsX1_isRemoved) := goodIn_app (goodIn_of _ (by decide +kernel)) ggX1_countRemoved_X1_isRemoved
theorem dX1_countRemoved_0 : decode cX1_countRemoved 0 = .ok (.iconst 0, 1) := by decide +kernel
theorem dX1_countRemoved_1 : decode cX1_countRemoved 1 = .ok (.istore_n 3, 1) := by decide +kernel
theorem dX1_countRemoved_2 : decode cX1_countRemoved 2 = .ok (.iconst 0, 1) := by decide +kernel
theorem dX1_countRemoved_3 : decode cX1_countRemoved 3 = .ok (.istore 4, 2) := by decide +kernel
theorem dX1_countRemoved_5 : decode cX1_countRemoved 5 = .ok (.iload 4, 2) := by decide +kernel
theorem dX1_countRemoved_7 : decode cX1_countRemoved 7 = .ok (.sipush 480, 3) := by decide +kernel
theorem dX1_countRemoved_10 : decode cX1_countRemoved 10 = .ok (.if_icmp .ge 23, 3) := by decide +kernel
theorem dX1_countRemoved_13 : decode cX1_countRemoved 13 = .ok (.aload_n 0, 1) := by decide +kernel
theorem dX1_countRemoved_14 : decode cX1_countRemoved 14 = .ok (.iload_n 1, 1) := by decide +kernel
theorem dX1_countRemoved_15 : decode cX1_countRemoved 15 = .ok (.iload_n 2, 1) := by decide +kernel
theorem dX1_countRemoved_16 : decode cX1_countRemoved 16 = .ok (.iload 4, 2) := by decide +kernel
theorem dX1_countRemoved_18 : decode cX1_countRemoved 18 = .ok (.invokevirtual 91, 3) := by decide +kernel
theorem dX1_countRemoved_21 : decode cX1_countRemoved 21 = .ok (.ifCond .eq 6, 3) := by decide +kernel
theorem dX1_countRemoved_24 : decode cX1_countRemoved 24 = .ok (.iinc 3 1, 3) := by decide +kernel
theorem dX1_countRemoved_27 : decode cX1_countRemoved 27 = .ok (.iinc 4 1, 3) := by decide +kernel
theorem dX1_countRemoved_30 : decode cX1_countRemoved 30 = .ok (.goto (-25), 3) := by decide +kernel
theorem dX1_countRemoved_33 : decode cX1_countRemoved 33 = .ok (.iload_n 3, 1) := by decide +kernel
theorem dX1_countRemoved_34 : decode cX1_countRemoved 34 = .ok (.ireturn, 1) := by decide +kernel
set_option maxRecDepth 20000 in
theorem ggX1_isAdded_X1_seenNumber : GoodIn wsX1_isAdded wsX1_seenNumber := goodIn_r _ [6, 7, 8, 9, 10, 11, 12, 13] (by decide +kernel) (by decide +kernel)
set_option maxRecDepth 20000 in
theorem gX1_isAdded_X1_seenNumber : GoodIn wsX1_isAdded (wsV RX1 47 RX1 yX1_seenNumber wsX1_seenNumber) := goodIn_app (goodIn_of _ (by decide +kernel)) ggX1_isAdded_X1_seenNumber
theorem dX1_isAdded_0 : decode cX1_isAdded 0 = .ok (.aload_n 0, 1) := by decide +kernel
theorem dX1_isAdded_1 : decode cX1_isAdded 1 = .ok (.getfield 11, 3) := by decide +kernel
theorem dX1_isAdded_4 : decode cX1_isAdded 4 = .ok (.iload_n 1, 1) := by decide +kernel
theorem dX1_isAdded_5 : decode cX1_isAdded 5 = .ok (.sipush 480, 3) := by decide +kernel
theorem dX1_isAdded_8 : decode cX1_isAdded 8 = .ok (.imul, 1) := by decide +kernel
theorem dX1_isAdded_9 : decode cX1_isAdded 9 = .ok (.iload_n 3, 1) := by decide +kernel
theorem dX1_isAdded_10 : decode cX1_isAdded 10 = .ok (.iadd, 1) := by decide +kernel
theorem dX1_isAdded_11 : decode cX1_isAdded 11 = .ok (.iaload, 1) := by decide +kernel
theorem dX1_isAdded_12 : decode cX1_isAdded 12 = .ok (.istore 4, 2) := by decide +kernel
theorem dX1_isAdded_14 : decode cX1_isAdded 14 = .ok (.iload 4, 2) := by decide +kernel
theorem dX1_isAdded_16 : decode cX1_isAdded 16 = .ok (.ifCond .eq 37, 3) := by decide +kernel
theorem dX1_isAdded_19 : decode cX1_isAdded 19 = .ok (.iload 4, 2) := by decide +kernel
theorem dX1_isAdded_21 : decode cX1_isAdded 21 = .ok (.aload_n 0, 1) := by decide +kernel
theorem dX1_isAdded_22 : decode cX1_isAdded 22 = .ok (.getfield 11, 3) := by decide +kernel
theorem dX1_isAdded_25 : decode cX1_isAdded 25 = .ok (.iload_n 2, 1) := by decide +kernel
theorem dX1_isAdded_26 : decode cX1_isAdded 26 = .ok (.sipush 480, 3) := by decide +kernel
theorem dX1_isAdded_29 : decode cX1_isAdded 29 = .ok (.imul, 1) := by decide +kernel
theorem dX1_isAdded_30 : decode cX1_isAdded 30 = .ok (.iload_n 3, 1) := by decide +kernel
theorem dX1_isAdded_31 : decode cX1_isAdded 31 = .ok (.iadd, 1) := by decide +kernel
theorem dX1_isAdded_32 : decode cX1_isAdded 32 = .ok (.iaload, 1) := by decide +kernel
theorem dX1_isAdded_33 : decode cX1_isAdded 33 = .ok (.if_icmp .eq 20, 3) := by decide +kernel
theorem dX1_isAdded_36 : decode cX1_isAdded 36 = .ok (.iload 4, 2) := by decide +kernel
theorem dX1_isAdded_38 : decode cX1_isAdded 38 = .ok (.aload_n 0, 1) := by decide +kernel
theorem dX1_isAdded_39 : decode cX1_isAdded 39 = .ok (.iload_n 2, 1) := by decide +kernel
theorem dX1_isAdded_40 : decode cX1_isAdded 40 = .ok (.iload_n 3, 1) := by decide +kernel
theorem dX1_isAdded_41 : decode cX1_isAdded 41 = .ok (.iconst 4, 1) := by decide +kernel
theorem dX1_isAdded_42 : decode cX1_isAdded 42 = .ok (.irem, 1) := by decide +kernel
theorem dX1_isAdded_43 : decode cX1_isAdded 43 = .ok (.invokevirtual 47, 3) := by decide +kernel
theorem dX1_isAdded_46 : decode cX1_isAdded 46 = .ok (.if_icmp .le 7, 3) := by decide +kernel
theorem dX1_isAdded_49 : decode cX1_isAdded 49 = .ok (.iconst 1, 1) := by decide +kernel
theorem dX1_isAdded_50 : decode cX1_isAdded 50 = .ok (.goto 4, 3) := by decide +kernel
theorem dX1_isAdded_53 : decode cX1_isAdded 53 = .ok (.iconst 0, 1) := by decide +kernel
theorem dX1_isAdded_54 : decode cX1_isAdded 54 = .ok (.ireturn, 1) := by decide +kernel
set_option maxRecDepth 20000 in
theorem ggX1_isRemoved_X1_seenNumber : GoodIn wsX1_isRemoved wsX1_seenNumber := goodIn_r _ [6, 7, 8, 9, 10, 11, 12, 13] (by decide +kernel) (by decide +kernel)
set_option maxRecDepth 20000 in
theorem gX1_isRemoved_X1_seenNumber : GoodIn wsX1_isRemoved (wsV RX1 47 RX1 yX1_seenNumber wsX1_seenNumber) := goodIn_app (goodIn_of _ (by decide +kernel)) ggX1_isRemoved_X1_seenNumber
theorem dX1_isRemoved_0 : decode cX1_isRemoved 0 = .ok (.aload_n 0, 1) := by decide +kernel
theorem dX1_isRemoved_1 : decode cX1_isRemoved 1 = .ok (.getfield 11, 3) := by decide +kernel
theorem dX1_isRemoved_4 : decode cX1_isRemoved 4 = .ok (.iload_n 2, 1) := by decide +kernel
theorem dX1_isRemoved_5 : decode cX1_isRemoved 5 = .ok (.sipush 480, 3) := by decide +kernel
theorem dX1_isRemoved_8 : decode cX1_isRemoved 8 = .ok (.imul, 1) := by decide +kernel
theorem dX1_isRemoved_9 : decode cX1_isRemoved 9 = .ok (.iload_n 3, 1) := by decide +kernel
theorem dX1_isRemoved_10 : decode cX1_isRemoved 10 = .ok (.iadd, 1) := by decide +kernel
theorem dX1_isRemoved_11 : decode cX1_isRemoved 11 = .ok (.iaload, 1) := by decide +kernel
theorem dX1_isRemoved_12 : decode cX1_isRemoved 12 = .ok (.istore 4, 2) := by decide +kernel
theorem dX1_isRemoved_14 : decode cX1_isRemoved 14 = .ok (.iload 4, 2) := by decide +kernel
theorem dX1_isRemoved_16 : decode cX1_isRemoved 16 = .ok (.ifCond .eq 37, 3) := by decide +kernel
theorem dX1_isRemoved_19 : decode cX1_isRemoved 19 = .ok (.iload 4, 2) := by decide +kernel
theorem dX1_isRemoved_21 : decode cX1_isRemoved 21 = .ok (.aload_n 0, 1) := by decide +kernel
theorem dX1_isRemoved_22 : decode cX1_isRemoved 22 = .ok (.getfield 11, 3) := by decide +kernel
theorem dX1_isRemoved_25 : decode cX1_isRemoved 25 = .ok (.iload_n 1, 1) := by decide +kernel
theorem dX1_isRemoved_26 : decode cX1_isRemoved 26 = .ok (.sipush 480, 3) := by decide +kernel
theorem dX1_isRemoved_29 : decode cX1_isRemoved 29 = .ok (.imul, 1) := by decide +kernel
theorem dX1_isRemoved_30 : decode cX1_isRemoved 30 = .ok (.iload_n 3, 1) := by decide +kernel
theorem dX1_isRemoved_31 : decode cX1_isRemoved 31 = .ok (.iadd, 1) := by decide +kernel
theorem dX1_isRemoved_32 : decode cX1_isRemoved 32 = .ok (.iaload, 1) := by decide +kernel
theorem dX1_isRemoved_33 : decode cX1_isRemoved 33 = .ok (.if_icmp .eq 20, 3) := by decide +kernel
theorem dX1_isRemoved_36 : decode cX1_isRemoved 36 = .ok (.iload 4, 2) := by decide +kernel
theorem dX1_isRemoved_38 : decode cX1_isRemoved 38 = .ok (.aload_n 0, 1) := by decide +kernel
theorem dX1_isRemoved_39 : decode cX1_isRemoved 39 = .ok (.iload_n 1, 1) := by decide +kernel
theorem dX1_isRemoved_40 : decode cX1_isRemoved 40 = .ok (.iload_n 3, 1) := by decide +kernel
theorem dX1_isRemoved_41 : decode cX1_isRemoved 41 = .ok (.iconst 4, 1) := by decide +kernel
theorem dX1_isRemoved_42 : decode cX1_isRemoved 42 = .ok (.irem, 1) := by decide +kernel
theorem dX1_isRemoved_43 : decode cX1_isRemoved 43 = .ok (.invokevirtual 47, 3) := by decide +kernel
theorem dX1_isRemoved_46 : decode cX1_isRemoved 46 = .ok (.if_icmp .gt 7, 3) := by decide +kernel
theorem dX1_isRemoved_49 : decode cX1_isRemoved 49 = .ok (.iconst 1, 1) := by decide +kernel
theorem dX1_isRemoved_50 : decode cX1_isRemoved 50 = .ok (.goto 4, 3) := by decide +kernel
theorem dX1_isRemoved_53 : decode cX1_isRemoved 53 = .ok (.iconst 0, 1) := by decide +kernel
theorem dX1_isRemoved_54 : decode cX1_isRemoved 54 = .ok (.ireturn, 1) := by decide +kernel
set_option maxRecDepth 20000 in
theorem ggX1_mergeSlot_X1_isAdded : GoodIn wsX1_mergeSlot wsX1_isAdded := goodIn_r _ [8, 1, 9, 10, 11, 7, 12, 13, 18, 19, 20, 21, 22, 23] (by decide +kernel) (by decide +kernel)
set_option maxRecDepth 20000 in
theorem gX1_mergeSlot_X1_isAdded : GoodIn wsX1_mergeSlot (wsV RX1 87 RX1 yX1_isAdded wsX1_isAdded) := goodIn_app (goodIn_of _ (by decide +kernel)) ggX1_mergeSlot_X1_isAdded
set_option maxRecDepth 20000 in
theorem ggX1_mergeSlot_X1_isRemoved : GoodIn wsX1_mergeSlot wsX1_isRemoved := goodIn_r _ [17, 1, 9, 10, 11, 7, 12, 13, 18, 19, 20, 21, 22, 23] (by decide +kernel) (by decide +kernel)
set_option maxRecDepth 20000 in
theorem gX1_mergeSlot_X1_isRemoved : GoodIn wsX1_mergeSlot (wsV RX1 91 RX1 yX1_isRemoved wsX1_isRemoved) := goodIn_app (goodIn_of _ (by decide +kernel)) ggX1_mergeSlot_X1_isRemoved
theorem dX1_mergeSlot_0 : decode cX1_mergeSlot 0 = .ok (.iload_n 1, 1) := by decide +kernel
theorem dX1_mergeSlot_1 : decode cX1_mergeSlot 1 = .ok (.sipush 480, 3) := by decide +kernel
theorem dX1_mergeSlot_4 : decode cX1_mergeSlot 4 = .ok (.imul, 1) := by decide +kernel
theorem dX1_mergeSlot_5 : decode cX1_mergeSlot 5 = .ok (.iload_n 3, 1) := by decide +kernel
theorem dX1_mergeSlot_6 : decode cX1_mergeSlot 6 = .ok (.iadd, 1) := by decide +kernel
theorem dX1_mergeSlot_7 : decode cX1_mergeSlot 7 = .ok (.istore 4, 2) := by decide +kernel
theorem dX1_mergeSlot_9 : decode cX1_mergeSlot 9 = .ok (.iload_n 2, 1) := by decide +kernel
theorem dX1_mergeSlot_10 : decode cX1_mergeSlot 10 = .ok (.sipush 480, 3) := by decide +kernel
theorem dX1_mergeSlot_13 : decode cX1_mergeSlot 13 = .ok (.imul, 1) := by decide +kernel
theorem dX1_mergeSlot_14 : decode cX1_mergeSlot 14 = .ok (.iload_n 3, 1) := by decide +kernel
theorem dX1_mergeSlot_15 : decode cX1_mergeSlot 15 = .ok (.iadd, 1) := by decide +kernel
theorem dX1_mergeSlot_16 : decode cX1_mergeSlot 16 = .ok (.istore 5, 2) := by decide +kernel
theorem dX1_mergeSlot_18 : decode cX1_mergeSlot 18 = .ok (.aload_n 0, 1) := by decide +kernel
theorem dX1_mergeSlot_19 : decode cX1_mergeSlot 19 = .ok (.iload_n 1, 1) := by decide +kernel
theorem dX1_mergeSlot_20 : decode cX1_mergeSlot 20 = .ok (.iload_n 2, 1) := by decide +kernel
theorem dX1_mergeSlot_21 : decode cX1_mergeSlot 21 = .ok (.iload_n 3, 1) := by decide +kernel
theorem dX1_mergeSlot_22 : decode cX1_mergeSlot 22 = .ok (.invokevirtual 87, 3) := by decide +kernel
theorem dX1_mergeSlot_25 : decode cX1_mergeSlot 25 = .ok (.ifCond .eq 48, 3) := by decide +kernel
theorem dX1_mergeSlot_28 : decode cX1_mergeSlot 28 = .ok (.aload_n 0, 1) := by decide +kernel
theorem dX1_mergeSlot_29 : decode cX1_mergeSlot 29 = .ok (.getfield 11, 3) := by decide +kernel
theorem dX1_mergeSlot_32 : decode cX1_mergeSlot 32 = .ok (.iload 5, 2) := by decide +kernel
theorem dX1_mergeSlot_34 : decode cX1_mergeSlot 34 = .ok (.aload_n 0, 1) := by decide +kernel
theorem dX1_mergeSlot_35 : decode cX1_mergeSlot 35 = .ok (.getfield 11, 3) := by decide +kernel
theorem dX1_mergeSlot_38 : decode cX1_mergeSlot 38 = .ok (.iload 4, 2) := by decide +kernel
theorem dX1_mergeSlot_40 : decode cX1_mergeSlot 40 = .ok (.iaload, 1) := by decide +kernel
theorem dX1_mergeSlot_41 : decode cX1_mergeSlot 41 = .ok (.iastore, 1) := by decide +kernel
theorem dX1_mergeSlot_42 : decode cX1_mergeSlot 42 = .ok (.aload_n 0, 1) := by decide +kernel
theorem dX1_mergeSlot_43 : decode cX1_mergeSlot 43 = .ok (.getfield 15, 3) := by decide +kernel
theorem dX1_mergeSlot_46 : decode cX1_mergeSlot 46 = .ok (.iload 5, 2) := by decide +kernel
theorem dX1_mergeSlot_48 : decode cX1_mergeSlot 48 = .ok (.aload_n 0, 1) := by decide +kernel
theorem dX1_mergeSlot_49 : decode cX1_mergeSlot 49 = .ok (.getfield 15, 3) := by decide +kernel
theorem dX1_mergeSlot_52 : decode cX1_mergeSlot 52 = .ok (.iload 4, 2) := by decide +kernel
theorem dX1_mergeSlot_54 : decode cX1_mergeSlot 54 = .ok (.iaload, 1) := by decide +kernel
theorem dX1_mergeSlot_55 : decode cX1_mergeSlot 55 = .ok (.iastore, 1) := by decide +kernel
theorem dX1_mergeSlot_56 : decode cX1_mergeSlot 56 = .ok (.aload_n 0, 1) := by decide +kernel
theorem dX1_mergeSlot_57 : decode cX1_mergeSlot 57 = .ok (.getfield 18, 3) := by decide +kernel
theorem dX1_mergeSlot_60 : decode cX1_mergeSlot 60 = .ok (.iload 5, 2) := by decide +kernel
theorem dX1_mergeSlot_62 : decode cX1_mergeSlot 62 = .ok (.aload_n 0, 1) := by decide +kernel
theorem dX1_mergeSlot_63 : decode cX1_mergeSlot 63 = .ok (.getfield 18, 3) := by decide +kernel
theorem dX1_mergeSlot_66 : decode cX1_mergeSlot 66 = .ok (.iload 4, 2) := by decide +kernel
theorem dX1_mergeSlot_68 : decode cX1_mergeSlot 68 = .ok (.iaload, 1) := by decide +kernel
theorem dX1_mergeSlot_69 : decode cX1_mergeSlot 69 = .ok (.iastore, 1) := by decide +kernel
theorem dX1_mergeSlot_70 : decode cX1_mergeSlot 70 = .ok (.goto 21, 3) := by decide +kernel
theorem dX1_mergeSlot_73 : decode cX1_mergeSlot 73 = .ok (.aload_n 0, 1) := by decide +kernel
theorem dX1_mergeSlot_74 : decode cX1_mergeSlot 74 = .ok (.iload_n 1, 1) := by decide +kernel
theorem dX1_mergeSlot_75 : decode cX1_mergeSlot 75 = .ok (.iload_n 2, 1) := by decide +kernel
theorem dX1_mergeSlot_76 : decode cX1_mergeSlot 76 = .ok (.iload_n 3, 1) := by decide +kernel
theorem dX1_mergeSlot_77 : decode cX1_mergeSlot 77 = .ok (.invokevirtual 91, 3) := by decide +kernel
theorem dX1_mergeSlot_80 : decode cX1_mergeSlot 80 = .ok (.ifCond .eq 11, 3) := by decide +kernel
theorem dX1_mergeSlot_83 : decode cX1_mergeSlot 83 = .ok (.aload_n 0, 1) := by decide +kernel
theorem dX1_mergeSlot_84 : decode cX1_mergeSlot 84 = .ok (.getfield 11, 3) := by decide +kernel
theorem dX1_mergeSlot_87 : decode cX1_mergeSlot 87 = .ok (.iload 5, 2) := by decide +kernel
theorem dX1_mergeSlot_89 : decode cX1_mergeSlot 89 = .ok (.iconst 0, 1) := by decide +kernel
theorem dX1_mergeSlot_90 : decode cX1_mergeSlot 90 = .ok (.iastore, 1) := by decide +kernel
theorem dX1_mergeSlot_91 : decode cX1_mergeSlot 91 = .ok (.return_, 1) := by decide +kernel
set_option maxRecDepth 20000 in
theorem ggX1_mergeKnowledge_X1_seenNumber : GoodIn wsX1_mergeKnowledge wsX1_seenNumber := goodIn_r _ [11, 1, 12, 13, 14, 15, 16, 17] (by decide +kernel) (by decide +kernel)
set_option maxRecDepth 20000 in
theorem gX1_mergeKnowledge_X1_seenNumber : GoodIn wsX1_mergeKnowledge (wsV RX1 47 RX1 yX1_seenNumber wsX1_seenNumber) := goodIn_app (goodIn_of _ (by decide +kernel)) ggX1_mergeKnowledge_X1_seenNumber
theorem dX1_mergeKnowledge_0 : decode cX1_mergeKnowledge 0 = .ok (.iconst 0, 1) := by decide +kernel
theorem dX1_mergeKnowledge_1 : decode cX1_mergeKnowledge 1 = .ok (.istore_n 3, 1) := by decide +kernel
theorem dX1_mergeKnowledge_2 : decode cX1_mergeKnowledge 2 = .ok (.iload_n 3, 1) := by decide +kernel
theorem dX1_mergeKnowledge_3 : decode cX1_mergeKnowledge 3 = .ok (.iconst 4, 1) := by decide +kernel
theorem dX1_mergeKnowledge_4 : decode cX1_mergeKnowledge 4 = .ok (.if_icmp .ge 34, 3) := by decide +kernel
theorem dX1_mergeKnowledge_7 : decode cX1_mergeKnowledge 7 = .ok (.aload_n 0, 1) := by decide +kernel
theorem dX1_mergeKnowledge_8 : decode cX1_mergeKnowledge 8 = .ok (.getfield 21, 3) := by decide +kernel
theorem dX1_mergeKnowledge_11 : decode cX1_mergeKnowledge 11 = .ok (.iload_n 2, 1) := by decide +kernel
theorem dX1_mergeKnowledge_12 : decode cX1_mergeKnowledge 12 = .ok (.iconst 4, 1) := by decide +kernel
theorem dX1_mergeKnowledge_13 : decode cX1_mergeKnowledge 13 = .ok (.imul, 1) := by decide +kernel
theorem dX1_mergeKnowledge_14 : decode cX1_mergeKnowledge 14 = .ok (.iload_n 3, 1) := by decide +kernel
theorem dX1_mergeKnowledge_15 : decode cX1_mergeKnowledge 15 = .ok (.iadd, 1) := by decide +kernel
theorem dX1_mergeKnowledge_16 : decode cX1_mergeKnowledge 16 = .ok (.aload_n 0, 1) := by decide +kernel
theorem dX1_mergeKnowledge_17 : decode cX1_mergeKnowledge 17 = .ok (.iload_n 1, 1) := by decide +kernel
theorem dX1_mergeKnowledge_18 : decode cX1_mergeKnowledge 18 = .ok (.iload_n 3, 1) := by decide +kernel
theorem dX1_mergeKnowledge_19 : decode cX1_mergeKnowledge 19 = .ok (.invokevirtual 47, 3) := by decide +kernel
theorem dX1_mergeKnowledge_22 : decode cX1_mergeKnowledge 22 = .ok (.aload_n 0, 1) := by decide +kernel
theorem dX1_mergeKnowledge_23 : decode cX1_mergeKnowledge 23 = .ok (.iload_n 2, 1) := by decide +kernel
theorem dX1_mergeKnowledge_24 : decode cX1_mergeKnowledge 24 = .ok (.iload_n 3, 1) := by decide +kernel
theorem dX1_mergeKnowledge_25 : decode cX1_mergeKnowledge 25 = .ok (.invokevirtual 47, 3) := by decide +kernel
theorem dX1_mergeKnowledge_28 : decode cX1_mergeKnowledge 28 = .ok (.invokestatic 57, 3) := by decide +kernel
theorem dX1_mergeKnowledge_31 : decode cX1_mergeKnowledge 31 = .ok (.iastore, 1) := by decide +kernel
theorem dX1_mergeKnowledge_32 : decode cX1_mergeKnowledge 32 = .ok (.iinc 3 1, 3) := by decide +kernel
theorem dX1_mergeKnowledge_35 : decode cX1_mergeKnowledge 35 = .ok (.goto (-33), 3) := by decide +kernel
theorem dX1_mergeKnowledge_38 : decode cX1_mergeKnowledge 38 = .ok (.aload_n 0, 1) := by decide +kernel
theorem dX1_mergeKnowledge_39 : decode cX1_mergeKnowledge 39 = .ok (.getfield 24, 3) := by decide +kernel
theorem dX1_mergeKnowledge_42 : decode cX1_mergeKnowledge 42 = .ok (.iload_n 2, 1) := by decide +kernel
theorem dX1_mergeKnowledge_43 : decode cX1_mergeKnowledge 43 = .ok (.aload_n 0, 1) := by decide +kernel
theorem dX1_mergeKnowledge_44 : decode cX1_mergeKnowledge 44 = .ok (.getfield 24, 3) := by decide +kernel
theorem dX1_mergeKnowledge_47 : decode cX1_mergeKnowledge 47 = .ok (.iload_n 1, 1) := by decide +kernel
theorem dX1_mergeKnowledge_48 : decode cX1_mergeKnowledge 48 = .ok (.iaload, 1) := by decide +kernel
theorem dX1_mergeKnowledge_49 : decode cX1_mergeKnowledge 49 = .ok (.aload_n 0, 1) := by decide +kernel
theorem dX1_mergeKnowledge_50 : decode cX1_mergeKnowledge 50 = .ok (.getfield 24, 3) := by decide +kernel
theorem dX1_mergeKnowledge_53 : decode cX1_mergeKnowledge 53 = .ok (.iload_n 2, 1) := by decide +kernel
theorem dX1_mergeKnowledge_54 : decode cX1_mergeKnowledge 54 = .ok (.iaload, 1) := by decide +kernel
theorem dX1_mergeKnowledge_55 : decode cX1_mergeKnowledge 55 = .ok (.invokestatic 57, 3) := by decide +kernel
theorem dX1_mergeKnowledge_58 : decode cX1_mergeKnowledge 58 = .ok (.iastore, 1) := by decide +kernel
theorem dX1_mergeKnowledge_59 : decode cX1_mergeKnowledge 59 = .ok (.return_, 1) := by decide +kernel
set_option maxRecDepth 20000 in
theorem ggX1_latestValue_X1_cellStart : GoodIn wsX1_latestValue wsX1_cellStart := goodIn_r _ [7, 8, 9, 6, 10] (by decide +kernel) (by decide +kernel)
set_option maxRecDepth 20000 in
theorem gX1_latestValue_X1_cellStart : GoodIn wsX1_latestValue (va_wsS RX1 94 yX1_cellStart wsX1_cellStart) := goodIn_app (goodIn_of _ (by decide +kernel)) ggX1_latestValue_X1_cellStart
set_option maxRecDepth 20000 in
theorem ggX1_latestValue_X1_cellEnd : GoodIn wsX1_latestValue wsX1_cellEnd := goodIn_r _ [13, 8, 9, 6, 10] (by decide +kernel) (by decide +kernel)
set_option maxRecDepth 20000 in
theorem gX1_latestValue_X1_cellEnd : GoodIn wsX1_latestValue (va_wsS RX1 97 yX1_cellEnd wsX1_cellEnd) := goodIn_app (goodIn_of _ (by decide +kernel)) ggX1_latestValue_X1_cellEnd
theorem dX1_latestValue_0 : decode cX1_latestValue 0 = .ok (.iload_n 1, 1) := by decide +kernel
theorem dX1_latestValue_1 : decode cX1_latestValue 1 = .ok (.iload_n 2, 1) := by decide +kernel
theorem dX1_latestValue_2 : decode cX1_latestValue 2 = .ok (.iconst 0, 1) := by decide +kernel
theorem dX1_latestValue_3 : decode cX1_latestValue 3 = .ok (.invokestatic 94, 3) := by decide +kernel
theorem dX1_latestValue_6 : decode cX1_latestValue 6 = .ok (.istore_n 3, 1) := by decide +kernel
theorem dX1_latestValue_7 : decode cX1_latestValue 7 = .ok (.iload_n 1, 1) := by decide +kernel
theorem dX1_latestValue_8 : decode cX1_latestValue 8 = .ok (.iload_n 2, 1) := by decide +kernel
end
section
theorem dX1_latestValue_9 : decode cX1_latestValue 9 = .ok (.iconst 0, 1) := by decide +kernel
theorem dX1_latestValue_10 : decode cX1_latestValue 10 = .ok (.invokestatic 97, 3) := by decide +kernel
theorem dX1_latestValue_13 : decode cX1_latestValue 13 = .ok (.istore 4, 2) := by decide +kernel
theorem dX1_latestValue_15 : decode cX1_latestValue 15 = .ok (.iconst 0, 1) := by decide +kernel
theorem dX1_latestValue_16 : decode cX1_latestValue 16 = .ok (.istore 5, 2) := by decide +kernel
theorem dX1_latestValue_18 : decode cX1_latestValue 18 = .ok (.iconst (-1), 1) := by decide +kernel
theorem dX1_latestValue_19 : decode cX1_latestValue 19 = .ok (.istore 6, 2) := by decide +kernel
theorem dX1_latestValue_21 : decode cX1_latestValue 21 = .ok (.iload_n 3, 1) := by decide +kernel
theorem dX1_latestValue_22 : decode cX1_latestValue 22 = .ok (.istore 7, 2) := by decide +kernel
theorem dX1_latestValue_24 : decode cX1_latestValue 24 = .ok (.iload 7, 2) := by decide +kernel
theorem dX1_latestValue_26 : decode cX1_latestValue 26 = .ok (.iload 4, 2) := by decide +kernel
theorem dX1_latestValue_28 : decode cX1_latestValue 28 = .ok (.if_icmp .ge 49, 3) := by decide +kernel
theorem dX1_latestValue_31 : decode cX1_latestValue 31 = .ok (.aload_n 0, 1) := by decide +kernel
theorem dX1_latestValue_32 : decode cX1_latestValue 32 = .ok (.getfield 11, 3) := by decide +kernel
theorem dX1_latestValue_35 : decode cX1_latestValue 35 = .ok (.iload 7, 2) := by decide +kernel
theorem dX1_latestValue_37 : decode cX1_latestValue 37 = .ok (.iaload, 1) := by decide +kernel
theorem dX1_latestValue_38 : decode cX1_latestValue 38 = .ok (.ifCond .eq 33, 3) := by decide +kernel
theorem dX1_latestValue_41 : decode cX1_latestValue 41 = .ok (.aload_n 0, 1) := by decide +kernel
theorem dX1_latestValue_42 : decode cX1_latestValue 42 = .ok (.getfield 15, 3) := by decide +kernel
theorem dX1_latestValue_45 : decode cX1_latestValue 45 = .ok (.iload 7, 2) := by decide +kernel
theorem dX1_latestValue_47 : decode cX1_latestValue 47 = .ok (.iaload, 1) := by decide +kernel
theorem dX1_latestValue_48 : decode cX1_latestValue 48 = .ok (.iload 5, 2) := by decide +kernel
theorem dX1_latestValue_50 : decode cX1_latestValue 50 = .ok (.if_icmp .lt 21, 3) := by decide +kernel
theorem dX1_latestValue_53 : decode cX1_latestValue 53 = .ok (.aload_n 0, 1) := by decide +kernel
theorem dX1_latestValue_54 : decode cX1_latestValue 54 = .ok (.getfield 15, 3) := by decide +kernel
theorem dX1_latestValue_57 : decode cX1_latestValue 57 = .ok (.iload 7, 2) := by decide +kernel
theorem dX1_latestValue_59 : decode cX1_latestValue 59 = .ok (.iaload, 1) := by decide +kernel
theorem dX1_latestValue_60 : decode cX1_latestValue 60 = .ok (.istore 5, 2) := by decide +kernel
theorem dX1_latestValue_62 : decode cX1_latestValue 62 = .ok (.aload_n 0, 1) := by decide +kernel
theorem dX1_latestValue_63 : decode cX1_latestValue 63 = .ok (.getfield 18, 3) := by decide +kernel
theorem dX1_latestValue_66 : decode cX1_latestValue 66 = .ok (.iload 7, 2) := by decide +kernel
theorem dX1_latestValue_68 : decode cX1_latestValue 68 = .ok (.iaload, 1) := by decide +kernel
theorem dX1_latestValue_69 : decode cX1_latestValue 69 = .ok (.istore 6, 2) := by decide +kernel
theorem dX1_latestValue_71 : decode cX1_latestValue 71 = .ok (.iinc 7 1, 3) := by decide +kernel
theorem dX1_latestValue_74 : decode cX1_latestValue 74 = .ok (.goto (-50), 3) := by decide +kernel
theorem dX1_latestValue_77 : decode cX1_latestValue 77 = .ok (.iload 6, 2) := by decide +kernel
theorem dX1_latestValue_79 : decode cX1_latestValue 79 = .ok (.ireturn, 1) := by decide +kernel
set_option maxRecDepth 20000 in
theorem ggX1_siblingAt_X1_cellStart : GoodIn wsX1_siblingAt wsX1_cellStart := goodIn_r _ [6, 7, 8, 5, 9] (by decide +kernel) (by decide +kernel)
set_option maxRecDepth 20000 in
theorem gX1_siblingAt_X1_cellStart : GoodIn wsX1_siblingAt (va_wsS RX1 94 yX1_cellStart wsX1_cellStart) := goodIn_app (goodIn_of _ (by decide +kernel)) ggX1_siblingAt_X1_cellStart
set_option maxRecDepth 20000 in
theorem ggX1_siblingAt_X1_cellEnd : GoodIn wsX1_siblingAt wsX1_cellEnd := goodIn_r _ [12, 7, 8, 5, 9] (by decide +kernel) (by decide +kernel)
set_option maxRecDepth 20000 in
theorem gX1_siblingAt_X1_cellEnd : GoodIn wsX1_siblingAt (va_wsS RX1 97 yX1_cellEnd wsX1_cellEnd) := goodIn_app (goodIn_of _ (by decide +kernel)) ggX1_siblingAt_X1_cellEnd
set_option maxRecDepth 20000 in
theorem ggX1_siblingAt_X1_rankInCell : GoodIn wsX1_siblingAt wsX1_rankInCell := goodIn_r _ [16, 2, 1, 17, 18, 19, 20, 21, 22] (by decide +kernel) (by decide +kernel)
set_option maxRecDepth 20000 in
theorem gX1_siblingAt_X1_rankInCell : GoodIn wsX1_siblingAt (wsV RX1 100 RX1 yX1_rankInCell wsX1_rankInCell) := goodIn_app (goodIn_of _ (by decide +kernel)) ggX1_siblingAt_X1_rankInCell
theorem dX1_siblingAt_0 : decode cX1_siblingAt 0 = .ok (.iload_n 1, 1) := by decide +kernel
theorem dX1_siblingAt_1 : decode cX1_siblingAt 1 = .ok (.iload_n 2, 1) := by decide +kernel
theorem dX1_siblingAt_2 : decode cX1_siblingAt 2 = .ok (.iconst 1, 1) := by decide +kernel
theorem dX1_siblingAt_3 : decode cX1_siblingAt 3 = .ok (.invokestatic 94, 3) := by decide +kernel
theorem dX1_siblingAt_6 : decode cX1_siblingAt 6 = .ok (.istore 4, 2) := by decide +kernel
theorem dX1_siblingAt_8 : decode cX1_siblingAt 8 = .ok (.iload_n 1, 1) := by decide +kernel
theorem dX1_siblingAt_9 : decode cX1_siblingAt 9 = .ok (.iload_n 2, 1) := by decide +kernel
theorem dX1_siblingAt_10 : decode cX1_siblingAt 10 = .ok (.iconst 1, 1) := by decide +kernel
theorem dX1_siblingAt_11 : decode cX1_siblingAt 11 = .ok (.invokestatic 97, 3) := by decide +kernel
theorem dX1_siblingAt_14 : decode cX1_siblingAt 14 = .ok (.istore 5, 2) := by decide +kernel
theorem dX1_siblingAt_16 : decode cX1_siblingAt 16 = .ok (.iload 4, 2) := by decide +kernel
theorem dX1_siblingAt_18 : decode cX1_siblingAt 18 = .ok (.istore 6, 2) := by decide +kernel
theorem dX1_siblingAt_20 : decode cX1_siblingAt 20 = .ok (.iload 6, 2) := by decide +kernel
theorem dX1_siblingAt_22 : decode cX1_siblingAt 22 = .ok (.iload 5, 2) := by decide +kernel
theorem dX1_siblingAt_24 : decode cX1_siblingAt 24 = .ok (.if_icmp .ge 41, 3) := by decide +kernel
theorem dX1_siblingAt_27 : decode cX1_siblingAt 27 = .ok (.aload_n 0, 1) := by decide +kernel
theorem dX1_siblingAt_28 : decode cX1_siblingAt 28 = .ok (.getfield 11, 3) := by decide +kernel
theorem dX1_siblingAt_31 : decode cX1_siblingAt 31 = .ok (.iload 6, 2) := by decide +kernel
theorem dX1_siblingAt_33 : decode cX1_siblingAt 33 = .ok (.iaload, 1) := by decide +kernel
theorem dX1_siblingAt_34 : decode cX1_siblingAt 34 = .ok (.ifCond .eq 25, 3) := by decide +kernel
theorem dX1_siblingAt_37 : decode cX1_siblingAt 37 = .ok (.aload_n 0, 1) := by decide +kernel
theorem dX1_siblingAt_38 : decode cX1_siblingAt 38 = .ok (.iload 4, 2) := by decide +kernel
theorem dX1_siblingAt_40 : decode cX1_siblingAt 40 = .ok (.iload 5, 2) := by decide +kernel
theorem dX1_siblingAt_42 : decode cX1_siblingAt 42 = .ok (.iload 6, 2) := by decide +kernel
theorem dX1_siblingAt_44 : decode cX1_siblingAt 44 = .ok (.invokevirtual 100, 3) := by decide +kernel
theorem dX1_siblingAt_47 : decode cX1_siblingAt 47 = .ok (.iload_n 3, 1) := by decide +kernel
theorem dX1_siblingAt_48 : decode cX1_siblingAt 48 = .ok (.if_icmp .ne 11, 3) := by decide +kernel
theorem dX1_siblingAt_51 : decode cX1_siblingAt 51 = .ok (.aload_n 0, 1) := by decide +kernel
theorem dX1_siblingAt_52 : decode cX1_siblingAt 52 = .ok (.getfield 18, 3) := by decide +kernel
theorem dX1_siblingAt_55 : decode cX1_siblingAt 55 = .ok (.iload 6, 2) := by decide +kernel
theorem dX1_siblingAt_57 : decode cX1_siblingAt 57 = .ok (.iaload, 1) := by decide +kernel
theorem dX1_siblingAt_58 : decode cX1_siblingAt 58 = .ok (.ireturn, 1) := by decide +kernel
theorem dX1_siblingAt_59 : decode cX1_siblingAt 59 = .ok (.iinc 6 1, 3) := by decide +kernel
theorem dX1_siblingAt_62 : decode cX1_siblingAt 62 = .ok (.goto (-42), 3) := by decide +kernel
theorem dX1_siblingAt_65 : decode cX1_siblingAt 65 = .ok (.iconst (-1), 1) := by decide +kernel
theorem dX1_siblingAt_66 : decode cX1_siblingAt 66 = .ok (.ireturn, 1) := by decide +kernel
theorem dX1_rankInCell_0 : decode cX1_rankInCell 0 = .ok (.iconst 0, 1) := by decide +kernel
theorem dX1_rankInCell_1 : decode cX1_rankInCell 1 = .ok (.istore 4, 2) := by decide +kernel
theorem dX1_rankInCell_3 : decode cX1_rankInCell 3 = .ok (.iload_n 1, 1) := by decide +kernel
theorem dX1_rankInCell_4 : decode cX1_rankInCell 4 = .ok (.istore 5, 2) := by decide +kernel
theorem dX1_rankInCell_6 : decode cX1_rankInCell 6 = .ok (.iload 5, 2) := by decide +kernel
theorem dX1_rankInCell_8 : decode cX1_rankInCell 8 = .ok (.iload_n 2, 1) := by decide +kernel
theorem dX1_rankInCell_9 : decode cX1_rankInCell 9 = .ok (.if_icmp .ge 72, 3) := by decide +kernel
theorem dX1_rankInCell_12 : decode cX1_rankInCell 12 = .ok (.aload_n 0, 1) := by decide +kernel
theorem dX1_rankInCell_13 : decode cX1_rankInCell 13 = .ok (.getfield 18, 3) := by decide +kernel
theorem dX1_rankInCell_16 : decode cX1_rankInCell 16 = .ok (.iload 5, 2) := by decide +kernel
theorem dX1_rankInCell_18 : decode cX1_rankInCell 18 = .ok (.iaload, 1) := by decide +kernel
theorem dX1_rankInCell_19 : decode cX1_rankInCell 19 = .ok (.aload_n 0, 1) := by decide +kernel
theorem dX1_rankInCell_20 : decode cX1_rankInCell 20 = .ok (.getfield 18, 3) := by decide +kernel
theorem dX1_rankInCell_23 : decode cX1_rankInCell 23 = .ok (.iload_n 3, 1) := by decide +kernel
theorem dX1_rankInCell_24 : decode cX1_rankInCell 24 = .ok (.iaload, 1) := by decide +kernel
theorem dX1_rankInCell_25 : decode cX1_rankInCell 25 = .ok (.if_icmp .lt 25, 3) := by decide +kernel
theorem dX1_rankInCell_28 : decode cX1_rankInCell 28 = .ok (.aload_n 0, 1) := by decide +kernel
theorem dX1_rankInCell_29 : decode cX1_rankInCell 29 = .ok (.getfield 18, 3) := by decide +kernel
theorem dX1_rankInCell_32 : decode cX1_rankInCell 32 = .ok (.iload 5, 2) := by decide +kernel
theorem dX1_rankInCell_34 : decode cX1_rankInCell 34 = .ok (.iaload, 1) := by decide +kernel
theorem dX1_rankInCell_35 : decode cX1_rankInCell 35 = .ok (.aload_n 0, 1) := by decide +kernel
theorem dX1_rankInCell_36 : decode cX1_rankInCell 36 = .ok (.getfield 18, 3) := by decide +kernel
theorem dX1_rankInCell_39 : decode cX1_rankInCell 39 = .ok (.iload_n 3, 1) := by decide +kernel
theorem dX1_rankInCell_40 : decode cX1_rankInCell 40 = .ok (.iaload, 1) := by decide +kernel
theorem dX1_rankInCell_41 : decode cX1_rankInCell 41 = .ok (.if_icmp .ne 13, 3) := by decide +kernel
theorem dX1_rankInCell_44 : decode cX1_rankInCell 44 = .ok (.iload 5, 2) := by decide +kernel
theorem dX1_rankInCell_46 : decode cX1_rankInCell 46 = .ok (.iload_n 3, 1) := by decide +kernel
theorem dX1_rankInCell_47 : decode cX1_rankInCell 47 = .ok (.if_icmp .ge 7, 3) := by decide +kernel
theorem dX1_rankInCell_50 : decode cX1_rankInCell 50 = .ok (.iconst 1, 1) := by decide +kernel
theorem dX1_rankInCell_51 : decode cX1_rankInCell 51 = .ok (.goto 4, 3) := by decide +kernel
theorem dX1_rankInCell_54 : decode cX1_rankInCell 54 = .ok (.iconst 0, 1) := by decide +kernel
theorem dX1_rankInCell_55 : decode cX1_rankInCell 55 = .ok (.istore 6, 2) := by decide +kernel
theorem dX1_rankInCell_57 : decode cX1_rankInCell 57 = .ok (.aload_n 0, 1) := by decide +kernel
theorem dX1_rankInCell_58 : decode cX1_rankInCell 58 = .ok (.getfield 11, 3) := by decide +kernel
theorem dX1_rankInCell_61 : decode cX1_rankInCell 61 = .ok (.iload 5, 2) := by decide +kernel
theorem dX1_rankInCell_63 : decode cX1_rankInCell 63 = .ok (.iaload, 1) := by decide +kernel
theorem dX1_rankInCell_64 : decode cX1_rankInCell 64 = .ok (.ifCond .eq 11, 3) := by decide +kernel
theorem dX1_rankInCell_67 : decode cX1_rankInCell 67 = .ok (.iload 6, 2) := by decide +kernel
theorem dX1_rankInCell_69 : decode cX1_rankInCell 69 = .ok (.ifCond .eq 6, 3) := by decide +kernel
theorem dX1_rankInCell_72 : decode cX1_rankInCell 72 = .ok (.iinc 4 1, 3) := by decide +kernel
theorem dX1_rankInCell_75 : decode cX1_rankInCell 75 = .ok (.iinc 5 1, 3) := by decide +kernel
theorem dX1_rankInCell_78 : decode cX1_rankInCell 78 = .ok (.goto (-72), 3) := by decide +kernel
theorem dX1_rankInCell_81 : decode cX1_rankInCell 81 = .ok (.iload 4, 2) := by decide +kernel
theorem dX1_rankInCell_83 : decode cX1_rankInCell 83 = .ok (.ireturn, 1) := by decide +kernel
set_option maxRecDepth 20000 in
theorem ggX1_greatestValue_X1_cellEnd : GoodIn wsX1_greatestValue wsX1_cellEnd := goodIn_r _ [10, 11, 12, 9, 13] (by decide +kernel) (by decide +kernel)
set_option maxRecDepth 20000 in
theorem gX1_greatestValue_X1_cellEnd : GoodIn wsX1_greatestValue (va_wsS RX1 97 yX1_cellEnd wsX1_cellEnd) := goodIn_app (goodIn_of _ (by decide +kernel)) ggX1_greatestValue_X1_cellEnd
set_option maxRecDepth 20000 in
theorem ggX1_greatestValue_X1_cellStart : GoodIn wsX1_greatestValue wsX1_cellStart := goodIn_r _ [16, 11, 12, 9, 13] (by decide +kernel) (by decide +kernel)
set_option maxRecDepth 20000 in
theorem gX1_greatestValue_X1_cellStart : GoodIn wsX1_greatestValue (va_wsS RX1 94 yX1_cellStart wsX1_cellStart) := goodIn_app (goodIn_of _ (by decide +kernel)) ggX1_greatestValue_X1_cellStart
theorem dX1_greatestValue_0 : decode cX1_greatestValue 0 = .ok (.iload_n 1, 1) := by decide +kernel
theorem dX1_greatestValue_1 : decode cX1_greatestValue 1 = .ok (.iload_n 2, 1) := by decide +kernel
theorem dX1_greatestValue_2 : decode cX1_greatestValue 2 = .ok (.iconst 2, 1) := by decide +kernel
theorem dX1_greatestValue_3 : decode cX1_greatestValue 3 = .ok (.invokestatic 97, 3) := by decide +kernel
theorem dX1_greatestValue_6 : decode cX1_greatestValue 6 = .ok (.istore_n 3, 1) := by decide +kernel
theorem dX1_greatestValue_7 : decode cX1_greatestValue 7 = .ok (.iconst (-1), 1) := by decide +kernel
theorem dX1_greatestValue_8 : decode cX1_greatestValue 8 = .ok (.istore 4, 2) := by decide +kernel
theorem dX1_greatestValue_10 : decode cX1_greatestValue 10 = .ok (.iload_n 1, 1) := by decide +kernel
theorem dX1_greatestValue_11 : decode cX1_greatestValue 11 = .ok (.iload_n 2, 1) := by decide +kernel
theorem dX1_greatestValue_12 : decode cX1_greatestValue 12 = .ok (.iconst 2, 1) := by decide +kernel
theorem dX1_greatestValue_13 : decode cX1_greatestValue 13 = .ok (.invokestatic 94, 3) := by decide +kernel
theorem dX1_greatestValue_16 : decode cX1_greatestValue 16 = .ok (.istore 5, 2) := by decide +kernel
theorem dX1_greatestValue_18 : decode cX1_greatestValue 18 = .ok (.iload 5, 2) := by decide +kernel
theorem dX1_greatestValue_20 : decode cX1_greatestValue 20 = .ok (.iload_n 3, 1) := by decide +kernel
theorem dX1_greatestValue_21 : decode cX1_greatestValue 21 = .ok (.if_icmp .ge 33, 3) := by decide +kernel
theorem dX1_greatestValue_24 : decode cX1_greatestValue 24 = .ok (.aload_n 0, 1) := by decide +kernel
theorem dX1_greatestValue_25 : decode cX1_greatestValue 25 = .ok (.getfield 11, 3) := by decide +kernel
theorem dX1_greatestValue_28 : decode cX1_greatestValue 28 = .ok (.iload 5, 2) := by decide +kernel
theorem dX1_greatestValue_30 : decode cX1_greatestValue 30 = .ok (.iaload, 1) := by decide +kernel
theorem dX1_greatestValue_31 : decode cX1_greatestValue 31 = .ok (.ifCond .eq 17, 3) := by decide +kernel
theorem dX1_greatestValue_34 : decode cX1_greatestValue 34 = .ok (.iload 4, 2) := by decide +kernel
theorem dX1_greatestValue_36 : decode cX1_greatestValue 36 = .ok (.aload_n 0, 1) := by decide +kernel
theorem dX1_greatestValue_37 : decode cX1_greatestValue 37 = .ok (.getfield 18, 3) := by decide +kernel
theorem dX1_greatestValue_40 : decode cX1_greatestValue 40 = .ok (.iload 5, 2) := by decide +kernel
theorem dX1_greatestValue_42 : decode cX1_greatestValue 42 = .ok (.iaload, 1) := by decide +kernel
theorem dX1_greatestValue_43 : decode cX1_greatestValue 43 = .ok (.invokestatic 57, 3) := by decide +kernel
theorem dX1_greatestValue_46 : decode cX1_greatestValue 46 = .ok (.istore 4, 2) := by decide +kernel
theorem dX1_greatestValue_48 : decode cX1_greatestValue 48 = .ok (.iinc 5 1, 3) := by decide +kernel
theorem dX1_greatestValue_51 : decode cX1_greatestValue 51 = .ok (.goto (-33), 3) := by decide +kernel
theorem dX1_greatestValue_54 : decode cX1_greatestValue 54 = .ok (.iload 4, 2) := by decide +kernel
theorem dX1_greatestValue_56 : decode cX1_greatestValue 56 = .ok (.ireturn, 1) := by decide +kernel
set_option maxRecDepth 20000 in
theorem ggX1_sumOfCell_X1_cellEnd : GoodIn wsX1_sumOfCell wsX1_cellEnd := goodIn_r _ [6, 7, 8, 5, 9] (by decide +kernel) (by decide +kernel)
set_option maxRecDepth 20000 in
theorem gX1_sumOfCell_X1_cellEnd : GoodIn wsX1_sumOfCell (va_wsS RX1 97 yX1_cellEnd wsX1_cellEnd) := goodIn_app (goodIn_of _ (by decide +kernel)) ggX1_sumOfCell_X1_cellEnd
set_option maxRecDepth 20000 in
theorem ggX1_sumOfCell_X1_cellStart : GoodIn wsX1_sumOfCell wsX1_cellStart := goodIn_r _ [12, 7, 8, 5, 9] (by decide +kernel) (by decide +kernel)
set_option maxRecDepth 20000 in
theorem gX1_sumOfCell_X1_cellStart : GoodIn wsX1_sumOfCell (va_wsS RX1 94 yX1_cellStart wsX1_cellStart) := goodIn_app (goodIn_of _ (by decide +kernel)) ggX1_sumOfCell_X1_cellStart
theorem dX1_sumOfCell_0 : decode cX1_sumOfCell 0 = .ok (.iload_n 1, 1) := by decide +kernel
theorem dX1_sumOfCell_1 : decode cX1_sumOfCell 1 = .ok (.iload_n 2, 1) := by decide +kernel
theorem dX1_sumOfCell_2 : decode cX1_sumOfCell 2 = .ok (.iload_n 3, 1) := by decide +kernel
theorem dX1_sumOfCell_3 : decode cX1_sumOfCell 3 = .ok (.invokestatic 97, 3) := by decide +kernel
theorem dX1_sumOfCell_6 : decode cX1_sumOfCell 6 = .ok (.istore 4, 2) := by decide +kernel
theorem dX1_sumOfCell_8 : decode cX1_sumOfCell 8 = .ok (.iconst 0, 1) := by decide +kernel
theorem dX1_sumOfCell_9 : decode cX1_sumOfCell 9 = .ok (.istore 5, 2) := by decide +kernel
theorem dX1_sumOfCell_11 : decode cX1_sumOfCell 11 = .ok (.iload_n 1, 1) := by decide +kernel
theorem dX1_sumOfCell_12 : decode cX1_sumOfCell 12 = .ok (.iload_n 2, 1) := by decide +kernel
theorem dX1_sumOfCell_13 : decode cX1_sumOfCell 13 = .ok (.iload_n 3, 1) := by decide +kernel
theorem dX1_sumOfCell_14 : decode cX1_sumOfCell 14 = .ok (.invokestatic 94, 3) := by decide +kernel
theorem dX1_sumOfCell_17 : decode cX1_sumOfCell 17 = .ok (.istore 6, 2) := by decide +kernel
theorem dX1_sumOfCell_19 : decode cX1_sumOfCell 19 = .ok (.iload 6, 2) := by decide +kernel
theorem dX1_sumOfCell_21 : decode cX1_sumOfCell 21 = .ok (.iload 4, 2) := by decide +kernel
theorem dX1_sumOfCell_23 : decode cX1_sumOfCell 23 = .ok (.if_icmp .ge 31, 3) := by decide +kernel
theorem dX1_sumOfCell_26 : decode cX1_sumOfCell 26 = .ok (.aload_n 0, 1) := by decide +kernel
theorem dX1_sumOfCell_27 : decode cX1_sumOfCell 27 = .ok (.getfield 11, 3) := by decide +kernel
theorem dX1_sumOfCell_30 : decode cX1_sumOfCell 30 = .ok (.iload 6, 2) := by decide +kernel
theorem dX1_sumOfCell_32 : decode cX1_sumOfCell 32 = .ok (.iaload, 1) := by decide +kernel
theorem dX1_sumOfCell_33 : decode cX1_sumOfCell 33 = .ok (.ifCond .eq 15, 3) := by decide +kernel
theorem dX1_sumOfCell_36 : decode cX1_sumOfCell 36 = .ok (.iload 5, 2) := by decide +kernel
theorem dX1_sumOfCell_38 : decode cX1_sumOfCell 38 = .ok (.aload_n 0, 1) := by decide +kernel
theorem dX1_sumOfCell_39 : decode cX1_sumOfCell 39 = .ok (.getfield 18, 3) := by decide +kernel
theorem dX1_sumOfCell_42 : decode cX1_sumOfCell 42 = .ok (.iload 6, 2) := by decide +kernel
theorem dX1_sumOfCell_44 : decode cX1_sumOfCell 44 = .ok (.iaload, 1) := by decide +kernel
theorem dX1_sumOfCell_45 : decode cX1_sumOfCell 45 = .ok (.iadd, 1) := by decide +kernel
theorem dX1_sumOfCell_46 : decode cX1_sumOfCell 46 = .ok (.istore 5, 2) := by decide +kernel
theorem dX1_sumOfCell_48 : decode cX1_sumOfCell 48 = .ok (.iinc 6 1, 3) := by decide +kernel
theorem dX1_sumOfCell_51 : decode cX1_sumOfCell 51 = .ok (.goto (-32), 3) := by decide +kernel
theorem dX1_sumOfCell_54 : decode cX1_sumOfCell 54 = .ok (.iload 5, 2) := by decide +kernel
theorem dX1_sumOfCell_56 : decode cX1_sumOfCell 56 = .ok (.ireturn, 1) := by decide +kernel
set_option maxRecDepth 20000 in
theorem ggX1_elementBits_X1_cellEnd : GoodIn wsX1_elementBits wsX1_cellEnd := goodIn_r _ [6, 7, 8, 5, 9] (by decide +kernel) (by decide +kernel)
set_option maxRecDepth 20000 in
theorem gX1_elementBits_X1_cellEnd : GoodIn wsX1_elementBits (va_wsS RX1 97 yX1_cellEnd wsX1_cellEnd) := goodIn_app (goodIn_of _ (by decide +kernel)) ggX1_elementBits_X1_cellEnd
set_option maxRecDepth 20000 in
theorem ggX1_elementBits_X1_cellStart : GoodIn wsX1_elementBits wsX1_cellStart := goodIn_r _ [12, 7, 8, 5, 9] (by decide +kernel) (by decide +kernel)
set_option maxRecDepth 20000 in
theorem gX1_elementBits_X1_cellStart : GoodIn wsX1_elementBits (va_wsS RX1 94 yX1_cellStart wsX1_cellStart) := goodIn_app (goodIn_of _ (by decide +kernel)) ggX1_elementBits_X1_cellStart
theorem dX1_elementBits_0 : decode cX1_elementBits 0 = .ok (.iload_n 1, 1) := by decide +kernel
theorem dX1_elementBits_1 : decode cX1_elementBits 1 = .ok (.iload_n 2, 1) := by decide +kernel
theorem dX1_elementBits_2 : decode cX1_elementBits 2 = .ok (.iconst 4, 1) := by decide +kernel
theorem dX1_elementBits_3 : decode cX1_elementBits 3 = .ok (.invokestatic 97, 3) := by decide +kernel
theorem dX1_elementBits_6 : decode cX1_elementBits 6 = .ok (.istore_n 3, 1) := by decide +kernel
theorem dX1_elementBits_7 : decode cX1_elementBits 7 = .ok (.iconst 0, 1) := by decide +kernel
theorem dX1_elementBits_8 : decode cX1_elementBits 8 = .ok (.istore 4, 2) := by decide +kernel
theorem dX1_elementBits_10 : decode cX1_elementBits 10 = .ok (.iload_n 1, 1) := by decide +kernel
theorem dX1_elementBits_11 : decode cX1_elementBits 11 = .ok (.iload_n 2, 1) := by decide +kernel
theorem dX1_elementBits_12 : decode cX1_elementBits 12 = .ok (.iconst 4, 1) := by decide +kernel
theorem dX1_elementBits_13 : decode cX1_elementBits 13 = .ok (.invokestatic 94, 3) := by decide +kernel
theorem dX1_elementBits_16 : decode cX1_elementBits 16 = .ok (.istore 5, 2) := by decide +kernel
theorem dX1_elementBits_18 : decode cX1_elementBits 18 = .ok (.iload 5, 2) := by decide +kernel
theorem dX1_elementBits_20 : decode cX1_elementBits 20 = .ok (.iload_n 3, 1) := by decide +kernel
theorem dX1_elementBits_21 : decode cX1_elementBits 21 = .ok (.if_icmp .ge 33, 3) := by decide +kernel
theorem dX1_elementBits_24 : decode cX1_elementBits 24 = .ok (.aload_n 0, 1) := by decide +kernel
theorem dX1_elementBits_25 : decode cX1_elementBits 25 = .ok (.getfield 11, 3) := by decide +kernel
theorem dX1_elementBits_28 : decode cX1_elementBits 28 = .ok (.iload 5, 2) := by decide +kernel
theorem dX1_elementBits_30 : decode cX1_elementBits 30 = .ok (.iaload, 1) := by decide +kernel
theorem dX1_elementBits_31 : decode cX1_elementBits 31 = .ok (.ifCond .eq 17, 3) := by decide +kernel
theorem dX1_elementBits_34 : decode cX1_elementBits 34 = .ok (.iload 4, 2) := by decide +kernel
theorem dX1_elementBits_36 : decode cX1_elementBits 36 = .ok (.iconst 1, 1) := by decide +kernel
theorem dX1_elementBits_37 : decode cX1_elementBits 37 = .ok (.aload_n 0, 1) := by decide +kernel
theorem dX1_elementBits_38 : decode cX1_elementBits 38 = .ok (.getfield 18, 3) := by decide +kernel
theorem dX1_elementBits_41 : decode cX1_elementBits 41 = .ok (.iload 5, 2) := by decide +kernel
theorem dX1_elementBits_43 : decode cX1_elementBits 43 = .ok (.iaload, 1) := by decide +kernel
theorem dX1_elementBits_44 : decode cX1_elementBits 44 = .ok (.ishl, 1) := by decide +kernel
theorem dX1_elementBits_45 : decode cX1_elementBits 45 = .ok (.ior, 1) := by decide +kernel
theorem dX1_elementBits_46 : decode cX1_elementBits 46 = .ok (.istore 4, 2) := by decide +kernel
theorem dX1_elementBits_48 : decode cX1_elementBits 48 = .ok (.iinc 5 1, 3) := by decide +kernel
theorem dX1_elementBits_51 : decode cX1_elementBits 51 = .ok (.goto (-33), 3) := by decide +kernel
theorem dX1_elementBits_54 : decode cX1_elementBits 54 = .ok (.iload 4, 2) := by decide +kernel
theorem dX1_elementBits_56 : decode cX1_elementBits 56 = .ok (.ireturn, 1) := by decide +kernel
set_option maxRecDepth 20000 in
theorem ggX1_countInCell_X1_cellStart : GoodIn wsX1_countInCell wsX1_cellStart := goodIn_r _ [4, 5, 6, 3, 7] (by decide +kernel) (by decide +kernel)
set_option maxRecDepth 20000 in
theorem gX1_countInCell_X1_cellStart : GoodIn wsX1_countInCell (va_wsS RX1 94 yX1_cellStart wsX1_cellStart) := goodIn_app (goodIn_of _ (by decide +kernel)) ggX1_countInCell_X1_cellStart
set_option maxRecDepth 20000 in
theorem ggX1_countInCell_X1_cellEnd : GoodIn wsX1_countInCell wsX1_cellEnd := goodIn_r _ [10, 5, 6, 3, 7] (by decide +kernel) (by decide +kernel)
set_option maxRecDepth 20000 in
theorem gX1_countInCell_X1_cellEnd : GoodIn wsX1_countInCell (va_wsS RX1 97 yX1_cellEnd wsX1_cellEnd) := goodIn_app (goodIn_of _ (by decide +kernel)) ggX1_countInCell_X1_cellEnd
set_option maxRecDepth 20000 in
theorem ggX1_countInCell_X1_countEntries : GoodIn wsX1_countInCell wsX1_countEntries := goodIn_r _ [14, 15, 16, 17, 18, 19, 20, 21] (by decide +kernel) (by decide +kernel)
set_option maxRecDepth 20000 in
theorem gX1_countInCell_X1_countEntries : GoodIn wsX1_countInCell (wsV RX1 40 RX1 yX1_countEntries wsX1_countEntries) := goodIn_app (goodIn_of _ (by decide +kernel)) ggX1_countInCell_X1_countEntries
theorem dX1_countInCell_0 : decode cX1_countInCell 0 = .ok (.aload_n 0, 1) := by decide +kernel
theorem dX1_countInCell_1 : decode cX1_countInCell 1 = .ok (.iload_n 1, 1) := by decide +kernel
theorem dX1_countInCell_2 : decode cX1_countInCell 2 = .ok (.iload_n 2, 1) := by decide +kernel
theorem dX1_countInCell_3 : decode cX1_countInCell 3 = .ok (.iload_n 3, 1) := by decide +kernel
theorem dX1_countInCell_4 : decode cX1_countInCell 4 = .ok (.invokestatic 94, 3) := by decide +kernel
theorem dX1_countInCell_7 : decode cX1_countInCell 7 = .ok (.iload_n 1, 1) := by decide +kernel
theorem dX1_countInCell_8 : decode cX1_countInCell 8 = .ok (.iload_n 2, 1) := by decide +kernel
theorem dX1_countInCell_9 : decode cX1_countInCell 9 = .ok (.iload_n 3, 1) := by decide +kernel
theorem dX1_countInCell_10 : decode cX1_countInCell 10 = .ok (.invokestatic 97, 3) := by decide +kernel
theorem dX1_countInCell_13 : decode cX1_countInCell 13 = .ok (.invokevirtual 40, 3) := by decide +kernel
theorem dX1_countInCell_16 : decode cX1_countInCell 16 = .ok (.ireturn, 1) := by decide +kernel
set_option maxRecDepth 20000 in
theorem ggX1_holdsRow_X1_slotOf : GoodIn wsX1_holdsRow wsX1_slotOf := goodIn_r _ [4] (by decide +kernel) (by decide +kernel)
set_option maxRecDepth 20000 in
theorem gX1_holdsRow_X1_slotOf : GoodIn wsX1_holdsRow (va_wsS RX1 36 yX1_slotOf wsX1_slotOf) := goodIn_app (goodIn_of _ (by decide +kernel)) ggX1_holdsRow_X1_slotOf
set_option maxRecDepth 20000 in
theorem ggX1_holdsRow_X1_countEntries : GoodIn wsX1_holdsRow wsX1_countEntries := goodIn_r _ [8, 9, 10, 11, 12, 13, 14, 15] (by decide +kernel) (by decide +kernel)
set_option maxRecDepth 20000 in
theorem gX1_holdsRow_X1_countEntries : GoodIn wsX1_holdsRow (wsV RX1 40 RX1 yX1_countEntries wsX1_countEntries) := goodIn_app (goodIn_of _ (by decide +kernel)) ggX1_holdsRow_X1_countEntries
theorem dX1_holdsRow_0 : decode cX1_holdsRow 0 = .ok (.aload_n 0, 1) := by decide +kernel
theorem dX1_holdsRow_1 : decode cX1_holdsRow 1 = .ok (.iload_n 1, 1) := by decide +kernel
theorem dX1_holdsRow_2 : decode cX1_holdsRow 2 = .ok (.iload_n 2, 1) := by decide +kernel
theorem dX1_holdsRow_3 : decode cX1_holdsRow 3 = .ok (.iconst 0, 1) := by decide +kernel
theorem dX1_holdsRow_4 : decode cX1_holdsRow 4 = .ok (.invokestatic 36, 3) := by decide +kernel
theorem dX1_holdsRow_7 : decode cX1_holdsRow 7 = .ok (.iload_n 1, 1) := by decide +kernel
theorem dX1_holdsRow_8 : decode cX1_holdsRow 8 = .ok (.iload_n 2, 1) := by decide +kernel
theorem dX1_holdsRow_9 : decode cX1_holdsRow 9 = .ok (.bipush 20, 2) := by decide +kernel
theorem dX1_holdsRow_11 : decode cX1_holdsRow 11 = .ok (.invokestatic 36, 3) := by decide +kernel
theorem dX1_holdsRow_14 : decode cX1_holdsRow 14 = .ok (.invokevirtual 40, 3) := by decide +kernel
theorem dX1_holdsRow_17 : decode cX1_holdsRow 17 = .ok (.ifCond .le 7, 3) := by decide +kernel
theorem dX1_holdsRow_20 : decode cX1_holdsRow 20 = .ok (.iconst 1, 1) := by decide +kernel
theorem dX1_holdsRow_21 : decode cX1_holdsRow 21 = .ok (.goto 4, 3) := by decide +kernel
theorem dX1_holdsRow_24 : decode cX1_holdsRow 24 = .ok (.iconst 0, 1) := by decide +kernel
theorem dX1_holdsRow_25 : decode cX1_holdsRow 25 = .ok (.ireturn, 1) := by decide +kernel
set_option maxRecDepth 20000 in
theorem ggX1_knows_X1_seenNumber : GoodIn wsX1_knows wsX1_seenNumber := goodIn_r _ [5, 6, 7, 8, 9, 10, 11, 12] (by decide +kernel) (by decide +kernel)
set_option maxRecDepth 20000 in
theorem gX1_knows_X1_seenNumber : GoodIn wsX1_knows (wsV RX1 47 RX1 yX1_seenNumber wsX1_seenNumber) := goodIn_app (goodIn_of _ (by decide +kernel)) ggX1_knows_X1_seenNumber
theorem dX1_knows_0 : decode cX1_knows 0 = .ok (.iconst 0, 1) := by decide +kernel
theorem dX1_knows_1 : decode cX1_knows 1 = .ok (.istore_n 3, 1) := by decide +kernel
theorem dX1_knows_2 : decode cX1_knows 2 = .ok (.iload_n 3, 1) := by decide +kernel
theorem dX1_knows_3 : decode cX1_knows 3 = .ok (.iconst 4, 1) := by decide +kernel
theorem dX1_knows_4 : decode cX1_knows 4 = .ok (.if_icmp .ge 26, 3) := by decide +kernel
theorem dX1_knows_7 : decode cX1_knows 7 = .ok (.aload_n 0, 1) := by decide +kernel
theorem dX1_knows_8 : decode cX1_knows 8 = .ok (.iload_n 1, 1) := by decide +kernel
theorem dX1_knows_9 : decode cX1_knows 9 = .ok (.iload_n 3, 1) := by decide +kernel
theorem dX1_knows_10 : decode cX1_knows 10 = .ok (.invokevirtual 47, 3) := by decide +kernel
theorem dX1_knows_13 : decode cX1_knows 13 = .ok (.aload_n 0, 1) := by decide +kernel
theorem dX1_knows_14 : decode cX1_knows 14 = .ok (.iload_n 2, 1) := by decide +kernel
theorem dX1_knows_15 : decode cX1_knows 15 = .ok (.iload_n 3, 1) := by decide +kernel
theorem dX1_knows_16 : decode cX1_knows 16 = .ok (.invokevirtual 47, 3) := by decide +kernel
theorem dX1_knows_19 : decode cX1_knows 19 = .ok (.if_icmp .ge 5, 3) := by decide +kernel
theorem dX1_knows_22 : decode cX1_knows 22 = .ok (.iconst 0, 1) := by decide +kernel
theorem dX1_knows_23 : decode cX1_knows 23 = .ok (.ireturn, 1) := by decide +kernel
theorem dX1_knows_24 : decode cX1_knows 24 = .ok (.iinc 3 1, 3) := by decide +kernel
theorem dX1_knows_27 : decode cX1_knows 27 = .ok (.goto (-25), 3) := by decide +kernel
theorem dX1_knows_30 : decode cX1_knows 30 = .ok (.iconst 1, 1) := by decide +kernel
theorem dX1_knows_31 : decode cX1_knows 31 = .ok (.ireturn, 1) := by decide +kernel
set_option maxRecDepth 20000 in
theorem ggX1_isAgreed_X1_cellEnd : GoodIn wsX1_isAgreed wsX1_cellEnd := goodIn_r _ [5, 6, 7, 4, 8] (by decide +kernel) (by decide +kernel)
set_option maxRecDepth 20000 in
theorem gX1_isAgreed_X1_cellEnd : GoodIn wsX1_isAgreed (va_wsS RX1 97 yX1_cellEnd wsX1_cellEnd) := goodIn_app (goodIn_of _ (by decide +kernel)) ggX1_isAgreed_X1_cellEnd
set_option maxRecDepth 20000 in
theorem ggX1_isAgreed_X1_cellStart : GoodIn wsX1_isAgreed wsX1_cellStart := goodIn_r _ [11, 6, 7, 4, 8] (by decide +kernel) (by decide +kernel)
set_option maxRecDepth 20000 in
theorem gX1_isAgreed_X1_cellStart : GoodIn wsX1_isAgreed (va_wsS RX1 94 yX1_cellStart wsX1_cellStart) := goodIn_app (goodIn_of _ (by decide +kernel)) ggX1_isAgreed_X1_cellStart
theorem dX1_isAgreed_0 : decode cX1_isAgreed 0 = .ok (.iconst 0, 1) := by decide +kernel
theorem dX1_isAgreed_1 : decode cX1_isAgreed 1 = .ok (.iload_n 1, 1) := by decide +kernel
theorem dX1_isAgreed_2 : decode cX1_isAgreed 2 = .ok (.iload_n 2, 1) := by decide +kernel
theorem dX1_isAgreed_3 : decode cX1_isAgreed 3 = .ok (.invokestatic 97, 3) := by decide +kernel
theorem dX1_isAgreed_6 : decode cX1_isAgreed 6 = .ok (.istore_n 3, 1) := by decide +kernel
theorem dX1_isAgreed_7 : decode cX1_isAgreed 7 = .ok (.iconst 0, 1) := by decide +kernel
theorem dX1_isAgreed_8 : decode cX1_isAgreed 8 = .ok (.iload_n 1, 1) := by decide +kernel
theorem dX1_isAgreed_9 : decode cX1_isAgreed 9 = .ok (.iload_n 2, 1) := by decide +kernel
theorem dX1_isAgreed_10 : decode cX1_isAgreed 10 = .ok (.invokestatic 94, 3) := by decide +kernel
theorem dX1_isAgreed_13 : decode cX1_isAgreed 13 = .ok (.istore 4, 2) := by decide +kernel
theorem dX1_isAgreed_15 : decode cX1_isAgreed 15 = .ok (.iload 4, 2) := by decide +kernel
theorem dX1_isAgreed_17 : decode cX1_isAgreed 17 = .ok (.iload_n 3, 1) := by decide +kernel
theorem dX1_isAgreed_18 : decode cX1_isAgreed 18 = .ok (.if_icmp .ge 50, 3) := by decide +kernel
theorem dX1_isAgreed_21 : decode cX1_isAgreed 21 = .ok (.iconst 1, 1) := by decide +kernel
theorem dX1_isAgreed_22 : decode cX1_isAgreed 22 = .ok (.istore 5, 2) := by decide +kernel
theorem dX1_isAgreed_24 : decode cX1_isAgreed 24 = .ok (.iload 5, 2) := by decide +kernel
theorem dX1_isAgreed_26 : decode cX1_isAgreed 26 = .ok (.iconst 4, 1) := by decide +kernel
theorem dX1_isAgreed_27 : decode cX1_isAgreed 27 = .ok (.if_icmp .ge 35, 3) := by decide +kernel
theorem dX1_isAgreed_30 : decode cX1_isAgreed 30 = .ok (.aload_n 0, 1) := by decide +kernel
theorem dX1_isAgreed_31 : decode cX1_isAgreed 31 = .ok (.getfield 11, 3) := by decide +kernel
theorem dX1_isAgreed_34 : decode cX1_isAgreed 34 = .ok (.iload 4, 2) := by decide +kernel
theorem dX1_isAgreed_36 : decode cX1_isAgreed 36 = .ok (.iaload, 1) := by decide +kernel
theorem dX1_isAgreed_37 : decode cX1_isAgreed 37 = .ok (.aload_n 0, 1) := by decide +kernel
theorem dX1_isAgreed_38 : decode cX1_isAgreed 38 = .ok (.getfield 11, 3) := by decide +kernel
theorem dX1_isAgreed_41 : decode cX1_isAgreed 41 = .ok (.iload 5, 2) := by decide +kernel
theorem dX1_isAgreed_43 : decode cX1_isAgreed 43 = .ok (.sipush 480, 3) := by decide +kernel
theorem dX1_isAgreed_46 : decode cX1_isAgreed 46 = .ok (.imul, 1) := by decide +kernel
theorem dX1_isAgreed_47 : decode cX1_isAgreed 47 = .ok (.iload 4, 2) := by decide +kernel
theorem dX1_isAgreed_49 : decode cX1_isAgreed 49 = .ok (.iadd, 1) := by decide +kernel
theorem dX1_isAgreed_50 : decode cX1_isAgreed 50 = .ok (.iaload, 1) := by decide +kernel
theorem dX1_isAgreed_51 : decode cX1_isAgreed 51 = .ok (.if_icmp .eq 5, 3) := by decide +kernel
theorem dX1_isAgreed_54 : decode cX1_isAgreed 54 = .ok (.iconst 0, 1) := by decide +kernel
theorem dX1_isAgreed_55 : decode cX1_isAgreed 55 = .ok (.ireturn, 1) := by decide +kernel
theorem dX1_isAgreed_56 : decode cX1_isAgreed 56 = .ok (.iinc 5 1, 3) := by decide +kernel
theorem dX1_isAgreed_59 : decode cX1_isAgreed 59 = .ok (.goto (-35), 3) := by decide +kernel
theorem dX1_isAgreed_62 : decode cX1_isAgreed 62 = .ok (.iinc 4 1, 3) := by decide +kernel
theorem dX1_isAgreed_65 : decode cX1_isAgreed 65 = .ok (.goto (-50), 3) := by decide +kernel
theorem dX1_isAgreed_68 : decode cX1_isAgreed 68 = .ok (.iconst 1, 1) := by decide +kernel
theorem dX1_isAgreed_69 : decode cX1_isAgreed 69 = .ok (.ireturn, 1) := by decide +kernel
theorem dX2_init_0 : decode cX2_init 0 = .ok (.aload_n 0, 1) := by decide +kernel
theorem dX2_init_1 : decode cX2_init 1 = .ok (.invokespecial 3, 3) := by decide +kernel
theorem dX2_init_4 : decode cX2_init 4 = .ok (.aload_n 0, 1) := by decide +kernel
theorem dX2_init_5 : decode cX2_init 5 = .ok (.bipush 80, 2) := by decide +kernel
theorem dX2_init_7 : decode cX2_init 7 = .ok (.newarray .char, 2) := by decide +kernel
theorem dX2_init_9 : decode cX2_init 9 = .ok (.putfield 9, 3) := by decide +kernel
theorem dX2_init_12 : decode cX2_init 12 = .ok (.aload_n 0, 1) := by decide +kernel
theorem dX2_init_13 : decode cX2_init 13 = .ok (.iconst 0, 1) := by decide +kernel
theorem dX2_init_14 : decode cX2_init 14 = .ok (.putfield 15, 3) := by decide +kernel
theorem dX2_init_17 : decode cX2_init 17 = .ok (.aload_n 0, 1) := by decide +kernel
theorem dX2_init_18 : decode cX2_init 18 = .ok (.iconst 0, 1) := by decide +kernel
theorem dX2_init_19 : decode cX2_init 19 = .ok (.putfield 19, 3) := by decide +kernel
theorem dX2_init_22 : decode cX2_init 22 = .ok (.aload_n 0, 1) := by decide +kernel
theorem dX2_init_23 : decode cX2_init 23 = .ok (.iconst 0, 1) := by decide +kernel
theorem dX2_init_24 : decode cX2_init 24 = .ok (.putfield 22, 3) := by decide +kernel
theorem dX2_init_27 : decode cX2_init 27 = .ok (.aload_n 0, 1) := by decide +kernel
theorem dX2_init_28 : decode cX2_init 28 = .ok (.iconst 0, 1) := by decide +kernel
theorem dX2_init_29 : decode cX2_init 29 = .ok (.putfield 25, 3) := by decide +kernel
theorem dX2_init_32 : decode cX2_init 32 = .ok (.aload_n 0, 1) := by decide +kernel
theorem dX2_init_33 : decode cX2_init 33 = .ok (.iconst 0, 1) := by decide +kernel
theorem dX2_init_34 : decode cX2_init 34 = .ok (.putfield 28, 3) := by decide +kernel
theorem dX2_init_37 : decode cX2_init 37 = .ok (.aload_n 0, 1) := by decide +kernel
theorem dX2_init_38 : decode cX2_init 38 = .ok (.iconst 0, 1) := by decide +kernel
theorem dX2_init_39 : decode cX2_init 39 = .ok (.putfield 31, 3) := by decide +kernel
theorem dX2_init_42 : decode cX2_init 42 = .ok (.return_, 1) := by decide +kernel
set_option maxRecDepth 20000 in
theorem ggX3_init_X1_init : GoodIn wsX3_init wsX1_init := goodIn_r _ [17, 18, 2, 3, 19, 20, 21, 22, 23, 24, 25, 44, 45, 46, 47, 48, 49] (by decide +kernel) (by decide +kernel)
set_option maxRecDepth 20000 in
theorem gX3_init_X1_init_n9 : GoodIn wsX3_init (wsX1_init) := ggX3_init_X1_init
set_option maxRecDepth 20000 in
theorem ggX3_init_X0_init : GoodIn wsX3_init wsX0_init := goodIn_r _ [27, 28, 2, 3, 29, 30, 31, 32, 53, 54, 55] (by decide +kernel) (by decide +kernel)
set_option maxRecDepth 20000 in
theorem gX3_init_X0_init_n18 : GoodIn wsX3_init (wsX0_init) := ggX3_init_X0_init
set_option maxRecDepth 20000 in
theorem ggX3_init_X2_init : GoodIn wsX3_init wsX2_init := goodIn_r _ [34, 35, 2, 3, 36, 37, 38, 39, 40, 41, 42, 43, 56, 57, 58, 59, 60, 61, 62] (by decide +kernel) (by decide +kernel)
set_option maxRecDepth 20000 in
theorem gX3_init_X2_init_n25 : GoodIn wsX3_init (wsX2_init) := ggX3_init_X2_init
theorem dX3_init_0 : decode cX3_init 0 = .ok (.aload_n 0, 1) := by decide +kernel
theorem dX3_init_1 : decode cX3_init 1 = .ok (.invokespecial 1, 3) := by decide +kernel
theorem dX3_init_4 : decode cX3_init 4 = .ok (.aload_n 0, 1) := by decide +kernel
theorem dX3_init_5 : decode cX3_init 5 = .ok (.new 7, 3) := by decide +kernel
theorem dX3_init_8 : decode cX3_init 8 = .ok (.dup, 1) := by decide +kernel
theorem dX3_init_9 : decode cX3_init 9 = .ok (.invokespecial 9, 3) := by decide +kernel
theorem dX3_init_12 : decode cX3_init 12 = .ok (.putfield 10, 3) := by decide +kernel
theorem dX3_init_15 : decode cX3_init 15 = .ok (.aload_n 0, 1) := by decide +kernel
theorem dX3_init_16 : decode cX3_init 16 = .ok (.new 16, 3) := by decide +kernel
theorem dX3_init_19 : decode cX3_init 19 = .ok (.dup, 1) := by decide +kernel
theorem dX3_init_20 : decode cX3_init 20 = .ok (.invokespecial 18, 3) := by decide +kernel
theorem dX3_init_23 : decode cX3_init 23 = .ok (.putfield 19, 3) := by decide +kernel
theorem dX3_init_26 : decode cX3_init 26 = .ok (.aload_n 0, 1) := by decide +kernel
theorem dX3_init_27 : decode cX3_init 27 = .ok (.new 23, 3) := by decide +kernel
theorem dX3_init_30 : decode cX3_init 30 = .ok (.dup, 1) := by decide +kernel
theorem dX3_init_31 : decode cX3_init 31 = .ok (.invokespecial 25, 3) := by decide +kernel
theorem dX3_init_34 : decode cX3_init 34 = .ok (.putfield 26, 3) := by decide +kernel
theorem dX3_init_37 : decode cX3_init 37 = .ok (.return_, 1) := by decide +kernel
set_option maxRecDepth 20000 in
theorem ggX3_put_X3_checkReplica : GoodIn wsX3_put wsX3_checkReplica := goodIn_ca (goodIn_r _ [10, 1, 2] (by decide +kernel) (by decide +kernel)) (goodIn_sub (fun _ h => List.mem_cons_of_mem _ (List.mem_append_left _ (List.mem_append_right _ h))) (by decide +kernel))
set_option maxRecDepth 20000 in
theorem gX3_put_X3_checkReplica : GoodIn wsX3_put (va_wsS RX3 30 yX3_checkReplica wsX3_checkReplica) := goodIn_app (goodIn_of _ (by decide +kernel)) ggX3_put_X3_checkReplica
set_option maxRecDepth 20000 in
theorem ggX3_put_X3_checkRow : GoodIn wsX3_put wsX3_checkRow := goodIn_ca (goodIn_r _ [13, 1, 2] (by decide +kernel) (by decide +kernel)) (goodIn_sub (fun _ h => List.mem_cons_of_mem _ (List.mem_append_left _ (List.mem_append_right _ h))) (by decide +kernel))
set_option maxRecDepth 20000 in
theorem gX3_put_X3_checkRow : GoodIn wsX3_put (va_wsS RX3 34 yX3_checkRow wsX3_checkRow) := goodIn_app (goodIn_of _ (by decide +kernel)) ggX3_put_X3_checkRow
set_option maxRecDepth 20000 in
theorem ggX3_put_X0_save : GoodIn wsX3_put wsX0_save := goodIn_r _ [18, 19, 20, 21, 22, 23, 24, 25, 26, 27, 28, 29, 30, 31, 32, 33, 34, 35, 36, 37, 38, 39, 40, 41, 42, 43, 44, 93, 94, 95, 96, 97, 98, 99, 100, 101] (by decide +kernel) (by decide +kernel)
set_option maxRecDepth 20000 in
theorem gX3_put_X0_save : GoodIn wsX3_put (wsV RX3 49 RX0 yX0_save wsX0_save) := goodIn_app (goodIn_of _ (by decide +kernel)) ggX3_put_X0_save
set_option maxRecDepth 20000 in
theorem ggX3_put_X1_putValue : GoodIn wsX3_put wsX1_putValue := goodIn_r _ [48, 49, 50, 51, 52, 53, 54, 55, 24, 56, 35, 34, 57, 58, 59, 60, 31, 33, 61, 62, 63, 64, 65, 66, 67, 68, 69, 70, 71, 72, 73, 74, 75, 76, 77, 78, 79, 80, 81, 82, 83, 84, 85, 32, 86, 87, 88, 89, 96, 97, 98, 99, 100, 101] (by decide +kernel) (by decide +kernel)
set_option maxRecDepth 20000 in
theorem gX3_put_X1_putValue : GoodIn wsX3_put (wsV RX3 53 RX1 yX1_putValue wsX1_putValue) := goodIn_app (goodIn_of _ (by decide +kernel)) ggX3_put_X1_putValue
theorem dX3_put_0 : decode cX3_put 0 = .ok (.iload_n 1, 1) := by decide +kernel
theorem dX3_put_1 : decode cX3_put 1 = .ok (.invokestatic 30, 3) := by decide +kernel
theorem dX3_put_4 : decode cX3_put 4 = .ok (.iload_n 2, 1) := by decide +kernel
theorem dX3_put_5 : decode cX3_put 5 = .ok (.invokestatic 34, 3) := by decide +kernel
theorem dX3_put_8 : decode cX3_put 8 = .ok (.iload_n 3, 1) := by decide +kernel
theorem dX3_put_9 : decode cX3_put 9 = .ok (.ifCond .eq 23, 3) := by decide +kernel
theorem dX3_put_12 : decode cX3_put 12 = .ok (.iload_n 3, 1) := by decide +kernel
theorem dX3_put_13 : decode cX3_put 13 = .ok (.iconst 1, 1) := by decide +kernel
theorem dX3_put_14 : decode cX3_put 14 = .ok (.if_icmp .eq 18, 3) := by decide +kernel
theorem dX3_put_17 : decode cX3_put 17 = .ok (.iload_n 3, 1) := by decide +kernel
theorem dX3_put_18 : decode cX3_put 18 = .ok (.iconst 2, 1) := by decide +kernel
theorem dX3_put_19 : decode cX3_put 19 = .ok (.if_icmp .eq 13, 3) := by decide +kernel
theorem dX3_put_22 : decode cX3_put 22 = .ok (.new 37, 3) := by decide +kernel
theorem dX3_put_25 : decode cX3_put 25 = .ok (.dup, 1) := by decide +kernel
theorem dX3_put_26 : decode cX3_put 26 = .ok (.ldc 39, 2) := by decide +kernel
theorem dX3_put_28 : decode cX3_put 28 = .ok (.invokespecial 41, 3) := by decide +kernel
theorem dX3_put_31 : decode cX3_put 31 = .ok (.athrow, 1) := by decide +kernel
theorem dX3_put_32 : decode cX3_put 32 = .ok (.iload 4, 2) := by decide +kernel
theorem dX3_put_34 : decode cX3_put 34 = .ok (.ifCond .lt 11, 3) := by decide +kernel
theorem dX3_put_37 : decode cX3_put 37 = .ok (.iload 4, 2) := by decide +kernel
theorem dX3_put_39 : decode cX3_put 39 = .ok (.sipush 999, 3) := by decide +kernel
theorem dX3_put_42 : decode cX3_put 42 = .ok (.if_icmp .le 13, 3) := by decide +kernel
theorem dX3_put_45 : decode cX3_put 45 = .ok (.new 44, 3) := by decide +kernel
theorem dX3_put_48 : decode cX3_put 48 = .ok (.dup, 1) := by decide +kernel
theorem dX3_put_49 : decode cX3_put 49 = .ok (.ldc 46, 2) := by decide +kernel
theorem dX3_put_51 : decode cX3_put 51 = .ok (.invokespecial 48, 3) := by decide +kernel
theorem dX3_put_54 : decode cX3_put 54 = .ok (.athrow, 1) := by decide +kernel
theorem dX3_put_55 : decode cX3_put 55 = .ok (.aload_n 0, 1) := by decide +kernel
theorem dX3_put_56 : decode cX3_put 56 = .ok (.getfield 19, 3) := by decide +kernel
theorem dX3_put_59 : decode cX3_put 59 = .ok (.aload_n 0, 1) := by decide +kernel
theorem dX3_put_60 : decode cX3_put 60 = .ok (.getfield 10, 3) := by decide +kernel
theorem dX3_put_63 : decode cX3_put 63 = .ok (.invokevirtual 49, 3) := by decide +kernel
theorem dX3_put_66 : decode cX3_put 66 = .ok (.aload_n 0, 1) := by decide +kernel
theorem dX3_put_67 : decode cX3_put 67 = .ok (.getfield 10, 3) := by decide +kernel
theorem dX3_put_70 : decode cX3_put 70 = .ok (.iload_n 1, 1) := by decide +kernel
theorem dX3_put_71 : decode cX3_put 71 = .ok (.iload_n 2, 1) := by decide +kernel
theorem dX3_put_72 : decode cX3_put 72 = .ok (.iload_n 3, 1) := by decide +kernel
theorem dX3_put_73 : decode cX3_put 73 = .ok (.iload 4, 2) := by decide +kernel
theorem dX3_put_75 : decode cX3_put 75 = .ok (.invokevirtual 53, 3) := by decide +kernel
theorem dX3_put_78 : decode cX3_put 78 = .ok (.ireturn, 1) := by decide +kernel
set_option maxRecDepth 20000 in
theorem ggX3_add_X3_checkReplica : GoodIn wsX3_add wsX3_checkReplica := goodIn_ca (goodIn_r _ [8, 9, 10] (by decide +kernel) (by decide +kernel)) (goodIn_sub (fun _ h => List.mem_cons_of_mem _ (List.mem_append_right _ h)) (by decide +kernel))
set_option maxRecDepth 20000 in
theorem gX3_add_X3_checkReplica : GoodIn wsX3_add (va_wsS RX3 30 yX3_checkReplica wsX3_checkReplica) := goodIn_app (goodIn_of _ (by decide +kernel)) ggX3_add_X3_checkReplica
set_option maxRecDepth 20000 in
theorem ggX3_add_X3_checkRow : GoodIn wsX3_add wsX3_checkRow := goodIn_ca (goodIn_r _ [13, 9, 10] (by decide +kernel) (by decide +kernel)) (goodIn_sub (fun _ h => List.mem_cons_of_mem _ (List.mem_append_right _ h)) (by decide +kernel))
set_option maxRecDepth 20000 in
theorem gX3_add_X3_checkRow : GoodIn wsX3_add (va_wsS RX3 34 yX3_checkRow wsX3_checkRow) := goodIn_app (goodIn_of _ (by decide +kernel)) ggX3_add_X3_checkRow
set_option maxRecDepth 20000 in
theorem ggX3_add_X0_save : GoodIn wsX3_add wsX0_save := goodIn_r _ [18, 19, 20, 21, 22, 23, 24, 25, 26, 27, 28, 29, 30, 31, 32, 33, 34, 35, 36, 37, 38, 39, 40, 41, 42, 43, 44, 77, 78, 79, 80, 81, 82, 83, 84, 85] (by decide +kernel) (by decide +kernel)
set_option maxRecDepth 20000 in
theorem gX3_add_X0_save : GoodIn wsX3_add (wsV RX3 49 RX0 yX0_save wsX0_save) := goodIn_app (goodIn_of _ (by decide +kernel)) ggX3_add_X0_save
set_option maxRecDepth 20000 in
theorem ggX3_add_X1_addAmount : GoodIn wsX3_add wsX1_addAmount := goodIn_r _ [48, 31, 33, 49, 50, 51, 24, 52, 35, 34, 53, 54, 55, 56, 57, 58, 59, 32, 60, 61, 62, 63, 80, 81, 82, 83, 84, 85] (by decide +kernel) (by decide +kernel)
set_option maxRecDepth 20000 in
theorem gX3_add_X1_addAmount : GoodIn wsX3_add (wsV RX3 59 RX1 yX1_addAmount wsX1_addAmount) := goodIn_app (goodIn_of _ (by decide +kernel)) ggX3_add_X1_addAmount
set_option maxRecDepth 20000 in
theorem ggX3_add_X1_sumOfCell : GoodIn wsX3_add wsX1_sumOfCell := goodIn_r _ [67, 31, 33, 68, 69, 24, 70, 53, 54, 55, 71, 72, 73, 80, 81, 82, 83, 84, 85] (by decide +kernel) (by decide +kernel)
set_option maxRecDepth 20000 in
theorem gX3_add_X1_sumOfCell : GoodIn wsX3_add (wsV RX3 63 RX1 yX1_sumOfCell wsX1_sumOfCell) := goodIn_app (goodIn_of _ (by decide +kernel)) ggX3_add_X1_sumOfCell
theorem dX3_add_0 : decode cX3_add 0 = .ok (.iload_n 1, 1) := by decide +kernel
theorem dX3_add_1 : decode cX3_add 1 = .ok (.invokestatic 30, 3) := by decide +kernel
theorem dX3_add_4 : decode cX3_add 4 = .ok (.iload_n 2, 1) := by decide +kernel
theorem dX3_add_5 : decode cX3_add 5 = .ok (.invokestatic 34, 3) := by decide +kernel
theorem dX3_add_8 : decode cX3_add 8 = .ok (.iload_n 3, 1) := by decide +kernel
theorem dX3_add_9 : decode cX3_add 9 = .ok (.bipush (-99), 2) := by decide +kernel
theorem dX3_add_11 : decode cX3_add 11 = .ok (.if_icmp .lt 13, 3) := by decide +kernel
theorem dX3_add_14 : decode cX3_add 14 = .ok (.iload_n 3, 1) := by decide +kernel
theorem dX3_add_15 : decode cX3_add 15 = .ok (.bipush 99, 2) := by decide +kernel
theorem dX3_add_17 : decode cX3_add 17 = .ok (.if_icmp .gt 7, 3) := by decide +kernel
theorem dX3_add_20 : decode cX3_add 20 = .ok (.iload_n 3, 1) := by decide +kernel
theorem dX3_add_21 : decode cX3_add 21 = .ok (.ifCond .ne 13, 3) := by decide +kernel
theorem dX3_add_24 : decode cX3_add 24 = .ok (.new 44, 3) := by decide +kernel
theorem dX3_add_27 : decode cX3_add 27 = .ok (.dup, 1) := by decide +kernel
theorem dX3_add_28 : decode cX3_add 28 = .ok (.ldc 57, 2) := by decide +kernel
theorem dX3_add_30 : decode cX3_add 30 = .ok (.invokespecial 48, 3) := by decide +kernel
theorem dX3_add_33 : decode cX3_add 33 = .ok (.athrow, 1) := by decide +kernel
theorem dX3_add_34 : decode cX3_add 34 = .ok (.aload_n 0, 1) := by decide +kernel
theorem dX3_add_35 : decode cX3_add 35 = .ok (.getfield 19, 3) := by decide +kernel
theorem dX3_add_38 : decode cX3_add 38 = .ok (.aload_n 0, 1) := by decide +kernel
theorem dX3_add_39 : decode cX3_add 39 = .ok (.getfield 10, 3) := by decide +kernel
theorem dX3_add_42 : decode cX3_add 42 = .ok (.invokevirtual 49, 3) := by decide +kernel
theorem dX3_add_45 : decode cX3_add 45 = .ok (.aload_n 0, 1) := by decide +kernel
theorem dX3_add_46 : decode cX3_add 46 = .ok (.getfield 10, 3) := by decide +kernel
theorem dX3_add_49 : decode cX3_add 49 = .ok (.iload_n 1, 1) := by decide +kernel
theorem dX3_add_50 : decode cX3_add 50 = .ok (.iload_n 2, 1) := by decide +kernel
theorem dX3_add_51 : decode cX3_add 51 = .ok (.iload_n 3, 1) := by decide +kernel
theorem dX3_add_52 : decode cX3_add 52 = .ok (.invokevirtual 59, 3) := by decide +kernel
theorem dX3_add_55 : decode cX3_add 55 = .ok (.aload_n 0, 1) := by decide +kernel
theorem dX3_add_56 : decode cX3_add 56 = .ok (.getfield 10, 3) := by decide +kernel
theorem dX3_add_59 : decode cX3_add 59 = .ok (.iload_n 1, 1) := by decide +kernel
theorem dX3_add_60 : decode cX3_add 60 = .ok (.iload_n 2, 1) := by decide +kernel
theorem dX3_add_61 : decode cX3_add 61 = .ok (.iconst 3, 1) := by decide +kernel
theorem dX3_add_62 : decode cX3_add 62 = .ok (.invokevirtual 63, 3) := by decide +kernel
theorem dX3_add_65 : decode cX3_add 65 = .ok (.ireturn, 1) := by decide +kernel
set_option maxRecDepth 20000 in
theorem ggX3_include_X3_checkReplica : GoodIn wsX3_include wsX3_checkReplica := goodIn_ca (goodIn_r _ [6, 7, 8] (by decide +kernel) (by decide +kernel)) (goodIn_sub (fun _ h => List.mem_cons_of_mem _ (List.mem_append_left _ (List.mem_append_right _ h))) (by decide +kernel))
set_option maxRecDepth 20000 in
theorem gX3_include_X3_checkReplica : GoodIn wsX3_include (va_wsS RX3 30 yX3_checkReplica wsX3_checkReplica) := goodIn_app (goodIn_of _ (by decide +kernel)) ggX3_include_X3_checkReplica
set_option maxRecDepth 20000 in
theorem ggX3_include_X3_checkRow : GoodIn wsX3_include wsX3_checkRow := goodIn_ca (goodIn_r _ [11, 7, 8] (by decide +kernel) (by decide +kernel)) (goodIn_sub (fun _ h => List.mem_cons_of_mem _ (List.mem_append_left _ (List.mem_append_right _ h))) (by decide +kernel))
set_option maxRecDepth 20000 in
theorem gX3_include_X3_checkRow : GoodIn wsX3_include (va_wsS RX3 34 yX3_checkRow wsX3_checkRow) := goodIn_app (goodIn_of _ (by decide +kernel)) ggX3_include_X3_checkRow
set_option maxRecDepth 20000 in
theorem ggX3_include_X3_checkElement : GoodIn wsX3_include wsX3_checkElement := goodIn_ca (goodIn_r _ [14, 15, 16] (by decide +kernel) (by decide +kernel)) (goodIn_sub (fun _ h => List.mem_cons_of_mem _ (List.mem_append_right _ h)) (by decide +kernel))
set_option maxRecDepth 20000 in
theorem gX3_include_X3_checkElement : GoodIn wsX3_include (va_wsS RX3 67 yX3_checkElement wsX3_checkElement) := goodIn_app (goodIn_of _ (by decide +kernel)) ggX3_include_X3_checkElement
set_option maxRecDepth 20000 in
theorem ggX3_include_X0_save : GoodIn wsX3_include wsX0_save := goodIn_r _ [21, 22, 23, 24, 25, 26, 27, 28, 29, 30, 31, 32, 33, 34, 35, 36, 37, 38, 39, 40, 41, 42, 43, 44, 45, 46, 47, 85, 86, 87, 88, 89, 90, 91, 92, 93] (by decide +kernel) (by decide +kernel)
set_option maxRecDepth 20000 in
theorem gX3_include_X0_save : GoodIn wsX3_include (wsV RX3 49 RX0 yX0_save wsX0_save) := goodIn_app (goodIn_of _ (by decide +kernel)) ggX3_include_X0_save
set_option maxRecDepth 20000 in
theorem ggX3_include_X1_includeElement : GoodIn wsX3_include wsX1_includeElement := goodIn_r _ [51, 52, 53, 54, 27, 55, 38, 37, 56, 57, 58, 59, 60, 61, 62, 63, 64, 65, 66, 67, 68, 69, 34, 70, 71, 72, 73, 74, 75, 76, 77, 35, 36, 78, 79, 80, 81, 88, 89, 90, 91, 92, 93] (by decide +kernel) (by decide +kernel)
set_option maxRecDepth 20000 in
theorem gX3_include_X1_includeElement : GoodIn wsX3_include (wsV RX3 70 RX1 yX1_includeElement wsX1_includeElement) := goodIn_app (goodIn_of _ (by decide +kernel)) ggX3_include_X1_includeElement
theorem dX3_include_0 : decode cX3_include 0 = .ok (.iload_n 1, 1) := by decide +kernel
theorem dX3_include_1 : decode cX3_include 1 = .ok (.invokestatic 30, 3) := by decide +kernel
theorem dX3_include_4 : decode cX3_include 4 = .ok (.iload_n 2, 1) := by decide +kernel
theorem dX3_include_5 : decode cX3_include 5 = .ok (.invokestatic 34, 3) := by decide +kernel
theorem dX3_include_8 : decode cX3_include 8 = .ok (.iload_n 3, 1) := by decide +kernel
theorem dX3_include_9 : decode cX3_include 9 = .ok (.invokestatic 67, 3) := by decide +kernel
theorem dX3_include_12 : decode cX3_include 12 = .ok (.aload_n 0, 1) := by decide +kernel
theorem dX3_include_13 : decode cX3_include 13 = .ok (.getfield 19, 3) := by decide +kernel
theorem dX3_include_16 : decode cX3_include 16 = .ok (.aload_n 0, 1) := by decide +kernel
theorem dX3_include_17 : decode cX3_include 17 = .ok (.getfield 10, 3) := by decide +kernel
theorem dX3_include_20 : decode cX3_include 20 = .ok (.invokevirtual 49, 3) := by decide +kernel
theorem dX3_include_23 : decode cX3_include 23 = .ok (.aload_n 0, 1) := by decide +kernel
theorem dX3_include_24 : decode cX3_include 24 = .ok (.getfield 10, 3) := by decide +kernel
theorem dX3_include_27 : decode cX3_include 27 = .ok (.iload_n 1, 1) := by decide +kernel
theorem dX3_include_28 : decode cX3_include 28 = .ok (.iload_n 2, 1) := by decide +kernel
theorem dX3_include_29 : decode cX3_include 29 = .ok (.iload_n 3, 1) := by decide +kernel
theorem dX3_include_30 : decode cX3_include 30 = .ok (.invokevirtual 70, 3) := by decide +kernel
theorem dX3_include_33 : decode cX3_include 33 = .ok (.ireturn, 1) := by decide +kernel
set_option maxRecDepth 20000 in
theorem ggX3_exclude_X3_checkReplica : GoodIn wsX3_exclude wsX3_checkReplica := goodIn_ca (goodIn_r _ [6, 7, 8] (by decide +kernel) (by decide +kernel)) (goodIn_sub (fun _ h => List.mem_cons_of_mem _ (List.mem_append_left _ (List.mem_append_right _ h))) (by decide +kernel))
set_option maxRecDepth 20000 in
theorem gX3_exclude_X3_checkReplica : GoodIn wsX3_exclude (va_wsS RX3 30 yX3_checkReplica wsX3_checkReplica) := goodIn_app (goodIn_of _ (by decide +kernel)) ggX3_exclude_X3_checkReplica
set_option maxRecDepth 20000 in
theorem ggX3_exclude_X3_checkRow : GoodIn wsX3_exclude wsX3_checkRow := goodIn_ca (goodIn_r _ [11, 7, 8] (by decide +kernel) (by decide +kernel)) (goodIn_sub (fun _ h => List.mem_cons_of_mem _ (List.mem_append_left _ (List.mem_append_right _ h))) (by decide +kernel))
set_option maxRecDepth 20000 in
theorem gX3_exclude_X3_checkRow : GoodIn wsX3_exclude (va_wsS RX3 34 yX3_checkRow wsX3_checkRow) := goodIn_app (goodIn_of _ (by decide +kernel)) ggX3_exclude_X3_checkRow
set_option maxRecDepth 20000 in
theorem ggX3_exclude_X3_checkElement : GoodIn wsX3_exclude wsX3_checkElement := goodIn_ca (goodIn_r _ [14, 15, 16] (by decide +kernel) (by decide +kernel)) (goodIn_sub (fun _ h => List.mem_cons_of_mem _ (List.mem_append_right _ h)) (by decide +kernel))
set_option maxRecDepth 20000 in
theorem gX3_exclude_X3_checkElement : GoodIn wsX3_exclude (va_wsS RX3 67 yX3_checkElement wsX3_checkElement) := goodIn_app (goodIn_of _ (by decide +kernel)) ggX3_exclude_X3_checkElement
set_option maxRecDepth 20000 in
theorem ggX3_exclude_X0_save : GoodIn wsX3_exclude wsX0_save := goodIn_r _ [21, 22, 23, 24, 25, 26, 27, 28, 29, 30, 31, 32, 33, 34, 35, 36, 37, 38, 39, 40, 41, 42, 43, 44, 45, 46, 47, 77, 78, 79, 80, 81, 82, 83, 84, 85] (by decide +kernel) (by decide +kernel)
set_option maxRecDepth 20000 in
theorem gX3_exclude_X0_save : GoodIn wsX3_exclude (wsV RX3 49 RX0 yX0_save wsX0_save) := goodIn_app (goodIn_of _ (by decide +kernel)) ggX3_exclude_X0_save
set_option maxRecDepth 20000 in
theorem ggX3_exclude_X1_excludeElement : GoodIn wsX3_exclude wsX1_excludeElement := goodIn_r _ [51, 52, 53, 54, 27, 55, 38, 37, 56, 57, 58, 59, 60, 61, 62, 63, 64, 65, 66, 67, 68, 69, 34, 70, 71, 72, 73, 80, 81, 82, 83, 84, 85] (by decide +kernel) (by decide +kernel)
set_option maxRecDepth 20000 in
theorem gX3_exclude_X1_excludeElement : GoodIn wsX3_exclude (wsV RX3 73 RX1 yX1_excludeElement wsX1_excludeElement) := goodIn_app (goodIn_of _ (by decide +kernel)) ggX3_exclude_X1_excludeElement
theorem dX3_exclude_0 : decode cX3_exclude 0 = .ok (.iload_n 1, 1) := by decide +kernel
theorem dX3_exclude_1 : decode cX3_exclude 1 = .ok (.invokestatic 30, 3) := by decide +kernel
theorem dX3_exclude_4 : decode cX3_exclude 4 = .ok (.iload_n 2, 1) := by decide +kernel
theorem dX3_exclude_5 : decode cX3_exclude 5 = .ok (.invokestatic 34, 3) := by decide +kernel
theorem dX3_exclude_8 : decode cX3_exclude 8 = .ok (.iload_n 3, 1) := by decide +kernel
theorem dX3_exclude_9 : decode cX3_exclude 9 = .ok (.invokestatic 67, 3) := by decide +kernel
theorem dX3_exclude_12 : decode cX3_exclude 12 = .ok (.aload_n 0, 1) := by decide +kernel
theorem dX3_exclude_13 : decode cX3_exclude 13 = .ok (.getfield 19, 3) := by decide +kernel
theorem dX3_exclude_16 : decode cX3_exclude 16 = .ok (.aload_n 0, 1) := by decide +kernel
theorem dX3_exclude_17 : decode cX3_exclude 17 = .ok (.getfield 10, 3) := by decide +kernel
theorem dX3_exclude_20 : decode cX3_exclude 20 = .ok (.invokevirtual 49, 3) := by decide +kernel
theorem dX3_exclude_23 : decode cX3_exclude 23 = .ok (.aload_n 0, 1) := by decide +kernel
theorem dX3_exclude_24 : decode cX3_exclude 24 = .ok (.getfield 10, 3) := by decide +kernel
theorem dX3_exclude_27 : decode cX3_exclude 27 = .ok (.iload_n 1, 1) := by decide +kernel
theorem dX3_exclude_28 : decode cX3_exclude 28 = .ok (.iload_n 2, 1) := by decide +kernel
theorem dX3_exclude_29 : decode cX3_exclude 29 = .ok (.iload_n 3, 1) := by decide +kernel
theorem dX3_exclude_30 : decode cX3_exclude 30 = .ok (.invokevirtual 73, 3) := by decide +kernel
theorem dX3_exclude_33 : decode cX3_exclude 33 = .ok (.ireturn, 1) := by decide +kernel
set_option maxRecDepth 20000 in
theorem ggX3_delete_X3_checkReplica : GoodIn wsX3_delete wsX3_checkReplica := goodIn_ca (goodIn_r _ [6, 7, 8] (by decide +kernel) (by decide +kernel)) (goodIn_sub (fun _ h => List.mem_cons_of_mem _ (List.mem_append_right _ h)) (by decide +kernel))
set_option maxRecDepth 20000 in
theorem gX3_delete_X3_checkReplica : GoodIn wsX3_delete (va_wsS RX3 30 yX3_checkReplica wsX3_checkReplica) := goodIn_app (goodIn_of _ (by decide +kernel)) ggX3_delete_X3_checkReplica
set_option maxRecDepth 20000 in
theorem ggX3_delete_X3_checkRow : GoodIn wsX3_delete wsX3_checkRow := goodIn_ca (goodIn_r _ [11, 7, 8] (by decide +kernel) (by decide +kernel)) (goodIn_sub (fun _ h => List.mem_cons_of_mem _ (List.mem_append_right _ h)) (by decide +kernel))
set_option maxRecDepth 20000 in
theorem gX3_delete_X3_checkRow : GoodIn wsX3_delete (va_wsS RX3 34 yX3_checkRow wsX3_checkRow) := goodIn_app (goodIn_of _ (by decide +kernel)) ggX3_delete_X3_checkRow
set_option maxRecDepth 20000 in
theorem ggX3_delete_X0_save : GoodIn wsX3_delete wsX0_save := goodIn_r _ [16, 17, 18, 19, 20, 21, 22, 23, 24, 25, 26, 27, 28, 29, 30, 31, 32, 33, 34, 35, 36, 37, 38, 39, 40, 41, 42, 65, 66, 67, 68, 69, 70, 71, 72, 73] (by decide +kernel) (by decide +kernel)
set_option maxRecDepth 20000 in
theorem gX3_delete_X0_save : GoodIn wsX3_delete (wsV RX3 49 RX0 yX0_save wsX0_save) := goodIn_app (goodIn_of _ (by decide +kernel)) ggX3_delete_X0_save
set_option maxRecDepth 20000 in
theorem ggX3_delete_X1_deleteRow : GoodIn wsX3_delete wsX1_deleteRow := goodIn_r _ [46, 47, 48, 49, 22, 50, 33, 32, 51, 52, 53, 54, 55, 56, 57, 29, 58, 59, 60, 61, 68, 69, 70, 71, 72, 73] (by decide +kernel) (by decide +kernel)
set_option maxRecDepth 20000 in
theorem gX3_delete_X1_deleteRow : GoodIn wsX3_delete (wsV RX3 76 RX1 yX1_deleteRow wsX1_deleteRow) := goodIn_app (goodIn_of _ (by decide +kernel)) ggX3_delete_X1_deleteRow
theorem dX3_delete_0 : decode cX3_delete 0 = .ok (.iload_n 1, 1) := by decide +kernel
theorem dX3_delete_1 : decode cX3_delete 1 = .ok (.invokestatic 30, 3) := by decide +kernel
theorem dX3_delete_4 : decode cX3_delete 4 = .ok (.iload_n 2, 1) := by decide +kernel
theorem dX3_delete_5 : decode cX3_delete 5 = .ok (.invokestatic 34, 3) := by decide +kernel
theorem dX3_delete_8 : decode cX3_delete 8 = .ok (.aload_n 0, 1) := by decide +kernel
theorem dX3_delete_9 : decode cX3_delete 9 = .ok (.getfield 19, 3) := by decide +kernel
theorem dX3_delete_12 : decode cX3_delete 12 = .ok (.aload_n 0, 1) := by decide +kernel
theorem dX3_delete_13 : decode cX3_delete 13 = .ok (.getfield 10, 3) := by decide +kernel
theorem dX3_delete_16 : decode cX3_delete 16 = .ok (.invokevirtual 49, 3) := by decide +kernel
theorem dX3_delete_19 : decode cX3_delete 19 = .ok (.aload_n 0, 1) := by decide +kernel
theorem dX3_delete_20 : decode cX3_delete 20 = .ok (.getfield 10, 3) := by decide +kernel
theorem dX3_delete_23 : decode cX3_delete 23 = .ok (.iload_n 1, 1) := by decide +kernel
theorem dX3_delete_24 : decode cX3_delete 24 = .ok (.iload_n 2, 1) := by decide +kernel
theorem dX3_delete_25 : decode cX3_delete 25 = .ok (.invokevirtual 76, 3) := by decide +kernel
theorem dX3_delete_28 : decode cX3_delete 28 = .ok (.ireturn, 1) := by decide +kernel
set_option maxRecDepth 20000 in
theorem ggX3_merge_X3_checkReplica : GoodIn wsX3_merge wsX3_checkReplica := goodIn_ca (goodIn_r _ [6, 7, 8] (by decide +kernel) (by decide +kernel)) (goodIn_sub (fun _ h => List.mem_cons_of_mem _ (List.mem_append_left _ (List.mem_append_right _ h))) (by decide +kernel))
set_option maxRecDepth 20000 in
theorem gX3_merge_X3_checkReplica : GoodIn wsX3_merge (va_wsS RX3 30 yX3_checkReplica wsX3_checkReplica) := goodIn_app (goodIn_of _ (by decide +kernel)) ggX3_merge_X3_checkReplica
set_option maxRecDepth 20000 in
theorem ggX3_merge_X3_checkDifferent : GoodIn wsX3_merge wsX3_checkDifferent := goodIn_ca (goodIn_r _ [11, 12, 13] (by decide +kernel) (by decide +kernel)) (goodIn_sub (fun _ h => List.mem_cons_of_mem _ (List.mem_append_right _ h)) (by decide +kernel))
set_option maxRecDepth 20000 in
theorem gX3_merge_X3_checkDifferent : GoodIn wsX3_merge (va_wsS RX3 80 yX3_checkDifferent wsX3_checkDifferent) := goodIn_app (goodIn_of _ (by decide +kernel)) ggX3_merge_X3_checkDifferent
set_option maxRecDepth 20000 in
theorem ggX3_merge_X0_save : GoodIn wsX3_merge wsX0_save := goodIn_r _ [18, 19, 20, 21, 22, 23, 24, 25, 26, 27, 28, 29, 30, 31, 32, 33, 34, 35, 36, 37, 38, 39, 40, 41, 42, 43, 44, 84, 85, 86, 87, 88, 89, 90, 91, 92] (by decide +kernel) (by decide +kernel)
set_option maxRecDepth 20000 in
theorem gX3_merge_X0_save : GoodIn wsX3_merge (wsV RX3 49 RX0 yX0_save wsX0_save) := goodIn_app (goodIn_of _ (by decide +kernel)) ggX3_merge_X0_save
set_option maxRecDepth 20000 in
theorem ggX3_merge_X1_mergeReplica : GoodIn wsX3_merge wsX1_mergeReplica := goodIn_r _ [48, 36, 49, 50, 51, 24, 52, 53, 54, 55, 56, 31, 57, 58, 59, 60, 34, 61, 62, 63, 64, 65, 66, 67, 68, 69, 70, 71, 72, 32, 33, 73, 74, 75, 76, 77, 78, 79, 80, 35, 87, 88, 89, 90, 91, 92] (by decide +kernel) (by decide +kernel)
set_option maxRecDepth 20000 in
theorem gX3_merge_X1_mergeReplica : GoodIn wsX3_merge (wsV RX3 84 RX1 yX1_mergeReplica wsX1_mergeReplica) := goodIn_app (goodIn_of _ (by decide +kernel)) ggX3_merge_X1_mergeReplica
theorem dX3_merge_0 : decode cX3_merge 0 = .ok (.iload_n 1, 1) := by decide +kernel
theorem dX3_merge_1 : decode cX3_merge 1 = .ok (.invokestatic 30, 3) := by decide +kernel
theorem dX3_merge_4 : decode cX3_merge 4 = .ok (.iload_n 2, 1) := by decide +kernel
theorem dX3_merge_5 : decode cX3_merge 5 = .ok (.invokestatic 30, 3) := by decide +kernel
theorem dX3_merge_8 : decode cX3_merge 8 = .ok (.iload_n 1, 1) := by decide +kernel
theorem dX3_merge_9 : decode cX3_merge 9 = .ok (.iload_n 2, 1) := by decide +kernel
theorem dX3_merge_10 : decode cX3_merge 10 = .ok (.invokestatic 80, 3) := by decide +kernel
theorem dX3_merge_13 : decode cX3_merge 13 = .ok (.aload_n 0, 1) := by decide +kernel
theorem dX3_merge_14 : decode cX3_merge 14 = .ok (.getfield 19, 3) := by decide +kernel
theorem dX3_merge_17 : decode cX3_merge 17 = .ok (.aload_n 0, 1) := by decide +kernel
theorem dX3_merge_18 : decode cX3_merge 18 = .ok (.getfield 10, 3) := by decide +kernel
theorem dX3_merge_21 : decode cX3_merge 21 = .ok (.invokevirtual 49, 3) := by decide +kernel
theorem dX3_merge_24 : decode cX3_merge 24 = .ok (.aload_n 0, 1) := by decide +kernel
theorem dX3_merge_25 : decode cX3_merge 25 = .ok (.getfield 10, 3) := by decide +kernel
theorem dX3_merge_28 : decode cX3_merge 28 = .ok (.iload_n 1, 1) := by decide +kernel
theorem dX3_merge_29 : decode cX3_merge 29 = .ok (.iload_n 2, 1) := by decide +kernel
theorem dX3_merge_30 : decode cX3_merge 30 = .ok (.invokevirtual 84, 3) := by decide +kernel
theorem dX3_merge_33 : decode cX3_merge 33 = .ok (.ireturn, 1) := by decide +kernel
set_option maxRecDepth 20000 in
theorem ggX3_mergeAll_X0_save : GoodIn wsX3_mergeAll wsX0_save := goodIn_r _ [7, 8, 9, 10, 11, 12, 13, 14, 15, 16, 17, 18, 19, 20, 21, 22, 23, 24, 25, 26, 27, 28, 29, 30, 31, 32, 33, 73, 74, 75, 76, 77, 78, 79, 80, 81] (by decide +kernel) (by decide +kernel)
set_option maxRecDepth 20000 in
theorem gX3_mergeAll_X0_save : GoodIn wsX3_mergeAll (wsV RX3 49 RX0 yX0_save wsX0_save) := goodIn_app (goodIn_of _ (by decide +kernel)) ggX3_mergeAll_X0_save
set_option maxRecDepth 20000 in
theorem ggX3_mergeAll_X1_mergeReplica : GoodIn wsX3_mergeAll wsX1_mergeReplica := goodIn_r _ [37, 25, 38, 39, 40, 13, 41, 42, 43, 44, 45, 20, 46, 47, 48, 49, 23, 50, 51, 52, 53, 54, 55, 56, 57, 58, 59, 60, 61, 21, 22, 62, 63, 64, 65, 66, 67, 68, 69, 24, 76, 77, 78, 79, 80, 81] (by decide +kernel) (by decide +kernel)
set_option maxRecDepth 20000 in
theorem gX3_mergeAll_X1_mergeReplica : GoodIn wsX3_mergeAll (wsV RX3 84 RX1 yX1_mergeReplica wsX1_mergeReplica) := goodIn_app (goodIn_of _ (by decide +kernel)) ggX3_mergeAll_X1_mergeReplica
theorem dX3_mergeAll_0 : decode cX3_mergeAll 0 = .ok (.aload_n 0, 1) := by decide +kernel
theorem dX3_mergeAll_1 : decode cX3_mergeAll 1 = .ok (.getfield 19, 3) := by decide +kernel
theorem dX3_mergeAll_4 : decode cX3_mergeAll 4 = .ok (.aload_n 0, 1) := by decide +kernel
theorem dX3_mergeAll_5 : decode cX3_mergeAll 5 = .ok (.getfield 10, 3) := by decide +kernel
theorem dX3_mergeAll_8 : decode cX3_mergeAll 8 = .ok (.invokevirtual 49, 3) := by decide +kernel
theorem dX3_mergeAll_11 : decode cX3_mergeAll 11 = .ok (.iconst 0, 1) := by decide +kernel
theorem dX3_mergeAll_12 : decode cX3_mergeAll 12 = .ok (.istore_n 1, 1) := by decide +kernel
theorem dX3_mergeAll_13 : decode cX3_mergeAll 13 = .ok (.iconst 1, 1) := by decide +kernel
theorem dX3_mergeAll_14 : decode cX3_mergeAll 14 = .ok (.istore_n 2, 1) := by decide +kernel
theorem dX3_mergeAll_15 : decode cX3_mergeAll 15 = .ok (.iload_n 2, 1) := by decide +kernel
theorem dX3_mergeAll_16 : decode cX3_mergeAll 16 = .ok (.iconst 4, 1) := by decide +kernel
theorem dX3_mergeAll_17 : decode cX3_mergeAll 17 = .ok (.if_icmp .ge 26, 3) := by decide +kernel
theorem dX3_mergeAll_20 : decode cX3_mergeAll 20 = .ok (.aload_n 0, 1) := by decide +kernel
theorem dX3_mergeAll_21 : decode cX3_mergeAll 21 = .ok (.getfield 10, 3) := by decide +kernel
theorem dX3_mergeAll_24 : decode cX3_mergeAll 24 = .ok (.iload_n 2, 1) := by decide +kernel
theorem dX3_mergeAll_25 : decode cX3_mergeAll 25 = .ok (.iconst 1, 1) := by decide +kernel
theorem dX3_mergeAll_26 : decode cX3_mergeAll 26 = .ok (.isub, 1) := by decide +kernel
theorem dX3_mergeAll_27 : decode cX3_mergeAll 27 = .ok (.iload_n 2, 1) := by decide +kernel
theorem dX3_mergeAll_28 : decode cX3_mergeAll 28 = .ok (.invokevirtual 84, 3) := by decide +kernel
theorem dX3_mergeAll_31 : decode cX3_mergeAll 31 = .ok (.ifCond .le 6, 3) := by decide +kernel
theorem dX3_mergeAll_34 : decode cX3_mergeAll 34 = .ok (.iinc 1 1, 3) := by decide +kernel
theorem dX3_mergeAll_37 : decode cX3_mergeAll 37 = .ok (.iinc 2 1, 3) := by decide +kernel
theorem dX3_mergeAll_40 : decode cX3_mergeAll 40 = .ok (.goto (-25), 3) := by decide +kernel
theorem dX3_mergeAll_43 : decode cX3_mergeAll 43 = .ok (.iconst 2, 1) := by decide +kernel
theorem dX3_mergeAll_44 : decode cX3_mergeAll 44 = .ok (.istore_n 2, 1) := by decide +kernel
theorem dX3_mergeAll_45 : decode cX3_mergeAll 45 = .ok (.iload_n 2, 1) := by decide +kernel
theorem dX3_mergeAll_46 : decode cX3_mergeAll 46 = .ok (.ifCond .lt 24, 3) := by decide +kernel
theorem dX3_mergeAll_49 : decode cX3_mergeAll 49 = .ok (.aload_n 0, 1) := by decide +kernel
theorem dX3_mergeAll_50 : decode cX3_mergeAll 50 = .ok (.getfield 10, 3) := by decide +kernel
theorem dX3_mergeAll_53 : decode cX3_mergeAll 53 = .ok (.iconst 3, 1) := by decide +kernel
theorem dX3_mergeAll_54 : decode cX3_mergeAll 54 = .ok (.iload_n 2, 1) := by decide +kernel
theorem dX3_mergeAll_55 : decode cX3_mergeAll 55 = .ok (.invokevirtual 84, 3) := by decide +kernel
theorem dX3_mergeAll_58 : decode cX3_mergeAll 58 = .ok (.ifCond .le 6, 3) := by decide +kernel
theorem dX3_mergeAll_61 : decode cX3_mergeAll 61 = .ok (.iinc 1 1, 3) := by decide +kernel
theorem dX3_mergeAll_64 : decode cX3_mergeAll 64 = .ok (.iinc 2 (-1), 3) := by decide +kernel
theorem dX3_mergeAll_67 : decode cX3_mergeAll 67 = .ok (.goto (-22), 3) := by decide +kernel
theorem dX3_mergeAll_70 : decode cX3_mergeAll 70 = .ok (.iload_n 1, 1) := by decide +kernel
theorem dX3_mergeAll_71 : decode cX3_mergeAll 71 = .ok (.ireturn, 1) := by decide +kernel
set_option maxRecDepth 20000 in
theorem ggX3_undo_X0_restore : GoodIn wsX3_undo wsX0_restore := goodIn_r _ [9, 10, 11, 12, 13, 14, 15, 16, 17, 18, 19, 20, 21, 22, 23, 24, 25, 26, 27, 31, 32, 33, 34, 35, 36, 37, 38, 39] (by decide +kernel) (by decide +kernel)
set_option maxRecDepth 20000 in
theorem gX3_undo_X0_restore : GoodIn wsX3_undo (wsV RX3 123 RX0 yX0_restore wsX0_restore) := goodIn_app (goodIn_of _ (by decide +kernel)) ggX3_undo_X0_restore
theorem dX3_undo_0 : decode cX3_undo 0 = .ok (.aload_n 0, 1) := by decide +kernel
theorem dX3_undo_1 : decode cX3_undo 1 = .ok (.getfield 19, 3) := by decide +kernel
theorem dX3_undo_4 : decode cX3_undo 4 = .ok (.getfield 118, 3) := by decide +kernel
theorem dX3_undo_7 : decode cX3_undo 7 = .ok (.ifCond .ne 13, 3) := by decide +kernel
theorem dX3_undo_10 : decode cX3_undo 10 = .ok (.new 93, 3) := by decide +kernel
theorem dX3_undo_13 : decode cX3_undo 13 = .ok (.dup, 1) := by decide +kernel
theorem dX3_undo_14 : decode cX3_undo 14 = .ok (.ldc 121, 2) := by decide +kernel
theorem dX3_undo_16 : decode cX3_undo 16 = .ok (.invokespecial 97, 3) := by decide +kernel
theorem dX3_undo_19 : decode cX3_undo 19 = .ok (.athrow, 1) := by decide +kernel
theorem dX3_undo_20 : decode cX3_undo 20 = .ok (.aload_n 0, 1) := by decide +kernel
theorem dX3_undo_21 : decode cX3_undo 21 = .ok (.getfield 19, 3) := by decide +kernel
theorem dX3_undo_24 : decode cX3_undo 24 = .ok (.aload_n 0, 1) := by decide +kernel
theorem dX3_undo_25 : decode cX3_undo 25 = .ok (.getfield 10, 3) := by decide +kernel
theorem dX3_undo_28 : decode cX3_undo 28 = .ok (.invokevirtual 123, 3) := by decide +kernel
theorem dX3_undo_31 : decode cX3_undo 31 = .ok (.aload_n 0, 1) := by decide +kernel
theorem dX3_undo_32 : decode cX3_undo 32 = .ok (.getfield 19, 3) := by decide +kernel
theorem dX3_undo_35 : decode cX3_undo 35 = .ok (.getfield 118, 3) := by decide +kernel
theorem dX3_undo_38 : decode cX3_undo 38 = .ok (.ireturn, 1) := by decide +kernel
set_option maxRecDepth 20000 in
theorem ggX3_latest_X3_checkReplica : GoodIn wsX3_latest wsX3_checkReplica := goodIn_ca (goodIn_r _ [5, 6, 7] (by decide +kernel) (by decide +kernel)) (goodIn_sub (fun _ h => List.mem_cons_of_mem _ (List.mem_append_right _ h)) (by decide +kernel))
set_option maxRecDepth 20000 in
theorem gX3_latest_X3_checkReplica : GoodIn wsX3_latest (va_wsS RX3 30 yX3_checkReplica wsX3_checkReplica) := goodIn_app (goodIn_of _ (by decide +kernel)) ggX3_latest_X3_checkReplica
set_option maxRecDepth 20000 in
theorem ggX3_latest_X3_checkRow : GoodIn wsX3_latest wsX3_checkRow := goodIn_ca (goodIn_r _ [10, 6, 7] (by decide +kernel) (by decide +kernel)) (goodIn_sub (fun _ h => List.mem_cons_of_mem _ (List.mem_append_right _ h)) (by decide +kernel))
set_option maxRecDepth 20000 in
theorem gX3_latest_X3_checkRow : GoodIn wsX3_latest (va_wsS RX3 34 yX3_checkRow wsX3_checkRow) := goodIn_app (goodIn_of _ (by decide +kernel)) ggX3_latest_X3_checkRow
set_option maxRecDepth 20000 in
theorem ggX3_latest_X1_latestValue : GoodIn wsX3_latest wsX1_latestValue := goodIn_r _ [15, 16, 17, 18, 19, 20, 14, 21, 22, 23, 24, 25, 26, 27, 31, 32, 33, 34, 35, 36] (by decide +kernel) (by decide +kernel)
set_option maxRecDepth 20000 in
theorem gX3_latest_X1_latestValue : GoodIn wsX3_latest (wsV RX3 126 RX1 yX1_latestValue wsX1_latestValue) := goodIn_app (goodIn_of _ (by decide +kernel)) ggX3_latest_X1_latestValue
theorem dX3_latest_0 : decode cX3_latest 0 = .ok (.iload_n 1, 1) := by decide +kernel
theorem dX3_latest_1 : decode cX3_latest 1 = .ok (.invokestatic 30, 3) := by decide +kernel
theorem dX3_latest_4 : decode cX3_latest 4 = .ok (.iload_n 2, 1) := by decide +kernel
theorem dX3_latest_5 : decode cX3_latest 5 = .ok (.invokestatic 34, 3) := by decide +kernel
theorem dX3_latest_8 : decode cX3_latest 8 = .ok (.aload_n 0, 1) := by decide +kernel
theorem dX3_latest_9 : decode cX3_latest 9 = .ok (.getfield 10, 3) := by decide +kernel
theorem dX3_latest_12 : decode cX3_latest 12 = .ok (.iload_n 1, 1) := by decide +kernel
theorem dX3_latest_13 : decode cX3_latest 13 = .ok (.iload_n 2, 1) := by decide +kernel
theorem dX3_latest_14 : decode cX3_latest 14 = .ok (.invokevirtual 126, 3) := by decide +kernel
theorem dX3_latest_17 : decode cX3_latest 17 = .ok (.ireturn, 1) := by decide +kernel
set_option maxRecDepth 20000 in
theorem ggX3_sibling_X3_checkReplica : GoodIn wsX3_sibling wsX3_checkReplica := goodIn_ca (goodIn_r _ [7, 1, 2] (by decide +kernel) (by decide +kernel)) (goodIn_sub (fun _ h => List.mem_cons_of_mem _ (List.mem_append_right _ h)) (by decide +kernel))
set_option maxRecDepth 20000 in
theorem gX3_sibling_X3_checkReplica : GoodIn wsX3_sibling (va_wsS RX3 30 yX3_checkReplica wsX3_checkReplica) := goodIn_app (goodIn_of _ (by decide +kernel)) ggX3_sibling_X3_checkReplica
set_option maxRecDepth 20000 in
theorem ggX3_sibling_X3_checkRow : GoodIn wsX3_sibling wsX3_checkRow := goodIn_ca (goodIn_r _ [10, 1, 2] (by decide +kernel) (by decide +kernel)) (goodIn_sub (fun _ h => List.mem_cons_of_mem _ (List.mem_append_right _ h)) (by decide +kernel))
set_option maxRecDepth 20000 in
theorem gX3_sibling_X3_checkRow : GoodIn wsX3_sibling (va_wsS RX3 34 yX3_checkRow wsX3_checkRow) := goodIn_app (goodIn_of _ (by decide +kernel)) ggX3_sibling_X3_checkRow
set_option maxRecDepth 20000 in
theorem ggX3_sibling_X1_siblingAt : GoodIn wsX3_sibling wsX1_siblingAt := goodIn_r _ [15, 16, 17, 18, 19, 14, 20, 21, 22, 23, 24, 25, 26, 27, 28, 29, 30, 34, 35, 36, 37, 38, 39] (by decide +kernel) (by decide +kernel)
set_option maxRecDepth 20000 in
theorem gX3_sibling_X1_siblingAt : GoodIn wsX3_sibling (wsV RX3 131 RX1 yX1_siblingAt wsX1_siblingAt) := goodIn_app (goodIn_of _ (by decide +kernel)) ggX3_sibling_X1_siblingAt
theorem dX3_sibling_0 : decode cX3_sibling 0 = .ok (.iload_n 1, 1) := by decide +kernel
theorem dX3_sibling_1 : decode cX3_sibling 1 = .ok (.invokestatic 30, 3) := by decide +kernel
end
section
theorem dX3_sibling_4 : decode cX3_sibling 4 = .ok (.iload_n 2, 1) := by decide +kernel
theorem dX3_sibling_5 : decode cX3_sibling 5 = .ok (.invokestatic 34, 3) := by decide +kernel
theorem dX3_sibling_8 : decode cX3_sibling 8 = .ok (.iload_n 3, 1) := by decide +kernel
theorem dX3_sibling_9 : decode cX3_sibling 9 = .ok (.ifCond .ge 13, 3) := by decide +kernel
theorem dX3_sibling_12 : decode cX3_sibling 12 = .ok (.new 37, 3) := by decide +kernel
theorem dX3_sibling_15 : decode cX3_sibling 15 = .ok (.dup, 1) := by decide +kernel
theorem dX3_sibling_16 : decode cX3_sibling 16 = .ok (.ldc 129, 2) := by decide +kernel
theorem dX3_sibling_18 : decode cX3_sibling 18 = .ok (.invokespecial 41, 3) := by decide +kernel
theorem dX3_sibling_21 : decode cX3_sibling 21 = .ok (.athrow, 1) := by decide +kernel
theorem dX3_sibling_22 : decode cX3_sibling 22 = .ok (.aload_n 0, 1) := by decide +kernel
theorem dX3_sibling_23 : decode cX3_sibling 23 = .ok (.getfield 10, 3) := by decide +kernel
theorem dX3_sibling_26 : decode cX3_sibling 26 = .ok (.iload_n 1, 1) := by decide +kernel
theorem dX3_sibling_27 : decode cX3_sibling 27 = .ok (.iload_n 2, 1) := by decide +kernel
theorem dX3_sibling_28 : decode cX3_sibling 28 = .ok (.iload_n 3, 1) := by decide +kernel
theorem dX3_sibling_29 : decode cX3_sibling 29 = .ok (.invokevirtual 131, 3) := by decide +kernel
theorem dX3_sibling_32 : decode cX3_sibling 32 = .ok (.ireturn, 1) := by decide +kernel
set_option maxRecDepth 20000 in
theorem ggX3_greatest_X3_checkReplica : GoodIn wsX3_greatest wsX3_checkReplica := goodIn_ca (goodIn_r _ [5, 6, 7] (by decide +kernel) (by decide +kernel)) (goodIn_sub (fun _ h => List.mem_cons_of_mem _ (List.mem_append_right _ h)) (by decide +kernel))
set_option maxRecDepth 20000 in
theorem gX3_greatest_X3_checkReplica : GoodIn wsX3_greatest (va_wsS RX3 30 yX3_checkReplica wsX3_checkReplica) := goodIn_app (goodIn_of _ (by decide +kernel)) ggX3_greatest_X3_checkReplica
set_option maxRecDepth 20000 in
theorem ggX3_greatest_X3_checkRow : GoodIn wsX3_greatest wsX3_checkRow := goodIn_ca (goodIn_r _ [10, 6, 7] (by decide +kernel) (by decide +kernel)) (goodIn_sub (fun _ h => List.mem_cons_of_mem _ (List.mem_append_right _ h)) (by decide +kernel))
set_option maxRecDepth 20000 in
theorem gX3_greatest_X3_checkRow : GoodIn wsX3_greatest (va_wsS RX3 34 yX3_checkRow wsX3_checkRow) := goodIn_app (goodIn_of _ (by decide +kernel)) ggX3_greatest_X3_checkRow
set_option maxRecDepth 20000 in
theorem ggX3_greatest_X1_greatestValue : GoodIn wsX3_greatest wsX1_greatestValue := goodIn_r _ [15, 16, 17, 18, 19, 20, 21, 22, 23, 14, 24, 25, 26, 27, 28, 29, 30, 34, 35, 36, 37, 38, 39] (by decide +kernel) (by decide +kernel)
set_option maxRecDepth 20000 in
theorem gX3_greatest_X1_greatestValue : GoodIn wsX3_greatest (wsV RX3 134 RX1 yX1_greatestValue wsX1_greatestValue) := goodIn_app (goodIn_of _ (by decide +kernel)) ggX3_greatest_X1_greatestValue
theorem dX3_greatest_0 : decode cX3_greatest 0 = .ok (.iload_n 1, 1) := by decide +kernel
theorem dX3_greatest_1 : decode cX3_greatest 1 = .ok (.invokestatic 30, 3) := by decide +kernel
theorem dX3_greatest_4 : decode cX3_greatest 4 = .ok (.iload_n 2, 1) := by decide +kernel
theorem dX3_greatest_5 : decode cX3_greatest 5 = .ok (.invokestatic 34, 3) := by decide +kernel
theorem dX3_greatest_8 : decode cX3_greatest 8 = .ok (.aload_n 0, 1) := by decide +kernel
theorem dX3_greatest_9 : decode cX3_greatest 9 = .ok (.getfield 10, 3) := by decide +kernel
theorem dX3_greatest_12 : decode cX3_greatest 12 = .ok (.iload_n 1, 1) := by decide +kernel
theorem dX3_greatest_13 : decode cX3_greatest 13 = .ok (.iload_n 2, 1) := by decide +kernel
theorem dX3_greatest_14 : decode cX3_greatest 14 = .ok (.invokevirtual 134, 3) := by decide +kernel
theorem dX3_greatest_17 : decode cX3_greatest 17 = .ok (.ireturn, 1) := by decide +kernel
set_option maxRecDepth 20000 in
theorem ggX3_counter_X3_checkReplica : GoodIn wsX3_counter wsX3_checkReplica := goodIn_ca (goodIn_r _ [5, 6, 7] (by decide +kernel) (by decide +kernel)) (goodIn_sub (fun _ h => List.mem_cons_of_mem _ (List.mem_append_right _ h)) (by decide +kernel))
set_option maxRecDepth 20000 in
theorem gX3_counter_X3_checkReplica : GoodIn wsX3_counter (va_wsS RX3 30 yX3_checkReplica wsX3_checkReplica) := goodIn_app (goodIn_of _ (by decide +kernel)) ggX3_counter_X3_checkReplica
set_option maxRecDepth 20000 in
theorem ggX3_counter_X3_checkRow : GoodIn wsX3_counter wsX3_checkRow := goodIn_ca (goodIn_r _ [10, 6, 7] (by decide +kernel) (by decide +kernel)) (goodIn_sub (fun _ h => List.mem_cons_of_mem _ (List.mem_append_right _ h)) (by decide +kernel))
set_option maxRecDepth 20000 in
theorem gX3_counter_X3_checkRow : GoodIn wsX3_counter (va_wsS RX3 34 yX3_checkRow wsX3_checkRow) := goodIn_app (goodIn_of _ (by decide +kernel)) ggX3_counter_X3_checkRow
set_option maxRecDepth 20000 in
theorem ggX3_counter_X1_sumOfCell : GoodIn wsX3_counter wsX1_sumOfCell := goodIn_r _ [15, 16, 17, 18, 19, 14, 20, 21, 22, 23, 24, 25, 26, 30, 31, 32, 33, 34, 35] (by decide +kernel) (by decide +kernel)
set_option maxRecDepth 20000 in
theorem gX3_counter_X1_sumOfCell : GoodIn wsX3_counter (wsV RX3 63 RX1 yX1_sumOfCell wsX1_sumOfCell) := goodIn_app (goodIn_of _ (by decide +kernel)) ggX3_counter_X1_sumOfCell
theorem dX3_counter_0 : decode cX3_counter 0 = .ok (.iload_n 1, 1) := by decide +kernel
theorem dX3_counter_1 : decode cX3_counter 1 = .ok (.invokestatic 30, 3) := by decide +kernel
theorem dX3_counter_4 : decode cX3_counter 4 = .ok (.iload_n 2, 1) := by decide +kernel
theorem dX3_counter_5 : decode cX3_counter 5 = .ok (.invokestatic 34, 3) := by decide +kernel
theorem dX3_counter_8 : decode cX3_counter 8 = .ok (.aload_n 0, 1) := by decide +kernel
theorem dX3_counter_9 : decode cX3_counter 9 = .ok (.getfield 10, 3) := by decide +kernel
theorem dX3_counter_12 : decode cX3_counter 12 = .ok (.iload_n 1, 1) := by decide +kernel
theorem dX3_counter_13 : decode cX3_counter 13 = .ok (.iload_n 2, 1) := by decide +kernel
theorem dX3_counter_14 : decode cX3_counter 14 = .ok (.iconst 3, 1) := by decide +kernel
theorem dX3_counter_15 : decode cX3_counter 15 = .ok (.invokevirtual 63, 3) := by decide +kernel
theorem dX3_counter_18 : decode cX3_counter 18 = .ok (.ireturn, 1) := by decide +kernel
set_option maxRecDepth 20000 in
theorem ggX3_elements_X3_checkReplica : GoodIn wsX3_elements wsX3_checkReplica := goodIn_ca (goodIn_r _ [5, 6, 7] (by decide +kernel) (by decide +kernel)) (goodIn_sub (fun _ h => List.mem_cons_of_mem _ (List.mem_append_right _ h)) (by decide +kernel))
set_option maxRecDepth 20000 in
theorem gX3_elements_X3_checkReplica : GoodIn wsX3_elements (va_wsS RX3 30 yX3_checkReplica wsX3_checkReplica) := goodIn_app (goodIn_of _ (by decide +kernel)) ggX3_elements_X3_checkReplica
set_option maxRecDepth 20000 in
theorem ggX3_elements_X3_checkRow : GoodIn wsX3_elements wsX3_checkRow := goodIn_ca (goodIn_r _ [10, 6, 7] (by decide +kernel) (by decide +kernel)) (goodIn_sub (fun _ h => List.mem_cons_of_mem _ (List.mem_append_right _ h)) (by decide +kernel))
set_option maxRecDepth 20000 in
theorem gX3_elements_X3_checkRow : GoodIn wsX3_elements (va_wsS RX3 34 yX3_checkRow wsX3_checkRow) := goodIn_app (goodIn_of _ (by decide +kernel)) ggX3_elements_X3_checkRow
set_option maxRecDepth 20000 in
theorem ggX3_elements_X1_elementBits : GoodIn wsX3_elements wsX1_elementBits := goodIn_r _ [15, 16, 17, 18, 19, 14, 20, 21, 22, 23, 24, 25, 26, 30, 31, 32, 33, 34, 35] (by decide +kernel) (by decide +kernel)
set_option maxRecDepth 20000 in
theorem gX3_elements_X1_elementBits : GoodIn wsX3_elements (wsV RX3 137 RX1 yX1_elementBits wsX1_elementBits) := goodIn_app (goodIn_of _ (by decide +kernel)) ggX3_elements_X1_elementBits
theorem dX3_elements_0 : decode cX3_elements 0 = .ok (.iload_n 1, 1) := by decide +kernel
theorem dX3_elements_1 : decode cX3_elements 1 = .ok (.invokestatic 30, 3) := by decide +kernel
theorem dX3_elements_4 : decode cX3_elements 4 = .ok (.iload_n 2, 1) := by decide +kernel
theorem dX3_elements_5 : decode cX3_elements 5 = .ok (.invokestatic 34, 3) := by decide +kernel
theorem dX3_elements_8 : decode cX3_elements 8 = .ok (.aload_n 0, 1) := by decide +kernel
theorem dX3_elements_9 : decode cX3_elements 9 = .ok (.getfield 10, 3) := by decide +kernel
theorem dX3_elements_12 : decode cX3_elements 12 = .ok (.iload_n 1, 1) := by decide +kernel
theorem dX3_elements_13 : decode cX3_elements 13 = .ok (.iload_n 2, 1) := by decide +kernel
theorem dX3_elements_14 : decode cX3_elements 14 = .ok (.invokevirtual 137, 3) := by decide +kernel
theorem dX3_elements_17 : decode cX3_elements 17 = .ok (.ireturn, 1) := by decide +kernel
set_option maxRecDepth 20000 in
theorem ggX3_entries_X3_checkReplica : GoodIn wsX3_entries wsX3_checkReplica := goodIn_ca (goodIn_r _ [7, 1, 2] (by decide +kernel) (by decide +kernel)) (goodIn_sub (fun _ h => List.mem_cons_of_mem _ (List.mem_append_right _ h)) (by decide +kernel))
set_option maxRecDepth 20000 in
theorem gX3_entries_X3_checkReplica : GoodIn wsX3_entries (va_wsS RX3 30 yX3_checkReplica wsX3_checkReplica) := goodIn_app (goodIn_of _ (by decide +kernel)) ggX3_entries_X3_checkReplica
set_option maxRecDepth 20000 in
theorem ggX3_entries_X3_checkRow : GoodIn wsX3_entries wsX3_checkRow := goodIn_ca (goodIn_r _ [10, 1, 2] (by decide +kernel) (by decide +kernel)) (goodIn_sub (fun _ h => List.mem_cons_of_mem _ (List.mem_append_right _ h)) (by decide +kernel))
set_option maxRecDepth 20000 in
theorem gX3_entries_X3_checkRow : GoodIn wsX3_entries (va_wsS RX3 34 yX3_checkRow wsX3_checkRow) := goodIn_app (goodIn_of _ (by decide +kernel)) ggX3_entries_X3_checkRow
set_option maxRecDepth 20000 in
theorem ggX3_entries_X1_countInCell : GoodIn wsX3_entries wsX1_countInCell := goodIn_r _ [15, 16, 17, 14, 18, 19, 20, 21, 22, 23, 24, 25, 26, 27, 28, 29, 33, 34, 35, 36, 37, 38] (by decide +kernel) (by decide +kernel)
set_option maxRecDepth 20000 in
theorem gX3_entries_X1_countInCell : GoodIn wsX3_entries (wsV RX3 142 RX1 yX1_countInCell wsX1_countInCell) := goodIn_app (goodIn_of _ (by decide +kernel)) ggX3_entries_X1_countInCell
theorem dX3_entries_0 : decode cX3_entries 0 = .ok (.iload_n 1, 1) := by decide +kernel
theorem dX3_entries_1 : decode cX3_entries 1 = .ok (.invokestatic 30, 3) := by decide +kernel
theorem dX3_entries_4 : decode cX3_entries 4 = .ok (.iload_n 2, 1) := by decide +kernel
theorem dX3_entries_5 : decode cX3_entries 5 = .ok (.invokestatic 34, 3) := by decide +kernel
theorem dX3_entries_8 : decode cX3_entries 8 = .ok (.iload_n 3, 1) := by decide +kernel
theorem dX3_entries_9 : decode cX3_entries 9 = .ok (.ifCond .lt 8, 3) := by decide +kernel
theorem dX3_entries_12 : decode cX3_entries 12 = .ok (.iload_n 3, 1) := by decide +kernel
theorem dX3_entries_13 : decode cX3_entries 13 = .ok (.iconst 5, 1) := by decide +kernel
theorem dX3_entries_14 : decode cX3_entries 14 = .ok (.if_icmp .lt 13, 3) := by decide +kernel
theorem dX3_entries_17 : decode cX3_entries 17 = .ok (.new 37, 3) := by decide +kernel
theorem dX3_entries_20 : decode cX3_entries 20 = .ok (.dup, 1) := by decide +kernel
theorem dX3_entries_21 : decode cX3_entries 21 = .ok (.ldc 140, 2) := by decide +kernel
theorem dX3_entries_23 : decode cX3_entries 23 = .ok (.invokespecial 41, 3) := by decide +kernel
theorem dX3_entries_26 : decode cX3_entries 26 = .ok (.athrow, 1) := by decide +kernel
theorem dX3_entries_27 : decode cX3_entries 27 = .ok (.aload_n 0, 1) := by decide +kernel
theorem dX3_entries_28 : decode cX3_entries 28 = .ok (.getfield 10, 3) := by decide +kernel
theorem dX3_entries_31 : decode cX3_entries 31 = .ok (.iload_n 1, 1) := by decide +kernel
theorem dX3_entries_32 : decode cX3_entries 32 = .ok (.iload_n 2, 1) := by decide +kernel
theorem dX3_entries_33 : decode cX3_entries 33 = .ok (.iload_n 3, 1) := by decide +kernel
theorem dX3_entries_34 : decode cX3_entries 34 = .ok (.invokevirtual 142, 3) := by decide +kernel
theorem dX3_entries_37 : decode cX3_entries 37 = .ok (.ireturn, 1) := by decide +kernel
set_option maxRecDepth 20000 in
theorem ggX3_exists_X3_checkReplica : GoodIn wsX3_exists wsX3_checkReplica := goodIn_ca (goodIn_r _ [5, 6, 7] (by decide +kernel) (by decide +kernel)) (goodIn_sub (fun _ h => List.mem_cons_of_mem _ (List.mem_append_right _ h)) (by decide +kernel))
set_option maxRecDepth 20000 in
theorem gX3_exists_X3_checkReplica : GoodIn wsX3_exists (va_wsS RX3 30 yX3_checkReplica wsX3_checkReplica) := goodIn_app (goodIn_of _ (by decide +kernel)) ggX3_exists_X3_checkReplica
set_option maxRecDepth 20000 in
theorem ggX3_exists_X3_checkRow : GoodIn wsX3_exists wsX3_checkRow := goodIn_ca (goodIn_r _ [10, 6, 7] (by decide +kernel) (by decide +kernel)) (goodIn_sub (fun _ h => List.mem_cons_of_mem _ (List.mem_append_right _ h)) (by decide +kernel))
set_option maxRecDepth 20000 in
theorem gX3_exists_X3_checkRow : GoodIn wsX3_exists (va_wsS RX3 34 yX3_checkRow wsX3_checkRow) := goodIn_app (goodIn_of _ (by decide +kernel)) ggX3_exists_X3_checkRow
set_option maxRecDepth 20000 in
theorem ggX3_exists_X1_holdsRow : GoodIn wsX3_exists wsX1_holdsRow := goodIn_r _ [15, 16, 17, 14, 18, 19, 20, 21, 22, 23, 27, 28, 29, 30, 31, 32] (by decide +kernel) (by decide +kernel)
set_option maxRecDepth 20000 in
theorem gX3_exists_X1_holdsRow : GoodIn wsX3_exists (wsV RX3 145 RX1 yX1_holdsRow wsX1_holdsRow) := goodIn_app (goodIn_of _ (by decide +kernel)) ggX3_exists_X1_holdsRow
theorem dX3_exists_0 : decode cX3_exists 0 = .ok (.iload_n 1, 1) := by decide +kernel
theorem dX3_exists_1 : decode cX3_exists 1 = .ok (.invokestatic 30, 3) := by decide +kernel
theorem dX3_exists_4 : decode cX3_exists 4 = .ok (.iload_n 2, 1) := by decide +kernel
theorem dX3_exists_5 : decode cX3_exists 5 = .ok (.invokestatic 34, 3) := by decide +kernel
theorem dX3_exists_8 : decode cX3_exists 8 = .ok (.aload_n 0, 1) := by decide +kernel
theorem dX3_exists_9 : decode cX3_exists 9 = .ok (.getfield 10, 3) := by decide +kernel
theorem dX3_exists_12 : decode cX3_exists 12 = .ok (.iload_n 1, 1) := by decide +kernel
theorem dX3_exists_13 : decode cX3_exists 13 = .ok (.iload_n 2, 1) := by decide +kernel
theorem dX3_exists_14 : decode cX3_exists 14 = .ok (.invokevirtual 145, 3) := by decide +kernel
theorem dX3_exists_17 : decode cX3_exists 17 = .ok (.ireturn, 1) := by decide +kernel
set_option maxRecDepth 20000 in
theorem ggX3_mean_X3_checkReplica : GoodIn wsX3_mean wsX3_checkReplica := goodIn_ca (goodIn_r _ [5, 6, 7] (by decide +kernel) (by decide +kernel)) (goodIn_sub (fun _ h => List.mem_cons_of_mem _ (List.mem_append_right _ h)) (by decide +kernel))
set_option maxRecDepth 20000 in
theorem gX3_mean_X3_checkReplica : GoodIn wsX3_mean (va_wsS RX3 30 yX3_checkReplica wsX3_checkReplica) := goodIn_app (goodIn_of _ (by decide +kernel)) ggX3_mean_X3_checkReplica
set_option maxRecDepth 20000 in
theorem ggX3_mean_X3_checkRow : GoodIn wsX3_mean wsX3_checkRow := goodIn_ca (goodIn_r _ [10, 6, 7] (by decide +kernel) (by decide +kernel)) (goodIn_sub (fun _ h => List.mem_cons_of_mem _ (List.mem_append_right _ h)) (by decide +kernel))
set_option maxRecDepth 20000 in
theorem gX3_mean_X3_checkRow : GoodIn wsX3_mean (va_wsS RX3 34 yX3_checkRow wsX3_checkRow) := goodIn_app (goodIn_of _ (by decide +kernel)) ggX3_mean_X3_checkRow
set_option maxRecDepth 20000 in
theorem ggX3_mean_X1_countInCell : GoodIn wsX3_mean wsX1_countInCell := goodIn_r _ [15, 16, 17, 14, 18, 19, 20, 21, 22, 23, 24, 25, 26, 27, 28, 29, 38, 39, 40, 41, 42, 43] (by decide +kernel) (by decide +kernel)
set_option maxRecDepth 20000 in
theorem gX3_mean_X1_countInCell : GoodIn wsX3_mean (wsV RX3 142 RX1 yX1_countInCell wsX1_countInCell) := goodIn_app (goodIn_of _ (by decide +kernel)) ggX3_mean_X1_countInCell
set_option maxRecDepth 20000 in
theorem ggX3_mean_X1_sumOfCell : GoodIn wsX3_mean wsX1_sumOfCell := goodIn_r _ [33, 29, 34, 22, 23, 14, 24, 19, 20, 21, 16, 17, 18, 38, 39, 40, 41, 42, 43] (by decide +kernel) (by decide +kernel)
set_option maxRecDepth 20000 in
theorem gX3_mean_X1_sumOfCell : GoodIn wsX3_mean (wsV RX3 63 RX1 yX1_sumOfCell wsX1_sumOfCell) := goodIn_app (goodIn_of _ (by decide +kernel)) ggX3_mean_X1_sumOfCell
theorem dX3_mean_0 : decode cX3_mean 0 = .ok (.iload_n 1, 1) := by decide +kernel
theorem dX3_mean_1 : decode cX3_mean 1 = .ok (.invokestatic 30, 3) := by decide +kernel
theorem dX3_mean_4 : decode cX3_mean 4 = .ok (.iload_n 2, 1) := by decide +kernel
theorem dX3_mean_5 : decode cX3_mean 5 = .ok (.invokestatic 34, 3) := by decide +kernel
theorem dX3_mean_8 : decode cX3_mean 8 = .ok (.aload_n 0, 1) := by decide +kernel
theorem dX3_mean_9 : decode cX3_mean 9 = .ok (.getfield 10, 3) := by decide +kernel
theorem dX3_mean_12 : decode cX3_mean 12 = .ok (.iload_n 1, 1) := by decide +kernel
theorem dX3_mean_13 : decode cX3_mean 13 = .ok (.iload_n 2, 1) := by decide +kernel
theorem dX3_mean_14 : decode cX3_mean 14 = .ok (.iconst 1, 1) := by decide +kernel
theorem dX3_mean_15 : decode cX3_mean 15 = .ok (.invokevirtual 142, 3) := by decide +kernel
theorem dX3_mean_18 : decode cX3_mean 18 = .ok (.istore_n 3, 1) := by decide +kernel
theorem dX3_mean_19 : decode cX3_mean 19 = .ok (.iload_n 3, 1) := by decide +kernel
theorem dX3_mean_20 : decode cX3_mean 20 = .ok (.ifCond .ne 5, 3) := by decide +kernel
theorem dX3_mean_23 : decode cX3_mean 23 = .ok (.fconst 0, 1) := by decide +kernel
theorem dX3_mean_24 : decode cX3_mean 24 = .ok (.freturn, 1) := by decide +kernel
theorem dX3_mean_25 : decode cX3_mean 25 = .ok (.aload_n 0, 1) := by decide +kernel
theorem dX3_mean_26 : decode cX3_mean 26 = .ok (.getfield 10, 3) := by decide +kernel
theorem dX3_mean_29 : decode cX3_mean 29 = .ok (.iload_n 1, 1) := by decide +kernel
theorem dX3_mean_30 : decode cX3_mean 30 = .ok (.iload_n 2, 1) := by decide +kernel
theorem dX3_mean_31 : decode cX3_mean 31 = .ok (.iconst 1, 1) := by decide +kernel
theorem dX3_mean_32 : decode cX3_mean 32 = .ok (.invokevirtual 63, 3) := by decide +kernel
theorem dX3_mean_35 : decode cX3_mean 35 = .ok (.i2f, 1) := by decide +kernel
theorem dX3_mean_36 : decode cX3_mean 36 = .ok (.iload_n 3, 1) := by decide +kernel
theorem dX3_mean_37 : decode cX3_mean 37 = .ok (.i2f, 1) := by decide +kernel
theorem dX3_mean_38 : decode cX3_mean 38 = .ok (.fdiv, 1) := by decide +kernel
theorem dX3_mean_39 : decode cX3_mean 39 = .ok (.freturn, 1) := by decide +kernel
set_option maxRecDepth 20000 in
theorem ggX3_seen_X3_checkReplica : GoodIn wsX3_seen wsX3_checkReplica := goodIn_ca (goodIn_r _ [5, 6, 7] (by decide +kernel) (by decide +kernel)) (goodIn_sub (fun _ h => List.mem_cons_of_mem _ (List.mem_append_right _ h)) (by decide +kernel))
set_option maxRecDepth 20000 in
theorem gX3_seen_X3_checkReplica : GoodIn wsX3_seen (va_wsS RX3 30 yX3_checkReplica wsX3_checkReplica) := goodIn_app (goodIn_of _ (by decide +kernel)) ggX3_seen_X3_checkReplica
set_option maxRecDepth 20000 in
theorem ggX3_seen_X1_seenNumber : GoodIn wsX3_seen wsX1_seenNumber := goodIn_r _ [12, 13, 17, 18, 19, 20, 21, 22] (by decide +kernel) (by decide +kernel)
set_option maxRecDepth 20000 in
theorem gX3_seen_X1_seenNumber : GoodIn wsX3_seen (wsV RX3 149 RX1 yX1_seenNumber wsX1_seenNumber) := goodIn_app (goodIn_of _ (by decide +kernel)) ggX3_seen_X1_seenNumber
theorem dX3_seen_0 : decode cX3_seen 0 = .ok (.iload_n 1, 1) := by decide +kernel
theorem dX3_seen_1 : decode cX3_seen 1 = .ok (.invokestatic 30, 3) := by decide +kernel
theorem dX3_seen_4 : decode cX3_seen 4 = .ok (.iload_n 2, 1) := by decide +kernel
theorem dX3_seen_5 : decode cX3_seen 5 = .ok (.invokestatic 30, 3) := by decide +kernel
theorem dX3_seen_8 : decode cX3_seen 8 = .ok (.aload_n 0, 1) := by decide +kernel
theorem dX3_seen_9 : decode cX3_seen 9 = .ok (.getfield 10, 3) := by decide +kernel
theorem dX3_seen_12 : decode cX3_seen 12 = .ok (.iload_n 1, 1) := by decide +kernel
theorem dX3_seen_13 : decode cX3_seen 13 = .ok (.iload_n 2, 1) := by decide +kernel
theorem dX3_seen_14 : decode cX3_seen 14 = .ok (.invokevirtual 149, 3) := by decide +kernel
theorem dX3_seen_17 : decode cX3_seen 17 = .ok (.ireturn, 1) := by decide +kernel
set_option maxRecDepth 20000 in
theorem ggX3_clock_X3_checkReplica : GoodIn wsX3_clock wsX3_checkReplica := goodIn_ca (goodIn_r _ [5, 6, 7] (by decide +kernel) (by decide +kernel)) (goodIn_sub (fun _ h => List.mem_cons_of_mem _ (List.mem_append_right _ h)) (by decide +kernel))
set_option maxRecDepth 20000 in
theorem gX3_clock_X3_checkReplica : GoodIn wsX3_clock (va_wsS RX3 30 yX3_checkReplica wsX3_checkReplica) := goodIn_app (goodIn_of _ (by decide +kernel)) ggX3_clock_X3_checkReplica
theorem dX3_clock_0 : decode cX3_clock 0 = .ok (.iload_n 1, 1) := by decide +kernel
theorem dX3_clock_1 : decode cX3_clock 1 = .ok (.invokestatic 30, 3) := by decide +kernel
theorem dX3_clock_4 : decode cX3_clock 4 = .ok (.aload_n 0, 1) := by decide +kernel
theorem dX3_clock_5 : decode cX3_clock 5 = .ok (.getfield 10, 3) := by decide +kernel
theorem dX3_clock_8 : decode cX3_clock 8 = .ok (.getfield 152, 3) := by decide +kernel
theorem dX3_clock_11 : decode cX3_clock 11 = .ok (.iload_n 1, 1) := by decide +kernel
theorem dX3_clock_12 : decode cX3_clock 12 = .ok (.iaload, 1) := by decide +kernel
theorem dX3_clock_13 : decode cX3_clock 13 = .ok (.ireturn, 1) := by decide +kernel
set_option maxRecDepth 20000 in
theorem ggX3_relation_X3_checkReplica : GoodIn wsX3_relation wsX3_checkReplica := goodIn_ca (goodIn_r _ [5, 6, 7] (by decide +kernel) (by decide +kernel)) (goodIn_sub (fun _ h => List.mem_cons_of_mem _ (List.mem_append_right _ h)) (by decide +kernel))
set_option maxRecDepth 20000 in
theorem gX3_relation_X3_checkReplica : GoodIn wsX3_relation (va_wsS RX3 30 yX3_checkReplica wsX3_checkReplica) := goodIn_app (goodIn_of _ (by decide +kernel)) ggX3_relation_X3_checkReplica
set_option maxRecDepth 20000 in
theorem ggX3_relation_X1_knows : GoodIn wsX3_relation wsX1_knows := goodIn_r _ [12, 13, 14, 15, 11, 16, 17, 21, 22, 23, 24, 25, 26] (by decide +kernel) (by decide +kernel)
set_option maxRecDepth 20000 in
theorem gX3_relation_X1_knows : GoodIn wsX3_relation (wsV RX3 156 RX1 yX1_knows wsX1_knows) := goodIn_app (goodIn_of _ (by decide +kernel)) ggX3_relation_X1_knows
theorem dX3_relation_0 : decode cX3_relation 0 = .ok (.iload_n 1, 1) := by decide +kernel
theorem dX3_relation_1 : decode cX3_relation 1 = .ok (.invokestatic 30, 3) := by decide +kernel
theorem dX3_relation_4 : decode cX3_relation 4 = .ok (.iload_n 2, 1) := by decide +kernel
theorem dX3_relation_5 : decode cX3_relation 5 = .ok (.invokestatic 30, 3) := by decide +kernel
theorem dX3_relation_8 : decode cX3_relation 8 = .ok (.aload_n 0, 1) := by decide +kernel
theorem dX3_relation_9 : decode cX3_relation 9 = .ok (.getfield 10, 3) := by decide +kernel
theorem dX3_relation_12 : decode cX3_relation 12 = .ok (.iload_n 1, 1) := by decide +kernel
theorem dX3_relation_13 : decode cX3_relation 13 = .ok (.iload_n 2, 1) := by decide +kernel
theorem dX3_relation_14 : decode cX3_relation 14 = .ok (.invokevirtual 156, 3) := by decide +kernel
theorem dX3_relation_17 : decode cX3_relation 17 = .ok (.istore_n 3, 1) := by decide +kernel
theorem dX3_relation_18 : decode cX3_relation 18 = .ok (.aload_n 0, 1) := by decide +kernel
theorem dX3_relation_19 : decode cX3_relation 19 = .ok (.getfield 10, 3) := by decide +kernel
theorem dX3_relation_22 : decode cX3_relation 22 = .ok (.iload_n 2, 1) := by decide +kernel
theorem dX3_relation_23 : decode cX3_relation 23 = .ok (.iload_n 1, 1) := by decide +kernel
theorem dX3_relation_24 : decode cX3_relation 24 = .ok (.invokevirtual 156, 3) := by decide +kernel
theorem dX3_relation_27 : decode cX3_relation 27 = .ok (.istore 4, 2) := by decide +kernel
theorem dX3_relation_29 : decode cX3_relation 29 = .ok (.iload_n 3, 1) := by decide +kernel
theorem dX3_relation_30 : decode cX3_relation 30 = .ok (.ifCond .eq 14, 3) := by decide +kernel
theorem dX3_relation_33 : decode cX3_relation 33 = .ok (.iload 4, 2) := by decide +kernel
theorem dX3_relation_35 : decode cX3_relation 35 = .ok (.ifCond .eq 7, 3) := by decide +kernel
theorem dX3_relation_38 : decode cX3_relation 38 = .ok (.iconst 0, 1) := by decide +kernel
theorem dX3_relation_39 : decode cX3_relation 39 = .ok (.goto 4, 3) := by decide +kernel
theorem dX3_relation_42 : decode cX3_relation 42 = .ok (.iconst 2, 1) := by decide +kernel
theorem dX3_relation_43 : decode cX3_relation 43 = .ok (.ireturn, 1) := by decide +kernel
theorem dX3_relation_44 : decode cX3_relation 44 = .ok (.iload 4, 2) := by decide +kernel
theorem dX3_relation_46 : decode cX3_relation 46 = .ok (.ifCond .eq 7, 3) := by decide +kernel
theorem dX3_relation_49 : decode cX3_relation 49 = .ok (.iconst 1, 1) := by decide +kernel
theorem dX3_relation_50 : decode cX3_relation 50 = .ok (.goto 4, 3) := by decide +kernel
theorem dX3_relation_53 : decode cX3_relation 53 = .ok (.iconst 3, 1) := by decide +kernel
theorem dX3_relation_54 : decode cX3_relation 54 = .ok (.ireturn, 1) := by decide +kernel
set_option maxRecDepth 20000 in
theorem ggX3_conflicts_X3_checkReplica : GoodIn wsX3_conflicts wsX3_checkReplica := goodIn_ca (goodIn_r _ [5, 6, 7] (by decide +kernel) (by decide +kernel)) (goodIn_sub (fun _ h => List.mem_cons_of_mem _ (List.mem_append_right _ h)) (by decide +kernel))
set_option maxRecDepth 20000 in
theorem gX3_conflicts_X3_checkReplica : GoodIn wsX3_conflicts (va_wsS RX3 30 yX3_checkReplica wsX3_checkReplica) := goodIn_app (goodIn_of _ (by decide +kernel)) ggX3_conflicts_X3_checkReplica
set_option maxRecDepth 20000 in
theorem ggX3_conflicts_X1_countInCell : GoodIn wsX3_conflicts wsX1_countInCell := goodIn_r _ [12, 13, 14, 11, 15, 16, 17, 18, 19, 20, 21, 22, 23, 24, 25, 26, 30, 31, 32, 33, 34, 35] (by decide +kernel) (by decide +kernel)
set_option maxRecDepth 20000 in
theorem gX3_conflicts_X1_countInCell : GoodIn wsX3_conflicts (wsV RX3 142 RX1 yX1_countInCell wsX1_countInCell) := goodIn_app (goodIn_of _ (by decide +kernel)) ggX3_conflicts_X1_countInCell
theorem dX3_conflicts_0 : decode cX3_conflicts 0 = .ok (.iload_n 1, 1) := by decide +kernel
theorem dX3_conflicts_1 : decode cX3_conflicts 1 = .ok (.invokestatic 30, 3) := by decide +kernel
theorem dX3_conflicts_4 : decode cX3_conflicts 4 = .ok (.iconst 0, 1) := by decide +kernel
theorem dX3_conflicts_5 : decode cX3_conflicts 5 = .ok (.istore_n 2, 1) := by decide +kernel
theorem dX3_conflicts_6 : decode cX3_conflicts 6 = .ok (.iconst 0, 1) := by decide +kernel
theorem dX3_conflicts_7 : decode cX3_conflicts 7 = .ok (.istore_n 3, 1) := by decide +kernel
theorem dX3_conflicts_8 : decode cX3_conflicts 8 = .ok (.iload_n 3, 1) := by decide +kernel
theorem dX3_conflicts_9 : decode cX3_conflicts 9 = .ok (.bipush 6, 2) := by decide +kernel
theorem dX3_conflicts_11 : decode cX3_conflicts 11 = .ok (.if_icmp .ge 26, 3) := by decide +kernel
theorem dX3_conflicts_14 : decode cX3_conflicts 14 = .ok (.aload_n 0, 1) := by decide +kernel
theorem dX3_conflicts_15 : decode cX3_conflicts 15 = .ok (.getfield 10, 3) := by decide +kernel
theorem dX3_conflicts_18 : decode cX3_conflicts 18 = .ok (.iload_n 1, 1) := by decide +kernel
theorem dX3_conflicts_19 : decode cX3_conflicts 19 = .ok (.iload_n 3, 1) := by decide +kernel
theorem dX3_conflicts_20 : decode cX3_conflicts 20 = .ok (.iconst 1, 1) := by decide +kernel
theorem dX3_conflicts_21 : decode cX3_conflicts 21 = .ok (.invokevirtual 142, 3) := by decide +kernel
theorem dX3_conflicts_24 : decode cX3_conflicts 24 = .ok (.iconst 2, 1) := by decide +kernel
theorem dX3_conflicts_25 : decode cX3_conflicts 25 = .ok (.if_icmp .lt 6, 3) := by decide +kernel
theorem dX3_conflicts_28 : decode cX3_conflicts 28 = .ok (.iinc 2 1, 3) := by decide +kernel
theorem dX3_conflicts_31 : decode cX3_conflicts 31 = .ok (.iinc 3 1, 3) := by decide +kernel
theorem dX3_conflicts_34 : decode cX3_conflicts 34 = .ok (.goto (-26), 3) := by decide +kernel
theorem dX3_conflicts_37 : decode cX3_conflicts 37 = .ok (.iload_n 2, 1) := by decide +kernel
theorem dX3_conflicts_38 : decode cX3_conflicts 38 = .ok (.ireturn, 1) := by decide +kernel
set_option maxRecDepth 20000 in
theorem ggX3_agreement_X1_isAgreed : GoodIn wsX3_agreement wsX1_isAgreed := goodIn_r _ [7, 8, 9, 10, 6, 11, 12, 13, 14, 15, 16, 17, 21, 22, 23, 24, 25, 26] (by decide +kernel) (by decide +kernel)
set_option maxRecDepth 20000 in
theorem gX3_agreement_X1_isAgreed : GoodIn wsX3_agreement (wsV RX3 159 RX1 yX1_isAgreed wsX1_isAgreed) := goodIn_app (goodIn_of _ (by decide +kernel)) ggX3_agreement_X1_isAgreed
theorem dX3_agreement_0 : decode cX3_agreement 0 = .ok (.iconst 0, 1) := by decide +kernel
theorem dX3_agreement_1 : decode cX3_agreement 1 = .ok (.istore_n 1, 1) := by decide +kernel
theorem dX3_agreement_2 : decode cX3_agreement 2 = .ok (.iconst 0, 1) := by decide +kernel
theorem dX3_agreement_3 : decode cX3_agreement 3 = .ok (.istore_n 2, 1) := by decide +kernel
theorem dX3_agreement_4 : decode cX3_agreement 4 = .ok (.iload_n 2, 1) := by decide +kernel
theorem dX3_agreement_5 : decode cX3_agreement 5 = .ok (.bipush 6, 2) := by decide +kernel
theorem dX3_agreement_7 : decode cX3_agreement 7 = .ok (.if_icmp .ge 37, 3) := by decide +kernel
theorem dX3_agreement_10 : decode cX3_agreement 10 = .ok (.iconst 0, 1) := by decide +kernel
theorem dX3_agreement_11 : decode cX3_agreement 11 = .ok (.istore_n 3, 1) := by decide +kernel
theorem dX3_agreement_12 : decode cX3_agreement 12 = .ok (.iload_n 3, 1) := by decide +kernel
theorem dX3_agreement_13 : decode cX3_agreement 13 = .ok (.iconst 5, 1) := by decide +kernel
theorem dX3_agreement_14 : decode cX3_agreement 14 = .ok (.if_icmp .ge 24, 3) := by decide +kernel
theorem dX3_agreement_17 : decode cX3_agreement 17 = .ok (.aload_n 0, 1) := by decide +kernel
theorem dX3_agreement_18 : decode cX3_agreement 18 = .ok (.getfield 10, 3) := by decide +kernel
theorem dX3_agreement_21 : decode cX3_agreement 21 = .ok (.iload_n 2, 1) := by decide +kernel
theorem dX3_agreement_22 : decode cX3_agreement 22 = .ok (.iload_n 3, 1) := by decide +kernel
theorem dX3_agreement_23 : decode cX3_agreement 23 = .ok (.invokevirtual 159, 3) := by decide +kernel
theorem dX3_agreement_26 : decode cX3_agreement 26 = .ok (.ifCond .eq 6, 3) := by decide +kernel
theorem dX3_agreement_29 : decode cX3_agreement 29 = .ok (.iinc 1 1, 3) := by decide +kernel
theorem dX3_agreement_32 : decode cX3_agreement 32 = .ok (.iinc 3 1, 3) := by decide +kernel
theorem dX3_agreement_35 : decode cX3_agreement 35 = .ok (.goto (-23), 3) := by decide +kernel
theorem dX3_agreement_38 : decode cX3_agreement 38 = .ok (.iinc 2 1, 3) := by decide +kernel
theorem dX3_agreement_41 : decode cX3_agreement 41 = .ok (.goto (-37), 3) := by decide +kernel
theorem dX3_agreement_44 : decode cX3_agreement 44 = .ok (.iload_n 1, 1) := by decide +kernel
theorem dX3_agreement_45 : decode cX3_agreement 45 = .ok (.i2d, 1) := by decide +kernel
theorem dX3_agreement_46 : decode cX3_agreement 46 = .ok (.ldc2_w 162, 3) := by decide +kernel
theorem dX3_agreement_49 : decode cX3_agreement 49 = .ok (.ddiv, 1) := by decide +kernel
theorem dX3_agreement_50 : decode cX3_agreement 50 = .ok (.dreturn, 1) := by decide +kernel
theorem dX3_latestMerge_0 : decode cX3_latestMerge 0 = .ok (.iload_n 1, 1) := by decide +kernel
theorem dX3_latestMerge_1 : decode cX3_latestMerge 1 = .ok (.ifCond .lt 8, 3) := by decide +kernel
theorem dX3_latestMerge_4 : decode cX3_latestMerge 4 = .ok (.iload_n 1, 1) := by decide +kernel
theorem dX3_latestMerge_5 : decode cX3_latestMerge 5 = .ok (.iconst 4, 1) := by decide +kernel
theorem dX3_latestMerge_6 : decode cX3_latestMerge 6 = .ok (.if_icmp .lt 13, 3) := by decide +kernel
theorem dX3_latestMerge_9 : decode cX3_latestMerge 9 = .ok (.new 44, 3) := by decide +kernel
theorem dX3_latestMerge_12 : decode cX3_latestMerge 12 = .ok (.dup, 1) := by decide +kernel
theorem dX3_latestMerge_13 : decode cX3_latestMerge 13 = .ok (.ldc 164, 2) := by decide +kernel
theorem dX3_latestMerge_15 : decode cX3_latestMerge 15 = .ok (.invokespecial 48, 3) := by decide +kernel
theorem dX3_latestMerge_18 : decode cX3_latestMerge 18 = .ok (.athrow, 1) := by decide +kernel
theorem dX3_latestMerge_19 : decode cX3_latestMerge 19 = .ok (.aload_n 0, 1) := by decide +kernel
theorem dX3_latestMerge_20 : decode cX3_latestMerge 20 = .ok (.getfield 10, 3) := by decide +kernel
theorem dX3_latestMerge_23 : decode cX3_latestMerge 23 = .ok (.getfield 166, 3) := by decide +kernel
theorem dX3_latestMerge_26 : decode cX3_latestMerge 26 = .ok (.iload_n 1, 1) := by decide +kernel
theorem dX3_latestMerge_27 : decode cX3_latestMerge 27 = .ok (.iaload, 1) := by decide +kernel
theorem dX3_latestMerge_28 : decode cX3_latestMerge 28 = .ok (.ireturn, 1) := by decide +kernel
set_option maxRecDepth 20000 in
theorem ggX3_ifMerged_X3_checkReplica : GoodIn wsX3_ifMerged wsX3_checkReplica := goodIn_ca (goodIn_r _ [7, 8, 9] (by decide +kernel) (by decide +kernel)) (goodIn_sub (fun _ h => List.mem_cons_of_mem _ (List.mem_append_right _ h)) (by decide +kernel))
set_option maxRecDepth 20000 in
theorem gX3_ifMerged_X3_checkReplica : GoodIn wsX3_ifMerged (va_wsS RX3 30 yX3_checkReplica wsX3_checkReplica) := goodIn_app (goodIn_of _ (by decide +kernel)) ggX3_ifMerged_X3_checkReplica
set_option maxRecDepth 20000 in
theorem ggX3_ifMerged_X3_checkDifferent : GoodIn wsX3_ifMerged wsX3_checkDifferent := goodIn_ca (goodIn_r _ [12, 1, 2] (by decide +kernel) (by decide +kernel)) (goodIn_sub (fun _ h => List.mem_cons_of_mem _ (List.mem_append_left _ (List.mem_append_right _ h))) (by decide +kernel))
set_option maxRecDepth 20000 in
theorem gX3_ifMerged_X3_checkDifferent : GoodIn wsX3_ifMerged (va_wsS RX3 80 yX3_checkDifferent wsX3_checkDifferent) := goodIn_app (goodIn_of _ (by decide +kernel)) ggX3_ifMerged_X3_checkDifferent
set_option maxRecDepth 20000 in
theorem ggX3_ifMerged_X1_countAdded : GoodIn wsX3_ifMerged wsX1_countAdded := goodIn_r _ [17, 18, 19, 20, 16, 21, 22, 23, 24, 25, 26, 27, 39, 40, 41, 42, 43, 44] (by decide +kernel) (by decide +kernel)
set_option maxRecDepth 20000 in
theorem gX3_ifMerged_X1_countAdded : GoodIn wsX3_ifMerged (wsV RX3 171 RX1 yX1_countAdded wsX1_countAdded) := goodIn_app (goodIn_of _ (by decide +kernel)) ggX3_ifMerged_X1_countAdded
set_option maxRecDepth 20000 in
theorem ggX3_ifMerged_X1_countRemoved : GoodIn wsX3_ifMerged wsX1_countRemoved := goodIn_r _ [31, 32, 33, 34, 16, 35, 22, 23, 24, 25, 26, 27, 39, 40, 41, 42, 43, 44] (by decide +kernel) (by decide +kernel)
set_option maxRecDepth 20000 in
theorem gX3_ifMerged_X1_countRemoved : GoodIn wsX3_ifMerged (wsV RX3 174 RX1 yX1_countRemoved wsX1_countRemoved) := goodIn_app (goodIn_of _ (by decide +kernel)) ggX3_ifMerged_X1_countRemoved
theorem dX3_ifMerged_0 : decode cX3_ifMerged 0 = .ok (.iload_n 1, 1) := by decide +kernel
theorem dX3_ifMerged_1 : decode cX3_ifMerged 1 = .ok (.invokestatic 30, 3) := by decide +kernel
theorem dX3_ifMerged_4 : decode cX3_ifMerged 4 = .ok (.iload_n 2, 1) := by decide +kernel
theorem dX3_ifMerged_5 : decode cX3_ifMerged 5 = .ok (.invokestatic 30, 3) := by decide +kernel
theorem dX3_ifMerged_8 : decode cX3_ifMerged 8 = .ok (.iload_n 1, 1) := by decide +kernel
theorem dX3_ifMerged_9 : decode cX3_ifMerged 9 = .ok (.iload_n 2, 1) := by decide +kernel
theorem dX3_ifMerged_10 : decode cX3_ifMerged 10 = .ok (.invokestatic 80, 3) := by decide +kernel
theorem dX3_ifMerged_13 : decode cX3_ifMerged 13 = .ok (.iload_n 3, 1) := by decide +kernel
theorem dX3_ifMerged_14 : decode cX3_ifMerged 14 = .ok (.iconst 2, 1) := by decide +kernel
theorem dX3_ifMerged_15 : decode cX3_ifMerged 15 = .ok (.if_icmp .eq 18, 3) := by decide +kernel
theorem dX3_ifMerged_18 : decode cX3_ifMerged 18 = .ok (.iload_n 3, 1) := by decide +kernel
theorem dX3_ifMerged_19 : decode cX3_ifMerged 19 = .ok (.iconst 3, 1) := by decide +kernel
theorem dX3_ifMerged_20 : decode cX3_ifMerged 20 = .ok (.if_icmp .eq 13, 3) := by decide +kernel
theorem dX3_ifMerged_23 : decode cX3_ifMerged 23 = .ok (.new 44, 3) := by decide +kernel
theorem dX3_ifMerged_26 : decode cX3_ifMerged 26 = .ok (.dup, 1) := by decide +kernel
theorem dX3_ifMerged_27 : decode cX3_ifMerged 27 = .ok (.ldc 169, 2) := by decide +kernel
theorem dX3_ifMerged_29 : decode cX3_ifMerged 29 = .ok (.invokespecial 48, 3) := by decide +kernel
theorem dX3_ifMerged_32 : decode cX3_ifMerged 32 = .ok (.athrow, 1) := by decide +kernel
theorem dX3_ifMerged_33 : decode cX3_ifMerged 33 = .ok (.iload_n 3, 1) := by decide +kernel
theorem dX3_ifMerged_34 : decode cX3_ifMerged 34 = .ok (.iconst 2, 1) := by decide +kernel
theorem dX3_ifMerged_35 : decode cX3_ifMerged 35 = .ok (.if_icmp .ne 15, 3) := by decide +kernel
theorem dX3_ifMerged_38 : decode cX3_ifMerged 38 = .ok (.aload_n 0, 1) := by decide +kernel
theorem dX3_ifMerged_39 : decode cX3_ifMerged 39 = .ok (.getfield 10, 3) := by decide +kernel
theorem dX3_ifMerged_42 : decode cX3_ifMerged 42 = .ok (.iload_n 1, 1) := by decide +kernel
theorem dX3_ifMerged_43 : decode cX3_ifMerged 43 = .ok (.iload_n 2, 1) := by decide +kernel
theorem dX3_ifMerged_44 : decode cX3_ifMerged 44 = .ok (.invokevirtual 171, 3) := by decide +kernel
theorem dX3_ifMerged_47 : decode cX3_ifMerged 47 = .ok (.goto 12, 3) := by decide +kernel
theorem dX3_ifMerged_50 : decode cX3_ifMerged 50 = .ok (.aload_n 0, 1) := by decide +kernel
theorem dX3_ifMerged_51 : decode cX3_ifMerged 51 = .ok (.getfield 10, 3) := by decide +kernel
theorem dX3_ifMerged_54 : decode cX3_ifMerged 54 = .ok (.iload_n 1, 1) := by decide +kernel
theorem dX3_ifMerged_55 : decode cX3_ifMerged 55 = .ok (.iload_n 2, 1) := by decide +kernel
theorem dX3_ifMerged_56 : decode cX3_ifMerged 56 = .ok (.invokevirtual 174, 3) := by decide +kernel
theorem dX3_ifMerged_59 : decode cX3_ifMerged 59 = .ok (.ireturn, 1) := by decide +kernel
theorem dX3_checkReplica_0 : decode cX3_checkReplica 0 = .ok (.iload_n 0, 1) := by decide +kernel
theorem dX3_checkReplica_1 : decode cX3_checkReplica 1 = .ok (.ifCond .lt 8, 3) := by decide +kernel
theorem dX3_checkReplica_4 : decode cX3_checkReplica 4 = .ok (.iload_n 0, 1) := by decide +kernel
theorem dX3_checkReplica_5 : decode cX3_checkReplica 5 = .ok (.iconst 4, 1) := by decide +kernel
theorem dX3_checkReplica_6 : decode cX3_checkReplica 6 = .ok (.if_icmp .lt 13, 3) := by decide +kernel
theorem dX3_checkReplica_9 : decode cX3_checkReplica 9 = .ok (.new 37, 3) := by decide +kernel
theorem dX3_checkReplica_12 : decode cX3_checkReplica 12 = .ok (.dup, 1) := by decide +kernel
theorem dX3_checkReplica_13 : decode cX3_checkReplica 13 = .ok (.ldc 177, 2) := by decide +kernel
theorem dX3_checkReplica_15 : decode cX3_checkReplica 15 = .ok (.invokespecial 41, 3) := by decide +kernel
theorem dX3_checkReplica_18 : decode cX3_checkReplica 18 = .ok (.athrow, 1) := by decide +kernel
theorem dX3_checkReplica_19 : decode cX3_checkReplica 19 = .ok (.return_, 1) := by decide +kernel
theorem dX3_checkRow_0 : decode cX3_checkRow 0 = .ok (.iload_n 0, 1) := by decide +kernel
theorem dX3_checkRow_1 : decode cX3_checkRow 1 = .ok (.ifCond .lt 9, 3) := by decide +kernel
theorem dX3_checkRow_4 : decode cX3_checkRow 4 = .ok (.iload_n 0, 1) := by decide +kernel
theorem dX3_checkRow_5 : decode cX3_checkRow 5 = .ok (.bipush 6, 2) := by decide +kernel
theorem dX3_checkRow_7 : decode cX3_checkRow 7 = .ok (.if_icmp .lt 13, 3) := by decide +kernel
theorem dX3_checkRow_10 : decode cX3_checkRow 10 = .ok (.new 37, 3) := by decide +kernel
theorem dX3_checkRow_13 : decode cX3_checkRow 13 = .ok (.dup, 1) := by decide +kernel
theorem dX3_checkRow_14 : decode cX3_checkRow 14 = .ok (.ldc 179, 2) := by decide +kernel
theorem dX3_checkRow_16 : decode cX3_checkRow 16 = .ok (.invokespecial 41, 3) := by decide +kernel
theorem dX3_checkRow_19 : decode cX3_checkRow 19 = .ok (.athrow, 1) := by decide +kernel
theorem dX3_checkRow_20 : decode cX3_checkRow 20 = .ok (.return_, 1) := by decide +kernel
theorem dX3_checkElement_0 : decode cX3_checkElement 0 = .ok (.iload_n 0, 1) := by decide +kernel
theorem dX3_checkElement_1 : decode cX3_checkElement 1 = .ok (.ifCond .lt 9, 3) := by decide +kernel
theorem dX3_checkElement_4 : decode cX3_checkElement 4 = .ok (.iload_n 0, 1) := by decide +kernel
theorem dX3_checkElement_5 : decode cX3_checkElement 5 = .ok (.bipush 16, 2) := by decide +kernel
theorem dX3_checkElement_7 : decode cX3_checkElement 7 = .ok (.if_icmp .lt 13, 3) := by decide +kernel
theorem dX3_checkElement_10 : decode cX3_checkElement 10 = .ok (.new 44, 3) := by decide +kernel
theorem dX3_checkElement_13 : decode cX3_checkElement 13 = .ok (.dup, 1) := by decide +kernel
theorem dX3_checkElement_14 : decode cX3_checkElement 14 = .ok (.ldc 181, 2) := by decide +kernel
theorem dX3_checkElement_16 : decode cX3_checkElement 16 = .ok (.invokespecial 48, 3) := by decide +kernel
theorem dX3_checkElement_19 : decode cX3_checkElement 19 = .ok (.athrow, 1) := by decide +kernel
theorem dX3_checkElement_20 : decode cX3_checkElement 20 = .ok (.return_, 1) := by decide +kernel
theorem dX3_checkDifferent_0 : decode cX3_checkDifferent 0 = .ok (.iload_n 0, 1) := by decide +kernel
theorem dX3_checkDifferent_1 : decode cX3_checkDifferent 1 = .ok (.iload_n 1, 1) := by decide +kernel
theorem dX3_checkDifferent_2 : decode cX3_checkDifferent 2 = .ok (.if_icmp .ne 13, 3) := by decide +kernel
theorem dX3_checkDifferent_5 : decode cX3_checkDifferent 5 = .ok (.new 44, 3) := by decide +kernel
theorem dX3_checkDifferent_8 : decode cX3_checkDifferent 8 = .ok (.dup, 1) := by decide +kernel
theorem dX3_checkDifferent_9 : decode cX3_checkDifferent 9 = .ok (.ldc 183, 2) := by decide +kernel
theorem dX3_checkDifferent_11 : decode cX3_checkDifferent 11 = .ok (.invokespecial 48, 3) := by decide +kernel
theorem dX3_checkDifferent_14 : decode cX3_checkDifferent 14 = .ok (.athrow, 1) := by decide +kernel
theorem dX3_checkDifferent_15 : decode cX3_checkDifferent 15 = .ok (.return_, 1) := by decide +kernel
theorem dJ9_max_7cf53_0 : decode cJ9_max_7cf53 0 = .ok (.iload_n 0, 1) := by decide +kernel
theorem dJ9_max_7cf53_1 : decode cJ9_max_7cf53 1 = .ok (.iload_n 1, 1) := by decide +kernel
theorem dJ9_max_7cf53_2 : decode cJ9_max_7cf53 2 = .ok (.if_icmp .lt 7, 3) := by decide +kernel
theorem dJ9_max_7cf53_5 : decode cJ9_max_7cf53 5 = .ok (.iload_n 0, 1) := by decide +kernel
theorem dJ9_max_7cf53_6 : decode cJ9_max_7cf53 6 = .ok (.goto 4, 3) := by decide +kernel
theorem dJ9_max_7cf53_9 : decode cJ9_max_7cf53 9 = .ok (.iload_n 1, 1) := by decide +kernel
theorem dJ9_max_7cf53_10 : decode cJ9_max_7cf53 10 = .ok (.ireturn, 1) := by decide +kernel
theorem dL_cell_0 : decode cL_cell 0 = .ok (.iload_n 1, 1) := by decide +kernel
theorem dL_cell_1 : decode cL_cell 1 = .ok (.aload_n 0, 1) := by decide +kernel
theorem dL_cell_2 : decode cL_cell 2 = .ok (.arraylength, 1) := by decide +kernel
theorem dL_cell_3 : decode cL_cell 3 = .ok (.if_icmp .ge 9, 3) := by decide +kernel
theorem dL_cell_6 : decode cL_cell 6 = .ok (.aload_n 0, 1) := by decide +kernel
theorem dL_cell_7 : decode cL_cell 7 = .ok (.iload_n 1, 1) := by decide +kernel
theorem dL_cell_8 : decode cL_cell 8 = .ok (.iaload, 1) := by decide +kernel
theorem dL_cell_9 : decode cL_cell 9 = .ok (.goto 11, 3) := by decide +kernel
theorem dL_cell_12 : decode cL_cell 12 = .ok (.ldc 7, 2) := by decide +kernel
theorem dL_cell_14 : decode cL_cell 14 = .ok (.iload_n 1, 1) := by decide +kernel
theorem dL_cell_15 : decode cL_cell 15 = .ok (.sipush 227, 3) := by decide +kernel
theorem dL_cell_18 : decode cL_cell 18 = .ok (.iadd, 1) := by decide +kernel
theorem dL_cell_19 : decode cL_cell 19 = .ok (.imul, 1) := by decide +kernel
theorem dL_cell_20 : decode cL_cell 20 = .ok (.ireturn, 1) := by decide +kernel
theorem dL_up_0 : decode cL_up 0 = .ok (.iload_n 0, 1) := by decide +kernel
theorem dL_up_1 : decode cL_up 1 = .ok (.ldc 8, 2) := by decide +kernel
theorem dL_up_3 : decode cL_up 3 = .ok (.iand, 1) := by decide +kernel
theorem dL_up_4 : decode cL_up 4 = .ok (.iload_n 1, 1) := by decide +kernel
theorem dL_up_5 : decode cL_up 5 = .ok (.irem, 1) := by decide +kernel
theorem dL_up_6 : decode cL_up 6 = .ok (.ireturn, 1) := by decide +kernel
set_option maxRecDepth 20000 in
theorem ggL_cells_X3_latest : GoodIn wsL_cells wsX3_latest := goodIn_ca (goodIn_r _ [7, 8, 9, 10, 6, 11, 12, 13, 14, 15, 16, 17, 18, 19, 20, 21, 22, 23, 24, 25, 26, 27, 28, 29, 30, 31, 32, 33, 86, 87, 88, 89, 90, 91, 92, 93, 94] (by decide +kernel) (by decide +kernel)) (goodIn_sub (fun _ h => List.mem_cons_of_mem _ (List.mem_append_right _ h)) (by decide +kernel))
set_option maxRecDepth 20000 in
theorem gL_cells_X3_latest : GoodIn wsL_cells (wsV RL 13 RX3 yX3_latest wsX3_latest) := goodIn_app (goodIn_of _ (by decide +kernel)) ggL_cells_X3_latest
set_option maxRecDepth 20000 in
theorem ggL_cells_X3_greatest : GoodIn wsL_cells wsX3_greatest := goodIn_ca (goodIn_r _ [37, 8, 9, 10, 6, 11, 12, 13, 14, 15, 16, 38, 39, 40, 20, 41, 22, 24, 42, 43, 44, 45, 31, 32, 33, 28, 29, 30, 25, 26, 27, 86, 87, 88, 89, 90, 91, 92, 93, 94] (by decide +kernel) (by decide +kernel)) (goodIn_sub (fun _ h => List.mem_cons_of_mem _ (List.mem_append_right _ h)) (by decide +kernel))
set_option maxRecDepth 20000 in
theorem gL_cells_X3_greatest : GoodIn wsL_cells (wsV RL 19 RX3 yX3_greatest wsX3_greatest) := goodIn_app (goodIn_of _ (by decide +kernel)) ggL_cells_X3_greatest
set_option maxRecDepth 20000 in
theorem ggL_cells_X3_counter : GoodIn wsL_cells wsX3_counter := goodIn_ca (goodIn_r _ [49, 8, 9, 10, 6, 11, 12, 13, 14, 15, 16, 50, 51, 52, 20, 53, 22, 24, 31, 32, 33, 28, 29, 30, 25, 26, 27, 86, 87, 88, 89, 90, 91, 92, 93, 94] (by decide +kernel) (by decide +kernel)) (goodIn_sub (fun _ h => List.mem_cons_of_mem _ (List.mem_append_right _ h)) (by decide +kernel))
set_option maxRecDepth 20000 in
theorem gL_cells_X3_counter : GoodIn wsL_cells (wsV RL 22 RX3 yX3_counter wsX3_counter) := goodIn_app (goodIn_of _ (by decide +kernel)) ggL_cells_X3_counter
set_option maxRecDepth 20000 in
theorem ggL_cells_X3_elements : GoodIn wsL_cells wsX3_elements := goodIn_ca (goodIn_r _ [57, 8, 9, 10, 6, 11, 12, 13, 14, 15, 16, 58, 59, 60, 20, 61, 22, 24, 31, 32, 33, 28, 29, 30, 25, 26, 27, 86, 87, 88, 89, 90, 91, 92, 93, 94] (by decide +kernel) (by decide +kernel)) (goodIn_sub (fun _ h => List.mem_cons_of_mem _ (List.mem_append_right _ h)) (by decide +kernel))
set_option maxRecDepth 20000 in
theorem gL_cells_X3_elements : GoodIn wsL_cells (wsV RL 25 RX3 yX3_elements wsX3_elements) := goodIn_app (goodIn_of _ (by decide +kernel)) ggL_cells_X3_elements
set_option maxRecDepth 20000 in
theorem ggL_cells_X3_entries : GoodIn wsL_cells wsX3_entries := goodIn_ca (goodIn_r _ [65, 12, 13, 8, 9, 10, 6, 11, 14, 15, 16, 66, 67, 68, 20, 69, 25, 26, 27, 28, 29, 30, 31, 32, 33, 70, 71, 72, 73, 22, 86, 87, 88, 89, 90, 91, 92, 93, 94] (by decide +kernel) (by decide +kernel)) (goodIn_sub (fun _ h => List.mem_cons_of_mem _ (List.mem_append_right _ h)) (by decide +kernel))
set_option maxRecDepth 20000 in
theorem gL_cells_X3_entries : GoodIn wsL_cells (wsV RL 28 RX3 yX3_entries wsX3_entries) := goodIn_app (goodIn_of _ (by decide +kernel)) ggL_cells_X3_entries
set_option maxRecDepth 20000 in
theorem ggL_cells_X3_sibling : GoodIn wsL_cells wsX3_sibling := goodIn_ca (goodIn_r _ [77, 12, 13, 8, 9, 10, 6, 11, 14, 15, 16, 78, 79, 80, 20, 81, 22, 24, 25, 26, 27, 28, 29, 30, 31, 32, 33, 82, 83, 84, 85, 86, 87, 88, 89, 90, 91, 92, 93, 94] (by decide +kernel) (by decide +kernel)) (goodIn_sub (fun _ h => List.mem_cons_of_mem _ (List.mem_append_right _ h)) (by decide +kernel))
set_option maxRecDepth 20000 in
theorem gL_cells_X3_sibling : GoodIn wsL_cells (wsV RL 32 RX3 yX3_sibling wsX3_sibling) := goodIn_app (goodIn_of _ (by decide +kernel)) ggL_cells_X3_sibling
theorem dL_cells_0 : decode cL_cells 0 = .ok (.ldc2_w 9, 3) := by decide +kernel
theorem dL_cells_3 : decode cL_cells 3 = .ok (.lstore_n 2, 1) := by decide +kernel
theorem dL_cells_4 : decode cL_cells 4 = .ok (.iconst 0, 1) := by decide +kernel
theorem dL_cells_5 : decode cL_cells 5 = .ok (.istore 4, 2) := by decide +kernel
theorem dL_cells_7 : decode cL_cells 7 = .ok (.iload 4, 2) := by decide +kernel
theorem dL_cells_9 : decode cL_cells 9 = .ok (.bipush 6, 2) := by decide +kernel
theorem dL_cells_11 : decode cL_cells 11 = .ok (.if_icmp .ge 110, 3) := by decide +kernel
theorem dL_cells_14 : decode cL_cells 14 = .ok (.ldc2_w 11, 3) := by decide +kernel
theorem dL_cells_17 : decode cL_cells 17 = .ok (.ldc2_w 11, 3) := by decide +kernel
theorem dL_cells_20 : decode cL_cells 20 = .ok (.ldc2_w 11, 3) := by decide +kernel
theorem dL_cells_23 : decode cL_cells 23 = .ok (.ldc2_w 11, 3) := by decide +kernel
theorem dL_cells_26 : decode cL_cells 26 = .ok (.lload_n 2, 1) := by decide +kernel
theorem dL_cells_27 : decode cL_cells 27 = .ok (.lmul, 1) := by decide +kernel
theorem dL_cells_28 : decode cL_cells 28 = .ok (.aload_n 0, 1) := by decide +kernel
theorem dL_cells_29 : decode cL_cells 29 = .ok (.iload_n 1, 1) := by decide +kernel
theorem dL_cells_30 : decode cL_cells 30 = .ok (.iload 4, 2) := by decide +kernel
theorem dL_cells_32 : decode cL_cells 32 = .ok (.invokevirtual 13, 3) := by decide +kernel
theorem dL_cells_35 : decode cL_cells 35 = .ok (.i2l, 1) := by decide +kernel
theorem dL_cells_36 : decode cL_cells 36 = .ok (.ladd, 1) := by decide +kernel
theorem dL_cells_37 : decode cL_cells 37 = .ok (.lmul, 1) := by decide +kernel
theorem dL_cells_38 : decode cL_cells 38 = .ok (.aload_n 0, 1) := by decide +kernel
theorem dL_cells_39 : decode cL_cells 39 = .ok (.iload_n 1, 1) := by decide +kernel
theorem dL_cells_40 : decode cL_cells 40 = .ok (.iload 4, 2) := by decide +kernel
theorem dL_cells_42 : decode cL_cells 42 = .ok (.invokevirtual 19, 3) := by decide +kernel
theorem dL_cells_45 : decode cL_cells 45 = .ok (.i2l, 1) := by decide +kernel
theorem dL_cells_46 : decode cL_cells 46 = .ok (.ladd, 1) := by decide +kernel
theorem dL_cells_47 : decode cL_cells 47 = .ok (.lmul, 1) := by decide +kernel
theorem dL_cells_48 : decode cL_cells 48 = .ok (.aload_n 0, 1) := by decide +kernel
theorem dL_cells_49 : decode cL_cells 49 = .ok (.iload_n 1, 1) := by decide +kernel
theorem dL_cells_50 : decode cL_cells 50 = .ok (.iload 4, 2) := by decide +kernel
theorem dL_cells_52 : decode cL_cells 52 = .ok (.invokevirtual 22, 3) := by decide +kernel
theorem dL_cells_55 : decode cL_cells 55 = .ok (.i2l, 1) := by decide +kernel
theorem dL_cells_56 : decode cL_cells 56 = .ok (.ladd, 1) := by decide +kernel
theorem dL_cells_57 : decode cL_cells 57 = .ok (.lmul, 1) := by decide +kernel
theorem dL_cells_58 : decode cL_cells 58 = .ok (.aload_n 0, 1) := by decide +kernel
theorem dL_cells_59 : decode cL_cells 59 = .ok (.iload_n 1, 1) := by decide +kernel
theorem dL_cells_60 : decode cL_cells 60 = .ok (.iload 4, 2) := by decide +kernel
theorem dL_cells_62 : decode cL_cells 62 = .ok (.invokevirtual 25, 3) := by decide +kernel
theorem dL_cells_65 : decode cL_cells 65 = .ok (.i2l, 1) := by decide +kernel
theorem dL_cells_66 : decode cL_cells 66 = .ok (.ladd, 1) := by decide +kernel
theorem dL_cells_67 : decode cL_cells 67 = .ok (.lstore_n 2, 1) := by decide +kernel
theorem dL_cells_68 : decode cL_cells 68 = .ok (.iconst 0, 1) := by decide +kernel
theorem dL_cells_69 : decode cL_cells 69 = .ok (.istore 5, 2) := by decide +kernel
theorem dL_cells_71 : decode cL_cells 71 = .ok (.iload 5, 2) := by decide +kernel
theorem dL_cells_73 : decode cL_cells 73 = .ok (.iconst 5, 1) := by decide +kernel
theorem dL_cells_74 : decode cL_cells 74 = .ok (.if_icmp .ge 41, 3) := by decide +kernel
theorem dL_cells_77 : decode cL_cells 77 = .ok (.ldc2_w 11, 3) := by decide +kernel
theorem dL_cells_80 : decode cL_cells 80 = .ok (.ldc2_w 11, 3) := by decide +kernel
theorem dL_cells_83 : decode cL_cells 83 = .ok (.lload_n 2, 1) := by decide +kernel
theorem dL_cells_84 : decode cL_cells 84 = .ok (.lmul, 1) := by decide +kernel
theorem dL_cells_85 : decode cL_cells 85 = .ok (.aload_n 0, 1) := by decide +kernel
theorem dL_cells_86 : decode cL_cells 86 = .ok (.iload_n 1, 1) := by decide +kernel
theorem dL_cells_87 : decode cL_cells 87 = .ok (.iload 4, 2) := by decide +kernel
theorem dL_cells_89 : decode cL_cells 89 = .ok (.iload 5, 2) := by decide +kernel
theorem dL_cells_91 : decode cL_cells 91 = .ok (.invokevirtual 28, 3) := by decide +kernel
theorem dL_cells_94 : decode cL_cells 94 = .ok (.i2l, 1) := by decide +kernel
theorem dL_cells_95 : decode cL_cells 95 = .ok (.ladd, 1) := by decide +kernel
theorem dL_cells_96 : decode cL_cells 96 = .ok (.lmul, 1) := by decide +kernel
theorem dL_cells_97 : decode cL_cells 97 = .ok (.aload_n 0, 1) := by decide +kernel
theorem dL_cells_98 : decode cL_cells 98 = .ok (.iload_n 1, 1) := by decide +kernel
theorem dL_cells_99 : decode cL_cells 99 = .ok (.iload 4, 2) := by decide +kernel
theorem dL_cells_101 : decode cL_cells 101 = .ok (.iload 5, 2) := by decide +kernel
theorem dL_cells_103 : decode cL_cells 103 = .ok (.invokevirtual 32, 3) := by decide +kernel
theorem dL_cells_106 : decode cL_cells 106 = .ok (.i2l, 1) := by decide +kernel
theorem dL_cells_107 : decode cL_cells 107 = .ok (.ladd, 1) := by decide +kernel
theorem dL_cells_108 : decode cL_cells 108 = .ok (.lstore_n 2, 1) := by decide +kernel
theorem dL_cells_109 : decode cL_cells 109 = .ok (.iinc 5 1, 3) := by decide +kernel
theorem dL_cells_112 : decode cL_cells 112 = .ok (.goto (-41), 3) := by decide +kernel
theorem dL_cells_115 : decode cL_cells 115 = .ok (.iinc 4 1, 3) := by decide +kernel
theorem dL_cells_118 : decode cL_cells 118 = .ok (.goto (-111), 3) := by decide +kernel
theorem dL_cells_121 : decode cL_cells 121 = .ok (.lload_n 2, 1) := by decide +kernel
theorem dL_cells_122 : decode cL_cells 122 = .ok (.lreturn, 1) := by decide +kernel
set_option maxRecDepth 20000 in
theorem ggL_told_L_cells : GoodIn wsL_told wsL_cells := goodIn_ca (goodIn_r _ [6, 7, 2, 8, 9, 10, 11, 12, 13, 14, 15, 16, 17, 18, 19, 20, 21, 22, 23, 24, 25, 26, 27, 28, 29, 30, 31, 32, 33, 34, 35, 36, 37, 38, 39, 40, 41, 42, 43, 44, 45, 46, 47, 48, 49, 50, 51, 52, 53, 54, 55, 56, 57, 58, 59, 60, 61, 62, 63, 64, 65, 66, 67, 68, 69, 70, 71, 72, 73, 74, 75, 76, 77, 78, 79, 80, 81, 82, 83, 84, 85, 86, 87, 88, 89, 90, 110, 111, 112, 113, 114, 115, 116, 117, 118] (by decide +kernel) (by decide +kernel)) (goodIn_sub (fun _ h => List.mem_cons_of_mem _ (List.mem_append_left _ (List.mem_append_right _ h))) (by decide +kernel))
set_option maxRecDepth 20000 in
theorem gL_told_L_cells : GoodIn wsL_told (va_wsS RL 37 yL_cells wsL_cells) := goodIn_app (goodIn_of _ (by decide +kernel)) ggL_told_L_cells
set_option maxRecDepth 20000 in
theorem ggL_told_X3_clock : GoodIn wsL_told wsX3_clock := goodIn_ca (goodIn_r _ [94, 13, 14, 15, 11, 16, 17, 18, 110, 111, 112, 113, 114, 115, 116, 117, 118] (by decide +kernel) (by decide +kernel)) (goodIn_sub (fun _ h => List.mem_cons_of_mem _ (List.mem_append_left _ (List.mem_append_right _ h))) (by decide +kernel))
set_option maxRecDepth 20000 in
theorem gL_told_X3_clock : GoodIn wsL_told (wsV RL 43 RX3 yX3_clock wsX3_clock) := goodIn_app (goodIn_of _ (by decide +kernel)) ggL_told_X3_clock
set_option maxRecDepth 20000 in
theorem ggL_told_X3_seen : GoodIn wsL_told wsX3_seen := goodIn_ca (goodIn_r _ [98, 13, 14, 15, 11, 16, 17, 18, 99, 100, 101, 25, 102, 103, 110, 111, 112, 113, 114, 115, 116, 117, 118] (by decide +kernel) (by decide +kernel)) (goodIn_sub (fun _ h => List.mem_cons_of_mem _ (List.mem_append_left _ (List.mem_append_right _ h))) (by decide +kernel))
set_option maxRecDepth 20000 in
theorem gL_told_X3_seen : GoodIn wsL_told (wsV RL 47 RX3 yX3_seen wsX3_seen) := goodIn_app (goodIn_of _ (by decide +kernel)) ggL_told_X3_seen
set_option maxRecDepth 20000 in
theorem ggL_told_X3_latestMerge : GoodIn wsL_told wsX3_latestMerge := goodIn_ca (goodIn_r _ [107, 108, 109, 13, 110, 111, 112, 113, 114, 115, 116, 117, 118] (by decide +kernel) (by decide +kernel)) (goodIn_sub (fun _ h => List.mem_cons_of_mem _ (List.mem_append_right _ h)) (by decide +kernel))
set_option maxRecDepth 20000 in
theorem gL_told_X3_latestMerge : GoodIn wsL_told (wsV RL 50 RX3 yX3_latestMerge wsX3_latestMerge) := goodIn_app (goodIn_of _ (by decide +kernel)) ggL_told_X3_latestMerge
theorem dL_told_0 : decode cL_told 0 = .ok (.ldc2_w 35, 3) := by decide +kernel
theorem dL_told_3 : decode cL_told 3 = .ok (.lstore_n 1, 1) := by decide +kernel
theorem dL_told_4 : decode cL_told 4 = .ok (.iconst 0, 1) := by decide +kernel
theorem dL_told_5 : decode cL_told 5 = .ok (.istore_n 3, 1) := by decide +kernel
theorem dL_told_6 : decode cL_told 6 = .ok (.iload_n 3, 1) := by decide +kernel
theorem dL_told_7 : decode cL_told 7 = .ok (.iconst 4, 1) := by decide +kernel
theorem dL_told_8 : decode cL_told 8 = .ok (.if_icmp .ge 74, 3) := by decide +kernel
theorem dL_told_11 : decode cL_told 11 = .ok (.ldc2_w 11, 3) := by decide +kernel
theorem dL_told_14 : decode cL_told 14 = .ok (.ldc2_w 11, 3) := by decide +kernel
theorem dL_told_17 : decode cL_told 17 = .ok (.lload_n 1, 1) := by decide +kernel
theorem dL_told_18 : decode cL_told 18 = .ok (.lmul, 1) := by decide +kernel
theorem dL_told_19 : decode cL_told 19 = .ok (.aload_n 0, 1) := by decide +kernel
theorem dL_told_20 : decode cL_told 20 = .ok (.iload_n 3, 1) := by decide +kernel
theorem dL_told_21 : decode cL_told 21 = .ok (.invokestatic 37, 3) := by decide +kernel
theorem dL_told_24 : decode cL_told 24 = .ok (.ladd, 1) := by decide +kernel
theorem dL_told_25 : decode cL_told 25 = .ok (.lmul, 1) := by decide +kernel
theorem dL_told_26 : decode cL_told 26 = .ok (.aload_n 0, 1) := by decide +kernel
theorem dL_told_27 : decode cL_told 27 = .ok (.iload_n 3, 1) := by decide +kernel
theorem dL_told_28 : decode cL_told 28 = .ok (.invokevirtual 43, 3) := by decide +kernel
theorem dL_told_31 : decode cL_told 31 = .ok (.i2l, 1) := by decide +kernel
theorem dL_told_32 : decode cL_told 32 = .ok (.ladd, 1) := by decide +kernel
theorem dL_told_33 : decode cL_told 33 = .ok (.lstore_n 1, 1) := by decide +kernel
theorem dL_told_34 : decode cL_told 34 = .ok (.iconst 0, 1) := by decide +kernel
theorem dL_told_35 : decode cL_told 35 = .ok (.istore 4, 2) := by decide +kernel
theorem dL_told_37 : decode cL_told 37 = .ok (.iload 4, 2) := by decide +kernel
theorem dL_told_39 : decode cL_told 39 = .ok (.iconst 4, 1) := by decide +kernel
theorem dL_told_40 : decode cL_told 40 = .ok (.if_icmp .ge 36, 3) := by decide +kernel
theorem dL_told_43 : decode cL_told 43 = .ok (.ldc2_w 11, 3) := by decide +kernel
theorem dL_told_46 : decode cL_told 46 = .ok (.ldc2_w 11, 3) := by decide +kernel
theorem dL_told_49 : decode cL_told 49 = .ok (.lload_n 1, 1) := by decide +kernel
theorem dL_told_50 : decode cL_told 50 = .ok (.lmul, 1) := by decide +kernel
theorem dL_told_51 : decode cL_told 51 = .ok (.aload_n 0, 1) := by decide +kernel
theorem dL_told_52 : decode cL_told 52 = .ok (.iload_n 3, 1) := by decide +kernel
theorem dL_told_53 : decode cL_told 53 = .ok (.iload 4, 2) := by decide +kernel
theorem dL_told_55 : decode cL_told 55 = .ok (.invokevirtual 47, 3) := by decide +kernel
theorem dL_told_58 : decode cL_told 58 = .ok (.i2l, 1) := by decide +kernel
theorem dL_told_59 : decode cL_told 59 = .ok (.ladd, 1) := by decide +kernel
theorem dL_told_60 : decode cL_told 60 = .ok (.lmul, 1) := by decide +kernel
theorem dL_told_61 : decode cL_told 61 = .ok (.aload_n 0, 1) := by decide +kernel
theorem dL_told_62 : decode cL_told 62 = .ok (.iload 4, 2) := by decide +kernel
theorem dL_told_64 : decode cL_told 64 = .ok (.invokevirtual 50, 3) := by decide +kernel
theorem dL_told_67 : decode cL_told 67 = .ok (.i2l, 1) := by decide +kernel
theorem dL_told_68 : decode cL_told 68 = .ok (.ladd, 1) := by decide +kernel
theorem dL_told_69 : decode cL_told 69 = .ok (.lstore_n 1, 1) := by decide +kernel
theorem dL_told_70 : decode cL_told 70 = .ok (.iinc 4 1, 3) := by decide +kernel
theorem dL_told_73 : decode cL_told 73 = .ok (.goto (-36), 3) := by decide +kernel
theorem dL_told_76 : decode cL_told 76 = .ok (.iinc 3 1, 3) := by decide +kernel
theorem dL_told_79 : decode cL_told 79 = .ok (.goto (-73), 3) := by decide +kernel
theorem dL_told_82 : decode cL_told 82 = .ok (.lload_n 1, 1) := by decide +kernel
theorem dL_told_83 : decode cL_told 83 = .ok (.lreturn, 1) := by decide +kernel
set_option maxRecDepth 20000 in
theorem ggL_updates_L_up : GoodIn wsL_updates wsL_up := goodIn_r _ [6, 7] (by decide +kernel) (by decide +kernel)
set_option maxRecDepth 20000 in
theorem gL_updates_L_up : GoodIn wsL_updates (va_wsS RL 53 yL_up wsL_up) := goodIn_app (goodIn_of _ (by decide +kernel)) ggL_updates_L_up
set_option maxRecDepth 20000 in
theorem ggL_updates_X3_clock : GoodIn wsL_updates wsX3_clock := goodIn_ca (goodIn_r _ [12, 13, 14, 15, 11, 16, 17, 18, 214, 215, 216, 217, 218, 219, 220, 221, 222] (by decide +kernel) (by decide +kernel)) (goodIn_sub (fun _ h => List.mem_cons_of_mem _ (List.mem_append_left _ (List.mem_append_right _ h))) (by decide +kernel))
set_option maxRecDepth 20000 in
theorem gL_updates_X3_clock : GoodIn wsL_updates (wsV RL 43 RX3 yX3_clock wsX3_clock) := goodIn_app (goodIn_of _ (by decide +kernel)) ggL_updates_X3_clock
set_option maxRecDepth 20000 in
theorem ggL_updates_X3_seen : GoodIn wsL_updates wsX3_seen := goodIn_ca (goodIn_r _ [22, 13, 14, 15, 11, 16, 17, 18, 23, 24, 25, 26, 27, 28, 214, 215, 216, 217, 218, 219, 220, 221, 222] (by decide +kernel) (by decide +kernel)) (goodIn_sub (fun _ h => List.mem_cons_of_mem _ (List.mem_append_left _ (List.mem_append_right _ h))) (by decide +kernel))
set_option maxRecDepth 20000 in
theorem gL_updates_X3_seen : GoodIn wsL_updates (wsV RL 47 RX3 yX3_seen wsX3_seen) := goodIn_app (goodIn_of _ (by decide +kernel)) ggL_updates_X3_seen
set_option maxRecDepth 20000 in
theorem ggL_updates_L_cells : GoodIn wsL_updates wsL_cells := goodIn_ca (goodIn_r _ [31, 32, 33, 34, 35, 36, 11, 37, 13, 14, 15, 16, 17, 18, 38, 39, 40, 41, 42, 43, 26, 44, 45, 46, 47, 48, 49, 50, 51, 52, 53, 54, 55, 56, 57, 58, 59, 60, 61, 62, 63, 64, 65, 66, 67, 68, 69, 70, 71, 72, 73, 74, 75, 76, 77, 78, 79, 80, 81, 82, 83, 84, 85, 86, 87, 88, 89, 90, 91, 92, 93, 94, 95, 96, 97, 98, 99, 100, 101, 102, 103, 104, 105, 106, 107, 108, 214, 215, 216, 217, 218, 219, 220, 221, 222] (by decide +kernel) (by decide +kernel)) (goodIn_sub (fun _ h => List.mem_cons_of_mem _ (List.mem_append_left _ (List.mem_append_right _ h))) (by decide +kernel))
set_option maxRecDepth 20000 in
theorem gL_updates_L_cells : GoodIn wsL_updates (va_wsS RL 37 yL_cells wsL_cells) := goodIn_app (goodIn_of _ (by decide +kernel)) ggL_updates_L_cells
set_option maxRecDepth 20000 in
theorem ggL_updates_X3_entries : GoodIn wsL_updates wsX3_entries := goodIn_ca (goodIn_r _ [88, 17, 18, 13, 14, 15, 11, 16, 38, 39, 40, 89, 90, 91, 26, 92, 48, 49, 50, 51, 52, 53, 54, 55, 56, 93, 94, 95, 96, 45, 214, 215, 216, 217, 218, 219, 220, 221, 222] (by decide +kernel) (by decide +kernel)) (goodIn_sub (fun _ h => List.mem_cons_of_mem _ (List.mem_append_left _ (List.mem_append_right _ h))) (by decide +kernel))
set_option maxRecDepth 20000 in
theorem gL_updates_X3_entries : GoodIn wsL_updates (wsV RL 28 RX3 yX3_entries wsX3_entries) := goodIn_app (goodIn_of _ (by decide +kernel)) ggL_updates_X3_entries
set_option maxRecDepth 20000 in
theorem ggL_updates_X3_put : GoodIn wsL_updates wsX3_put := goodIn_ca (goodIn_ca (goodIn_r _ [112, 17, 18, 113, 114, 115, 13, 14, 15, 11, 16, 38, 39, 40, 116, 117, 118, 119, 120, 121, 122, 123, 124, 125, 26, 126, 127, 128, 129, 130, 131, 45, 46, 47, 28, 132, 133, 134, 135, 136, 137, 138, 139, 140, 141, 142, 143, 144, 145, 65, 66, 67, 68, 146, 147, 148, 149, 150, 62, 63, 64, 54, 55, 56, 51, 52, 53, 48, 49, 50, 151, 152, 153, 154, 155, 156, 157, 158, 93, 94, 95, 96, 159, 160, 161, 162, 163, 24, 25, 27, 214, 215, 216, 223, 224, 225, 217, 218, 219, 220, 221, 222] (by decide +kernel) (by decide +kernel)) (goodIn_sub (fun _ h => List.mem_cons_of_mem _ (List.mem_append_left _ (List.mem_append_right _ h))) (by decide +kernel))) (goodIn_sub (fun _ h => List.mem_cons_of_mem _ (List.mem_append_right _ h)) (by decide +kernel))
set_option maxRecDepth 20000 in
theorem gL_updates_X3_put : GoodIn wsL_updates (wsV RL 60 RX3 yX3_put wsX3_put) := goodIn_app (goodIn_of _ (by decide +kernel)) ggL_updates_X3_put
set_option maxRecDepth 20000 in
theorem ggL_updates_X3_latest : GoodIn wsL_updates wsX3_latest := goodIn_ca (goodIn_r _ [37, 13, 14, 15, 11, 16, 17, 18, 38, 39, 40, 41, 42, 43, 26, 44, 45, 46, 47, 48, 49, 50, 51, 52, 53, 54, 55, 56, 214, 215, 216, 217, 218, 219, 220, 221, 222] (by decide +kernel) (by decide +kernel)) (goodIn_sub (fun _ h => List.mem_cons_of_mem _ (List.mem_append_left _ (List.mem_append_right _ h))) (by decide +kernel))
set_option maxRecDepth 20000 in
theorem gL_updates_X3_latest : GoodIn wsL_updates (wsV RL 13 RX3 yX3_latest wsX3_latest) := goodIn_app (goodIn_of _ (by decide +kernel)) ggL_updates_X3_latest
set_option maxRecDepth 20000 in
theorem ggL_updates_X3_sibling : GoodIn wsL_updates wsX3_sibling := goodIn_ca (goodIn_r _ [100, 17, 18, 13, 14, 15, 11, 16, 38, 39, 40, 101, 102, 103, 26, 104, 45, 47, 48, 49, 50, 51, 52, 53, 54, 55, 56, 105, 106, 107, 108, 214, 215, 216, 217, 218, 219, 220, 221, 222] (by decide +kernel) (by decide +kernel)) (goodIn_sub (fun _ h => List.mem_cons_of_mem _ (List.mem_append_left _ (List.mem_append_right _ h))) (by decide +kernel))
set_option maxRecDepth 20000 in
theorem gL_updates_X3_sibling : GoodIn wsL_updates (wsV RL 32 RX3 yX3_sibling wsX3_sibling) := goodIn_app (goodIn_of _ (by decide +kernel)) ggL_updates_X3_sibling
set_option maxRecDepth 20000 in
theorem ggL_updates_X3_mean : GoodIn wsL_updates wsX3_mean := goodIn_ca (goodIn_r _ [167, 13, 14, 15, 11, 16, 17, 18, 38, 39, 40, 89, 90, 91, 26, 92, 48, 49, 50, 51, 52, 53, 54, 55, 56, 93, 94, 95, 96, 45, 73, 74, 75, 76, 47, 214, 215, 216, 217, 218, 219, 220, 221, 222] (by decide +kernel) (by decide +kernel)) (goodIn_sub (fun _ h => List.mem_cons_of_mem _ (List.mem_append_left _ (List.mem_append_right _ h))) (by decide +kernel))
set_option maxRecDepth 20000 in
theorem gL_updates_X3_mean : GoodIn wsL_updates (wsV RL 64 RX3 yX3_mean wsX3_mean) := goodIn_app (goodIn_of _ (by decide +kernel)) ggL_updates_X3_mean
set_option maxRecDepth 20000 in
theorem ggL_updates_X3_greatest : GoodIn wsL_updates wsX3_greatest := goodIn_ca (goodIn_r _ [60, 13, 14, 15, 11, 16, 17, 18, 38, 39, 40, 61, 62, 63, 26, 64, 45, 47, 65, 66, 67, 68, 54, 55, 56, 51, 52, 53, 48, 49, 50, 214, 215, 216, 217, 218, 219, 220, 221, 222] (by decide +kernel) (by decide +kernel)) (goodIn_sub (fun _ h => List.mem_cons_of_mem _ (List.mem_append_left _ (List.mem_append_right _ h))) (by decide +kernel))
set_option maxRecDepth 20000 in
theorem gL_updates_X3_greatest : GoodIn wsL_updates (wsV RL 19 RX3 yX3_greatest wsX3_greatest) := goodIn_app (goodIn_of _ (by decide +kernel)) ggL_updates_X3_greatest
set_option maxRecDepth 20000 in
theorem ggL_updates_X3_counter : GoodIn wsL_updates wsX3_counter := goodIn_ca (goodIn_r _ [72, 13, 14, 15, 11, 16, 17, 18, 38, 39, 40, 73, 74, 75, 26, 76, 45, 47, 54, 55, 56, 51, 52, 53, 48, 49, 50, 214, 215, 216, 217, 218, 219, 220, 221, 222] (by decide +kernel) (by decide +kernel)) (goodIn_sub (fun _ h => List.mem_cons_of_mem _ (List.mem_append_left _ (List.mem_append_right _ h))) (by decide +kernel))
set_option maxRecDepth 20000 in
theorem gL_updates_X3_counter : GoodIn wsL_updates (wsV RL 22 RX3 yX3_counter wsX3_counter) := goodIn_app (goodIn_of _ (by decide +kernel)) ggL_updates_X3_counter
set_option maxRecDepth 20000 in
theorem ggL_updates_X3_add : GoodIn wsL_updates wsX3_add := goodIn_ca (goodIn_ca (goodIn_r _ [171, 113, 114, 115, 13, 14, 15, 11, 16, 17, 18, 38, 39, 40, 116, 117, 118, 119, 120, 121, 122, 123, 124, 125, 26, 126, 127, 128, 129, 130, 131, 45, 46, 47, 28, 132, 133, 134, 135, 136, 137, 138, 139, 140, 141, 172, 173, 174, 175, 146, 147, 148, 149, 51, 52, 53, 159, 160, 161, 162, 163, 24, 25, 27, 73, 74, 75, 76, 54, 55, 56, 48, 49, 50, 214, 215, 216, 223, 224, 225, 217, 218, 219, 220, 221, 222] (by decide +kernel) (by decide +kernel)) (goodIn_sub (fun _ h => List.mem_cons_of_mem _ (List.mem_append_right _ h)) (by decide +kernel))) (goodIn_sub (fun _ h => List.mem_cons_of_mem _ (List.mem_append_left _ (List.mem_append_right _ h))) (by decide +kernel))
set_option maxRecDepth 20000 in
theorem gL_updates_X3_add : GoodIn wsL_updates (wsV RL 68 RX3 yX3_add wsX3_add) := goodIn_app (goodIn_of _ (by decide +kernel)) ggL_updates_X3_add
set_option maxRecDepth 20000 in
theorem ggL_updates_X3_elements : GoodIn wsL_updates wsX3_elements := goodIn_ca (goodIn_r _ [80, 13, 14, 15, 11, 16, 17, 18, 38, 39, 40, 81, 82, 83, 26, 84, 45, 47, 54, 55, 56, 51, 52, 53, 48, 49, 50, 214, 215, 216, 217, 218, 219, 220, 221, 222] (by decide +kernel) (by decide +kernel)) (goodIn_sub (fun _ h => List.mem_cons_of_mem _ (List.mem_append_left _ (List.mem_append_right _ h))) (by decide +kernel))
set_option maxRecDepth 20000 in
theorem gL_updates_X3_elements : GoodIn wsL_updates (wsV RL 25 RX3 yX3_elements wsX3_elements) := goodIn_app (goodIn_of _ (by decide +kernel)) ggL_updates_X3_elements
set_option maxRecDepth 20000 in
theorem ggL_updates_X3_include : GoodIn wsL_updates wsX3_include := goodIn_ca (goodIn_ca (goodIn_r _ [179, 115, 13, 14, 15, 11, 16, 17, 18, 38, 39, 40, 180, 181, 182, 113, 114, 116, 117, 118, 119, 120, 121, 122, 123, 124, 125, 26, 126, 127, 128, 129, 130, 131, 45, 46, 47, 28, 132, 133, 134, 135, 136, 137, 138, 139, 140, 141, 183, 184, 185, 186, 146, 147, 148, 149, 187, 188, 189, 151, 152, 153, 154, 51, 52, 53, 155, 156, 157, 158, 93, 94, 95, 96, 159, 160, 161, 162, 163, 24, 25, 27, 214, 215, 216, 223, 224, 225, 217, 218, 219, 220, 221, 222] (by decide +kernel) (by decide +kernel)) (goodIn_sub (fun _ h => List.mem_cons_of_mem _ (List.mem_append_left _ (List.mem_append_right _ h))) (by decide +kernel))) (goodIn_sub (fun _ h => List.mem_cons_of_mem _ (List.mem_append_right _ h)) (by decide +kernel))
set_option maxRecDepth 20000 in
theorem gL_updates_X3_include : GoodIn wsL_updates (wsV RL 71 RX3 yX3_include wsX3_include) := goodIn_app (goodIn_of _ (by decide +kernel)) ggL_updates_X3_include
set_option maxRecDepth 20000 in
theorem ggL_updates_X3_exclude : GoodIn wsL_updates wsX3_exclude := goodIn_ca (goodIn_ca (goodIn_r _ [193, 115, 13, 14, 15, 11, 16, 17, 18, 38, 39, 40, 180, 181, 182, 113, 114, 116, 117, 118, 119, 120, 121, 122, 123, 124, 125, 26, 126, 127, 128, 129, 130, 131, 45, 46, 47, 28, 132, 133, 134, 135, 136, 137, 138, 139, 140, 141, 194, 195, 196, 197, 146, 147, 148, 149, 187, 188, 189, 151, 152, 153, 154, 51, 52, 53, 155, 156, 157, 158, 93, 94, 95, 96, 214, 215, 216, 223, 224, 225, 217, 218, 219, 220, 221, 222] (by decide +kernel) (by decide +kernel)) (goodIn_sub (fun _ h => List.mem_cons_of_mem _ (List.mem_append_left _ (List.mem_append_right _ h))) (by decide +kernel))) (goodIn_sub (fun _ h => List.mem_cons_of_mem _ (List.mem_append_right _ h)) (by decide +kernel))
set_option maxRecDepth 20000 in
theorem gL_updates_X3_exclude : GoodIn wsL_updates (wsV RL 74 RX3 yX3_exclude wsX3_exclude) := goodIn_app (goodIn_of _ (by decide +kernel)) ggL_updates_X3_exclude
set_option maxRecDepth 20000 in
theorem ggL_updates_X3_exists : GoodIn wsL_updates wsX3_exists := goodIn_ca (goodIn_r _ [201, 13, 14, 15, 11, 16, 17, 18, 38, 39, 40, 202, 203, 204, 26, 205, 51, 52, 53, 93, 94, 95, 96, 45, 214, 215, 216, 217, 218, 219, 220, 221, 222] (by decide +kernel) (by decide +kernel)) (goodIn_sub (fun _ h => List.mem_cons_of_mem _ (List.mem_append_left _ (List.mem_append_right _ h))) (by decide +kernel))
set_option maxRecDepth 20000 in
theorem gL_updates_X3_exists : GoodIn wsL_updates (wsV RL 77 RX3 yX3_exists wsX3_exists) := goodIn_app (goodIn_of _ (by decide +kernel)) ggL_updates_X3_exists
set_option maxRecDepth 20000 in
theorem ggL_updates_X3_delete : GoodIn wsL_updates wsX3_delete := goodIn_ca (goodIn_r _ [209, 115, 13, 14, 15, 11, 16, 17, 18, 38, 39, 40, 116, 117, 118, 119, 120, 121, 122, 123, 124, 125, 26, 126, 127, 128, 129, 130, 131, 45, 46, 47, 28, 132, 133, 134, 135, 136, 137, 138, 139, 140, 141, 210, 211, 212, 213, 146, 147, 148, 149, 51, 52, 53, 155, 156, 157, 158, 93, 94, 95, 96, 214, 215, 216, 223, 224, 225, 217, 218, 219, 220, 221, 222] (by decide +kernel) (by decide +kernel)) (goodIn_sub (fun _ h => List.mem_cons_of_mem _ (List.mem_append_left _ (List.mem_append_right _ h))) (by decide +kernel))
set_option maxRecDepth 20000 in
theorem gL_updates_X3_delete : GoodIn wsL_updates (wsV RL 81 RX3 yX3_delete wsX3_delete) := goodIn_app (goodIn_of _ (by decide +kernel)) ggL_updates_X3_delete
theorem dL_updates_0 : decode cL_updates 0 = .ok (.iload_n 3, 1) := by decide +kernel
theorem dL_updates_1 : decode cL_updates 1 = .ok (.iconst 3, 1) := by decide +kernel
theorem dL_updates_2 : decode cL_updates 2 = .ok (.invokestatic 53, 3) := by decide +kernel
theorem dL_updates_5 : decode cL_updates 5 = .ok (.istore 4, 2) := by decide +kernel
theorem dL_updates_7 : decode cL_updates 7 = .ok (.iload_n 3, 1) := by decide +kernel
theorem dL_updates_8 : decode cL_updates 8 = .ok (.iconst 2, 1) := by decide +kernel
theorem dL_updates_9 : decode cL_updates 9 = .ok (.ishr, 1) := by decide +kernel
theorem dL_updates_10 : decode cL_updates 10 = .ok (.sipush 1000, 3) := by decide +kernel
theorem dL_updates_13 : decode cL_updates 13 = .ok (.invokestatic 53, 3) := by decide +kernel
theorem dL_updates_16 : decode cL_updates 16 = .ok (.istore 5, 2) := by decide +kernel
theorem dL_updates_18 : decode cL_updates 18 = .ok (.iload_n 3, 1) := by decide +kernel
theorem dL_updates_19 : decode cL_updates 19 = .ok (.iconst 2, 1) := by decide +kernel
theorem dL_updates_20 : decode cL_updates 20 = .ok (.ishr, 1) := by decide +kernel
theorem dL_updates_21 : decode cL_updates 21 = .ok (.bipush 6, 2) := by decide +kernel
theorem dL_updates_23 : decode cL_updates 23 = .ok (.invokestatic 53, 3) := by decide +kernel
theorem dL_updates_26 : decode cL_updates 26 = .ok (.istore 6, 2) := by decide +kernel
theorem dL_updates_28 : decode cL_updates 28 = .ok (.iload_n 3, 1) := by decide +kernel
theorem dL_updates_29 : decode cL_updates 29 = .ok (.bipush 12, 2) := by decide +kernel
theorem dL_updates_31 : decode cL_updates 31 = .ok (.ishr, 1) := by decide +kernel
theorem dL_updates_32 : decode cL_updates 32 = .ok (.iconst 1, 1) := by decide +kernel
theorem dL_updates_33 : decode cL_updates 33 = .ok (.iand, 1) := by decide +kernel
theorem dL_updates_34 : decode cL_updates 34 = .ok (.ifCond .ne 16, 3) := by decide +kernel
theorem dL_updates_37 : decode cL_updates 37 = .ok (.iconst 1, 1) := by decide +kernel
theorem dL_updates_38 : decode cL_updates 38 = .ok (.iload_n 3, 1) := by decide +kernel
theorem dL_updates_39 : decode cL_updates 39 = .ok (.iconst 2, 1) := by decide +kernel
theorem dL_updates_40 : decode cL_updates 40 = .ok (.ishr, 1) := by decide +kernel
theorem dL_updates_41 : decode cL_updates 41 = .ok (.bipush 99, 2) := by decide +kernel
theorem dL_updates_43 : decode cL_updates 43 = .ok (.invokestatic 53, 3) := by decide +kernel
theorem dL_updates_46 : decode cL_updates 46 = .ok (.iadd, 1) := by decide +kernel
theorem dL_updates_47 : decode cL_updates 47 = .ok (.goto 13, 3) := by decide +kernel
theorem dL_updates_50 : decode cL_updates 50 = .ok (.iconst (-1), 1) := by decide +kernel
theorem dL_updates_51 : decode cL_updates 51 = .ok (.iload_n 3, 1) := by decide +kernel
theorem dL_updates_52 : decode cL_updates 52 = .ok (.iconst 2, 1) := by decide +kernel
theorem dL_updates_53 : decode cL_updates 53 = .ok (.ishr, 1) := by decide +kernel
theorem dL_updates_54 : decode cL_updates 54 = .ok (.bipush 99, 2) := by decide +kernel
theorem dL_updates_56 : decode cL_updates 56 = .ok (.invokestatic 53, 3) := by decide +kernel
theorem dL_updates_59 : decode cL_updates 59 = .ok (.isub, 1) := by decide +kernel
theorem dL_updates_60 : decode cL_updates 60 = .ok (.istore 7, 2) := by decide +kernel
theorem dL_updates_62 : decode cL_updates 62 = .ok (.aload_n 0, 1) := by decide +kernel
theorem dL_updates_63 : decode cL_updates 63 = .ok (.iload_n 1, 1) := by decide +kernel
theorem dL_updates_64 : decode cL_updates 64 = .ok (.invokevirtual 43, 3) := by decide +kernel
theorem dL_updates_67 : decode cL_updates 67 = .ok (.istore 8, 2) := by decide +kernel
theorem dL_updates_69 : decode cL_updates 69 = .ok (.aload_n 0, 1) := by decide +kernel
theorem dL_updates_70 : decode cL_updates 70 = .ok (.iload_n 1, 1) := by decide +kernel
theorem dL_updates_71 : decode cL_updates 71 = .ok (.iload_n 1, 1) := by decide +kernel
theorem dL_updates_72 : decode cL_updates 72 = .ok (.invokevirtual 47, 3) := by decide +kernel
theorem dL_updates_75 : decode cL_updates 75 = .ok (.istore 9, 2) := by decide +kernel
theorem dL_updates_77 : decode cL_updates 77 = .ok (.aload_n 0, 1) := by decide +kernel
theorem dL_updates_78 : decode cL_updates 78 = .ok (.iload_n 1, 1) := by decide +kernel
theorem dL_updates_79 : decode cL_updates 79 = .ok (.iconst 1, 1) := by decide +kernel
theorem dL_updates_80 : decode cL_updates 80 = .ok (.iadd, 1) := by decide +kernel
theorem dL_updates_81 : decode cL_updates 81 = .ok (.iconst 4, 1) := by decide +kernel
theorem dL_updates_82 : decode cL_updates 82 = .ok (.irem, 1) := by decide +kernel
theorem dL_updates_83 : decode cL_updates 83 = .ok (.invokestatic 37, 3) := by decide +kernel
theorem dL_updates_86 : decode cL_updates 86 = .ok (.ldc2_w 56, 3) := by decide +kernel
theorem dL_updates_89 : decode cL_updates 89 = .ok (.aload_n 0, 1) := by decide +kernel
theorem dL_updates_90 : decode cL_updates 90 = .ok (.iload_n 1, 1) := by decide +kernel
theorem dL_updates_91 : decode cL_updates 91 = .ok (.iconst 2, 1) := by decide +kernel
theorem dL_updates_92 : decode cL_updates 92 = .ok (.iadd, 1) := by decide +kernel
theorem dL_updates_93 : decode cL_updates 93 = .ok (.iconst 4, 1) := by decide +kernel
theorem dL_updates_94 : decode cL_updates 94 = .ok (.irem, 1) := by decide +kernel
theorem dL_updates_95 : decode cL_updates 95 = .ok (.invokestatic 37, 3) := by decide +kernel
theorem dL_updates_98 : decode cL_updates 98 = .ok (.lmul, 1) := by decide +kernel
theorem dL_updates_99 : decode cL_updates 99 = .ok (.ladd, 1) := by decide +kernel
theorem dL_updates_100 : decode cL_updates 100 = .ok (.ldc2_w 58, 3) := by decide +kernel
theorem dL_updates_103 : decode cL_updates 103 = .ok (.aload_n 0, 1) := by decide +kernel
theorem dL_updates_104 : decode cL_updates 104 = .ok (.iload_n 1, 1) := by decide +kernel
theorem dL_updates_105 : decode cL_updates 105 = .ok (.iconst 3, 1) := by decide +kernel
theorem dL_updates_106 : decode cL_updates 106 = .ok (.iadd, 1) := by decide +kernel
theorem dL_updates_107 : decode cL_updates 107 = .ok (.iconst 4, 1) := by decide +kernel
theorem dL_updates_108 : decode cL_updates 108 = .ok (.irem, 1) := by decide +kernel
theorem dL_updates_109 : decode cL_updates 109 = .ok (.invokestatic 37, 3) := by decide +kernel
theorem dL_updates_112 : decode cL_updates 112 = .ok (.lmul, 1) := by decide +kernel
theorem dL_updates_113 : decode cL_updates 113 = .ok (.ladd, 1) := by decide +kernel
theorem dL_updates_114 : decode cL_updates 114 = .ok (.lstore 10, 2) := by decide +kernel
theorem dL_updates_116 : decode cL_updates 116 = .ok (.iconst 0, 1) := by decide +kernel
theorem dL_updates_117 : decode cL_updates 117 = .ok (.istore 12, 2) := by decide +kernel
theorem dL_updates_119 : decode cL_updates 119 = .ok (.iconst 0, 1) := by decide +kernel
theorem dL_updates_120 : decode cL_updates 120 = .ok (.istore 13, 2) := by decide +kernel
theorem dL_updates_122 : decode cL_updates 122 = .ok (.iload 13, 2) := by decide +kernel
theorem dL_updates_124 : decode cL_updates 124 = .ok (.iconst 5, 1) := by decide +kernel
theorem dL_updates_125 : decode cL_updates 125 = .ok (.if_icmp .ge 23, 3) := by decide +kernel
theorem dL_updates_128 : decode cL_updates 128 = .ok (.iload 12, 2) := by decide +kernel
theorem dL_updates_130 : decode cL_updates 130 = .ok (.aload_n 0, 1) := by decide +kernel
theorem dL_updates_131 : decode cL_updates 131 = .ok (.iload_n 1, 1) := by decide +kernel
theorem dL_updates_132 : decode cL_updates 132 = .ok (.iload 4, 2) := by decide +kernel
theorem dL_updates_134 : decode cL_updates 134 = .ok (.iload 13, 2) := by decide +kernel
theorem dL_updates_136 : decode cL_updates 136 = .ok (.invokevirtual 28, 3) := by decide +kernel
theorem dL_updates_139 : decode cL_updates 139 = .ok (.iadd, 1) := by decide +kernel
theorem dL_updates_140 : decode cL_updates 140 = .ok (.istore 12, 2) := by decide +kernel
theorem dL_updates_142 : decode cL_updates 142 = .ok (.iinc 13 1, 3) := by decide +kernel
theorem dL_updates_145 : decode cL_updates 145 = .ok (.goto (-23), 3) := by decide +kernel
theorem dL_updates_148 : decode cL_updates 148 = .ok (.iconst 0, 1) := by decide +kernel
theorem dL_updates_149 : decode cL_updates 149 = .ok (.istore 13, 2) := by decide +kernel
end
section
theorem dL_updates_151 : decode cL_updates 151 = .ok (.iload_n 2, 1) := by decide +kernel
theorem dL_updates_152 : decode cL_updates 152 = .ok (.bipush 8, 2) := by decide +kernel
theorem dL_updates_154 : decode cL_updates 154 = .ok (.invokestatic 53, 3) := by decide +kernel
theorem dL_updates_157 : decode cL_updates 157 = .ok (.tableswitch 484 0 6 #[43, 102, 176, 244, 244, 295, 410], 43) := by decide +kernel
theorem dL_updates_200 : decode cL_updates 200 = .ok (.aload_n 0, 1) := by decide +kernel
theorem dL_updates_201 : decode cL_updates 201 = .ok (.iload_n 1, 1) := by decide +kernel
theorem dL_updates_202 : decode cL_updates 202 = .ok (.iload 4, 2) := by decide +kernel
theorem dL_updates_204 : decode cL_updates 204 = .ok (.iconst 0, 1) := by decide +kernel
theorem dL_updates_205 : decode cL_updates 205 = .ok (.invokevirtual 28, 3) := by decide +kernel
theorem dL_updates_208 : decode cL_updates 208 = .ok (.istore 14, 2) := by decide +kernel
theorem dL_updates_210 : decode cL_updates 210 = .ok (.aload_n 0, 1) := by decide +kernel
theorem dL_updates_211 : decode cL_updates 211 = .ok (.iload_n 1, 1) := by decide +kernel
theorem dL_updates_212 : decode cL_updates 212 = .ok (.iload 4, 2) := by decide +kernel
theorem dL_updates_214 : decode cL_updates 214 = .ok (.iconst 0, 1) := by decide +kernel
theorem dL_updates_215 : decode cL_updates 215 = .ok (.iload 5, 2) := by decide +kernel
theorem dL_updates_217 : decode cL_updates 217 = .ok (.invokevirtual 60, 3) := by decide +kernel
theorem dL_updates_220 : decode cL_updates 220 = .ok (.iload 14, 2) := by decide +kernel
theorem dL_updates_222 : decode cL_updates 222 = .ok (.if_icmp .ne 31, 3) := by decide +kernel
theorem dL_updates_225 : decode cL_updates 225 = .ok (.aload_n 0, 1) := by decide +kernel
theorem dL_updates_226 : decode cL_updates 226 = .ok (.iload_n 1, 1) := by decide +kernel
theorem dL_updates_227 : decode cL_updates 227 = .ok (.iload 4, 2) := by decide +kernel
theorem dL_updates_229 : decode cL_updates 229 = .ok (.invokevirtual 13, 3) := by decide +kernel
theorem dL_updates_232 : decode cL_updates 232 = .ok (.iload 5, 2) := by decide +kernel
theorem dL_updates_234 : decode cL_updates 234 = .ok (.if_icmp .ne 19, 3) := by decide +kernel
theorem dL_updates_237 : decode cL_updates 237 = .ok (.aload_n 0, 1) := by decide +kernel
theorem dL_updates_238 : decode cL_updates 238 = .ok (.iload_n 1, 1) := by decide +kernel
theorem dL_updates_239 : decode cL_updates 239 = .ok (.iload 4, 2) := by decide +kernel
theorem dL_updates_241 : decode cL_updates 241 = .ok (.iconst 0, 1) := by decide +kernel
theorem dL_updates_242 : decode cL_updates 242 = .ok (.invokevirtual 28, 3) := by decide +kernel
theorem dL_updates_245 : decode cL_updates 245 = .ok (.iconst 1, 1) := by decide +kernel
theorem dL_updates_246 : decode cL_updates 246 = .ok (.if_icmp .ne 7, 3) := by decide +kernel
theorem dL_updates_249 : decode cL_updates 249 = .ok (.iconst 1, 1) := by decide +kernel
theorem dL_updates_250 : decode cL_updates 250 = .ok (.goto 4, 3) := by decide +kernel
theorem dL_updates_253 : decode cL_updates 253 = .ok (.iconst 0, 1) := by decide +kernel
theorem dL_updates_254 : decode cL_updates 254 = .ok (.istore 13, 2) := by decide +kernel
theorem dL_updates_256 : decode cL_updates 256 = .ok (.goto 434, 3) := by decide +kernel
theorem dL_updates_259 : decode cL_updates 259 = .ok (.aload_n 0, 1) := by decide +kernel
theorem dL_updates_260 : decode cL_updates 260 = .ok (.iload_n 1, 1) := by decide +kernel
theorem dL_updates_261 : decode cL_updates 261 = .ok (.iload 4, 2) := by decide +kernel
theorem dL_updates_263 : decode cL_updates 263 = .ok (.iconst 1, 1) := by decide +kernel
theorem dL_updates_264 : decode cL_updates 264 = .ok (.invokevirtual 28, 3) := by decide +kernel
theorem dL_updates_267 : decode cL_updates 267 = .ok (.istore 15, 2) := by decide +kernel
theorem dL_updates_269 : decode cL_updates 269 = .ok (.aload_n 0, 1) := by decide +kernel
theorem dL_updates_270 : decode cL_updates 270 = .ok (.iload_n 1, 1) := by decide +kernel
theorem dL_updates_271 : decode cL_updates 271 = .ok (.iload 4, 2) := by decide +kernel
theorem dL_updates_273 : decode cL_updates 273 = .ok (.iconst 1, 1) := by decide +kernel
theorem dL_updates_274 : decode cL_updates 274 = .ok (.iload 5, 2) := by decide +kernel
theorem dL_updates_276 : decode cL_updates 276 = .ok (.invokevirtual 60, 3) := by decide +kernel
theorem dL_updates_279 : decode cL_updates 279 = .ok (.iload 15, 2) := by decide +kernel
theorem dL_updates_281 : decode cL_updates 281 = .ok (.if_icmp .ne 46, 3) := by decide +kernel
theorem dL_updates_284 : decode cL_updates 284 = .ok (.aload_n 0, 1) := by decide +kernel
theorem dL_updates_285 : decode cL_updates 285 = .ok (.iload_n 1, 1) := by decide +kernel
theorem dL_updates_286 : decode cL_updates 286 = .ok (.iload 4, 2) := by decide +kernel
theorem dL_updates_288 : decode cL_updates 288 = .ok (.iconst 0, 1) := by decide +kernel
theorem dL_updates_289 : decode cL_updates 289 = .ok (.invokevirtual 32, 3) := by decide +kernel
theorem dL_updates_292 : decode cL_updates 292 = .ok (.iload 5, 2) := by decide +kernel
theorem dL_updates_294 : decode cL_updates 294 = .ok (.if_icmp .ne 33, 3) := by decide +kernel
theorem dL_updates_297 : decode cL_updates 297 = .ok (.aload_n 0, 1) := by decide +kernel
theorem dL_updates_298 : decode cL_updates 298 = .ok (.iload_n 1, 1) := by decide +kernel
theorem dL_updates_299 : decode cL_updates 299 = .ok (.iload 4, 2) := by decide +kernel
theorem dL_updates_301 : decode cL_updates 301 = .ok (.iconst 1, 1) := by decide +kernel
theorem dL_updates_302 : decode cL_updates 302 = .ok (.invokevirtual 32, 3) := by decide +kernel
theorem dL_updates_305 : decode cL_updates 305 = .ok (.iconst (-1), 1) := by decide +kernel
theorem dL_updates_306 : decode cL_updates 306 = .ok (.if_icmp .ne 21, 3) := by decide +kernel
theorem dL_updates_309 : decode cL_updates 309 = .ok (.aload_n 0, 1) := by decide +kernel
theorem dL_updates_310 : decode cL_updates 310 = .ok (.iload_n 1, 1) := by decide +kernel
theorem dL_updates_311 : decode cL_updates 311 = .ok (.iload 4, 2) := by decide +kernel
theorem dL_updates_313 : decode cL_updates 313 = .ok (.invokevirtual 64, 3) := by decide +kernel
theorem dL_updates_316 : decode cL_updates 316 = .ok (.iload 5, 2) := by decide +kernel
theorem dL_updates_318 : decode cL_updates 318 = .ok (.i2f, 1) := by decide +kernel
theorem dL_updates_319 : decode cL_updates 319 = .ok (.fcmp .l, 1) := by decide +kernel
theorem dL_updates_320 : decode cL_updates 320 = .ok (.ifCond .ne 7, 3) := by decide +kernel
theorem dL_updates_323 : decode cL_updates 323 = .ok (.iconst 1, 1) := by decide +kernel
theorem dL_updates_324 : decode cL_updates 324 = .ok (.goto 4, 3) := by decide +kernel
theorem dL_updates_327 : decode cL_updates 327 = .ok (.iconst 0, 1) := by decide +kernel
theorem dL_updates_328 : decode cL_updates 328 = .ok (.istore 13, 2) := by decide +kernel
theorem dL_updates_330 : decode cL_updates 330 = .ok (.goto 360, 3) := by decide +kernel
theorem dL_updates_333 : decode cL_updates 333 = .ok (.aload_n 0, 1) := by decide +kernel
theorem dL_updates_334 : decode cL_updates 334 = .ok (.iload_n 1, 1) := by decide +kernel
theorem dL_updates_335 : decode cL_updates 335 = .ok (.iload 4, 2) := by decide +kernel
theorem dL_updates_337 : decode cL_updates 337 = .ok (.invokevirtual 19, 3) := by decide +kernel
theorem dL_updates_340 : decode cL_updates 340 = .ok (.istore 16, 2) := by decide +kernel
theorem dL_updates_342 : decode cL_updates 342 = .ok (.aload_n 0, 1) := by decide +kernel
theorem dL_updates_343 : decode cL_updates 343 = .ok (.iload_n 1, 1) := by decide +kernel
theorem dL_updates_344 : decode cL_updates 344 = .ok (.iload 4, 2) := by decide +kernel
theorem dL_updates_346 : decode cL_updates 346 = .ok (.iconst 2, 1) := by decide +kernel
theorem dL_updates_347 : decode cL_updates 347 = .ok (.iload 5, 2) := by decide +kernel
theorem dL_updates_349 : decode cL_updates 349 = .ok (.invokevirtual 60, 3) := by decide +kernel
theorem dL_updates_352 : decode cL_updates 352 = .ok (.ifCond .lt 43, 3) := by decide +kernel
theorem dL_updates_355 : decode cL_updates 355 = .ok (.aload_n 0, 1) := by decide +kernel
theorem dL_updates_356 : decode cL_updates 356 = .ok (.iload_n 1, 1) := by decide +kernel
theorem dL_updates_357 : decode cL_updates 357 = .ok (.iload 4, 2) := by decide +kernel
theorem dL_updates_359 : decode cL_updates 359 = .ok (.invokevirtual 19, 3) := by decide +kernel
theorem dL_updates_362 : decode cL_updates 362 = .ok (.iload 16, 2) := by decide +kernel
theorem dL_updates_364 : decode cL_updates 364 = .ok (.iload 5, 2) := by decide +kernel
theorem dL_updates_366 : decode cL_updates 366 = .ok (.if_icmp .le 8, 3) := by decide +kernel
theorem dL_updates_369 : decode cL_updates 369 = .ok (.iload 16, 2) := by decide +kernel
theorem dL_updates_371 : decode cL_updates 371 = .ok (.goto 5, 3) := by decide +kernel
theorem dL_updates_374 : decode cL_updates 374 = .ok (.iload 5, 2) := by decide +kernel
theorem dL_updates_376 : decode cL_updates 376 = .ok (.if_icmp .ne 19, 3) := by decide +kernel
theorem dL_updates_379 : decode cL_updates 379 = .ok (.aload_n 0, 1) := by decide +kernel
theorem dL_updates_380 : decode cL_updates 380 = .ok (.iload_n 1, 1) := by decide +kernel
theorem dL_updates_381 : decode cL_updates 381 = .ok (.iload 4, 2) := by decide +kernel
theorem dL_updates_383 : decode cL_updates 383 = .ok (.iconst 2, 1) := by decide +kernel
theorem dL_updates_384 : decode cL_updates 384 = .ok (.invokevirtual 28, 3) := by decide +kernel
theorem dL_updates_387 : decode cL_updates 387 = .ok (.iconst 1, 1) := by decide +kernel
theorem dL_updates_388 : decode cL_updates 388 = .ok (.if_icmp .ne 7, 3) := by decide +kernel
theorem dL_updates_391 : decode cL_updates 391 = .ok (.iconst 1, 1) := by decide +kernel
theorem dL_updates_392 : decode cL_updates 392 = .ok (.goto 4, 3) := by decide +kernel
theorem dL_updates_395 : decode cL_updates 395 = .ok (.iconst 0, 1) := by decide +kernel
theorem dL_updates_396 : decode cL_updates 396 = .ok (.istore 13, 2) := by decide +kernel
theorem dL_updates_398 : decode cL_updates 398 = .ok (.goto 292, 3) := by decide +kernel
theorem dL_updates_401 : decode cL_updates 401 = .ok (.aload_n 0, 1) := by decide +kernel
theorem dL_updates_402 : decode cL_updates 402 = .ok (.iload_n 1, 1) := by decide +kernel
theorem dL_updates_403 : decode cL_updates 403 = .ok (.iload 4, 2) := by decide +kernel
theorem dL_updates_405 : decode cL_updates 405 = .ok (.invokevirtual 22, 3) := by decide +kernel
theorem dL_updates_408 : decode cL_updates 408 = .ok (.istore 17, 2) := by decide +kernel
theorem dL_updates_410 : decode cL_updates 410 = .ok (.aload_n 0, 1) := by decide +kernel
theorem dL_updates_411 : decode cL_updates 411 = .ok (.iload_n 1, 1) := by decide +kernel
theorem dL_updates_412 : decode cL_updates 412 = .ok (.iload 4, 2) := by decide +kernel
theorem dL_updates_414 : decode cL_updates 414 = .ok (.iload 7, 2) := by decide +kernel
theorem dL_updates_416 : decode cL_updates 416 = .ok (.invokevirtual 68, 3) := by decide +kernel
theorem dL_updates_419 : decode cL_updates 419 = .ok (.iload 17, 2) := by decide +kernel
theorem dL_updates_421 : decode cL_updates 421 = .ok (.iload 7, 2) := by decide +kernel
theorem dL_updates_423 : decode cL_updates 423 = .ok (.iadd, 1) := by decide +kernel
theorem dL_updates_424 : decode cL_updates 424 = .ok (.if_icmp .ne 22, 3) := by decide +kernel
theorem dL_updates_427 : decode cL_updates 427 = .ok (.aload_n 0, 1) := by decide +kernel
theorem dL_updates_428 : decode cL_updates 428 = .ok (.iload_n 1, 1) := by decide +kernel
theorem dL_updates_429 : decode cL_updates 429 = .ok (.iload 4, 2) := by decide +kernel
theorem dL_updates_431 : decode cL_updates 431 = .ok (.invokevirtual 22, 3) := by decide +kernel
theorem dL_updates_434 : decode cL_updates 434 = .ok (.iload 17, 2) := by decide +kernel
theorem dL_updates_436 : decode cL_updates 436 = .ok (.iload 7, 2) := by decide +kernel
theorem dL_updates_438 : decode cL_updates 438 = .ok (.iadd, 1) := by decide +kernel
theorem dL_updates_439 : decode cL_updates 439 = .ok (.if_icmp .ne 7, 3) := by decide +kernel
theorem dL_updates_442 : decode cL_updates 442 = .ok (.iconst 1, 1) := by decide +kernel
theorem dL_updates_443 : decode cL_updates 443 = .ok (.goto 4, 3) := by decide +kernel
theorem dL_updates_446 : decode cL_updates 446 = .ok (.iconst 0, 1) := by decide +kernel
theorem dL_updates_447 : decode cL_updates 447 = .ok (.istore 13, 2) := by decide +kernel
theorem dL_updates_449 : decode cL_updates 449 = .ok (.goto 241, 3) := by decide +kernel
theorem dL_updates_452 : decode cL_updates 452 = .ok (.aload_n 0, 1) := by decide +kernel
theorem dL_updates_453 : decode cL_updates 453 = .ok (.iload_n 1, 1) := by decide +kernel
theorem dL_updates_454 : decode cL_updates 454 = .ok (.iload 4, 2) := by decide +kernel
theorem dL_updates_456 : decode cL_updates 456 = .ok (.invokevirtual 25, 3) := by decide +kernel
theorem dL_updates_459 : decode cL_updates 459 = .ok (.istore 18, 2) := by decide +kernel
theorem dL_updates_461 : decode cL_updates 461 = .ok (.aload_n 0, 1) := by decide +kernel
theorem dL_updates_462 : decode cL_updates 462 = .ok (.iload_n 1, 1) := by decide +kernel
theorem dL_updates_463 : decode cL_updates 463 = .ok (.iload 4, 2) := by decide +kernel
theorem dL_updates_465 : decode cL_updates 465 = .ok (.iconst 4, 1) := by decide +kernel
theorem dL_updates_466 : decode cL_updates 466 = .ok (.invokevirtual 28, 3) := by decide +kernel
theorem dL_updates_469 : decode cL_updates 469 = .ok (.istore 19, 2) := by decide +kernel
theorem dL_updates_471 : decode cL_updates 471 = .ok (.aload_n 0, 1) := by decide +kernel
theorem dL_updates_472 : decode cL_updates 472 = .ok (.iload_n 1, 1) := by decide +kernel
theorem dL_updates_473 : decode cL_updates 473 = .ok (.iload 4, 2) := by decide +kernel
theorem dL_updates_475 : decode cL_updates 475 = .ok (.iload 6, 2) := by decide +kernel
theorem dL_updates_477 : decode cL_updates 477 = .ok (.invokevirtual 71, 3) := by decide +kernel
theorem dL_updates_480 : decode cL_updates 480 = .ok (.istore 20, 2) := by decide +kernel
theorem dL_updates_482 : decode cL_updates 482 = .ok (.iload 20, 2) := by decide +kernel
theorem dL_updates_484 : decode cL_updates 484 = .ok (.ifCond .lt 77, 3) := by decide +kernel
theorem dL_updates_487 : decode cL_updates 487 = .ok (.iload 20, 2) := by decide +kernel
theorem dL_updates_489 : decode cL_updates 489 = .ok (.iconst 4, 1) := by decide +kernel
theorem dL_updates_490 : decode cL_updates 490 = .ok (.if_icmp .gt 71, 3) := by decide +kernel
theorem dL_updates_493 : decode cL_updates 493 = .ok (.iload 20, 2) := by decide +kernel
theorem dL_updates_495 : decode cL_updates 495 = .ok (.ifCond .le 7, 3) := by decide +kernel
theorem dL_updates_498 : decode cL_updates 498 = .ok (.iconst 1, 1) := by decide +kernel
theorem dL_updates_499 : decode cL_updates 499 = .ok (.goto 4, 3) := by decide +kernel
theorem dL_updates_502 : decode cL_updates 502 = .ok (.iconst 0, 1) := by decide +kernel
theorem dL_updates_503 : decode cL_updates 503 = .ok (.iload 18, 2) := by decide +kernel
theorem dL_updates_505 : decode cL_updates 505 = .ok (.iload 6, 2) := by decide +kernel
theorem dL_updates_507 : decode cL_updates 507 = .ok (.ishr, 1) := by decide +kernel
theorem dL_updates_508 : decode cL_updates 508 = .ok (.iconst 1, 1) := by decide +kernel
theorem dL_updates_509 : decode cL_updates 509 = .ok (.iand, 1) := by decide +kernel
theorem dL_updates_510 : decode cL_updates 510 = .ok (.iconst 1, 1) := by decide +kernel
theorem dL_updates_511 : decode cL_updates 511 = .ok (.if_icmp .ne 7, 3) := by decide +kernel
theorem dL_updates_514 : decode cL_updates 514 = .ok (.iconst 1, 1) := by decide +kernel
theorem dL_updates_515 : decode cL_updates 515 = .ok (.goto 4, 3) := by decide +kernel
theorem dL_updates_518 : decode cL_updates 518 = .ok (.iconst 0, 1) := by decide +kernel
theorem dL_updates_519 : decode cL_updates 519 = .ok (.if_icmp .ne 42, 3) := by decide +kernel
theorem dL_updates_522 : decode cL_updates 522 = .ok (.aload_n 0, 1) := by decide +kernel
theorem dL_updates_523 : decode cL_updates 523 = .ok (.iload_n 1, 1) := by decide +kernel
theorem dL_updates_524 : decode cL_updates 524 = .ok (.iload 4, 2) := by decide +kernel
theorem dL_updates_526 : decode cL_updates 526 = .ok (.invokevirtual 25, 3) := by decide +kernel
theorem dL_updates_529 : decode cL_updates 529 = .ok (.iload 18, 2) := by decide +kernel
theorem dL_updates_531 : decode cL_updates 531 = .ok (.iconst 1, 1) := by decide +kernel
theorem dL_updates_532 : decode cL_updates 532 = .ok (.iload 6, 2) := by decide +kernel
theorem dL_updates_534 : decode cL_updates 534 = .ok (.ishl, 1) := by decide +kernel
theorem dL_updates_535 : decode cL_updates 535 = .ok (.ior, 1) := by decide +kernel
theorem dL_updates_536 : decode cL_updates 536 = .ok (.if_icmp .ne 25, 3) := by decide +kernel
theorem dL_updates_539 : decode cL_updates 539 = .ok (.aload_n 0, 1) := by decide +kernel
theorem dL_updates_540 : decode cL_updates 540 = .ok (.iload_n 1, 1) := by decide +kernel
theorem dL_updates_541 : decode cL_updates 541 = .ok (.iload 4, 2) := by decide +kernel
theorem dL_updates_543 : decode cL_updates 543 = .ok (.iconst 4, 1) := by decide +kernel
theorem dL_updates_544 : decode cL_updates 544 = .ok (.invokevirtual 28, 3) := by decide +kernel
theorem dL_updates_547 : decode cL_updates 547 = .ok (.iload 19, 2) := by decide +kernel
theorem dL_updates_549 : decode cL_updates 549 = .ok (.iload 20, 2) := by decide +kernel
theorem dL_updates_551 : decode cL_updates 551 = .ok (.isub, 1) := by decide +kernel
theorem dL_updates_552 : decode cL_updates 552 = .ok (.iconst 1, 1) := by decide +kernel
theorem dL_updates_553 : decode cL_updates 553 = .ok (.iadd, 1) := by decide +kernel
theorem dL_updates_554 : decode cL_updates 554 = .ok (.if_icmp .ne 7, 3) := by decide +kernel
theorem dL_updates_557 : decode cL_updates 557 = .ok (.iconst 1, 1) := by decide +kernel
theorem dL_updates_558 : decode cL_updates 558 = .ok (.goto 4, 3) := by decide +kernel
theorem dL_updates_561 : decode cL_updates 561 = .ok (.iconst 0, 1) := by decide +kernel
theorem dL_updates_562 : decode cL_updates 562 = .ok (.istore 13, 2) := by decide +kernel
theorem dL_updates_564 : decode cL_updates 564 = .ok (.goto 126, 3) := by decide +kernel
theorem dL_updates_567 : decode cL_updates 567 = .ok (.aload_n 0, 1) := by decide +kernel
theorem dL_updates_568 : decode cL_updates 568 = .ok (.iload_n 1, 1) := by decide +kernel
theorem dL_updates_569 : decode cL_updates 569 = .ok (.iload 4, 2) := by decide +kernel
theorem dL_updates_571 : decode cL_updates 571 = .ok (.invokevirtual 25, 3) := by decide +kernel
theorem dL_updates_574 : decode cL_updates 574 = .ok (.istore 21, 2) := by decide +kernel
theorem dL_updates_576 : decode cL_updates 576 = .ok (.aload_n 0, 1) := by decide +kernel
theorem dL_updates_577 : decode cL_updates 577 = .ok (.iload_n 1, 1) := by decide +kernel
theorem dL_updates_578 : decode cL_updates 578 = .ok (.iload 4, 2) := by decide +kernel
theorem dL_updates_580 : decode cL_updates 580 = .ok (.iload 6, 2) := by decide +kernel
theorem dL_updates_582 : decode cL_updates 582 = .ok (.invokevirtual 74, 3) := by decide +kernel
theorem dL_updates_585 : decode cL_updates 585 = .ok (.ifCond .le 7, 3) := by decide +kernel
theorem dL_updates_588 : decode cL_updates 588 = .ok (.iconst 1, 1) := by decide +kernel
theorem dL_updates_589 : decode cL_updates 589 = .ok (.goto 4, 3) := by decide +kernel
theorem dL_updates_592 : decode cL_updates 592 = .ok (.iconst 0, 1) := by decide +kernel
theorem dL_updates_593 : decode cL_updates 593 = .ok (.iload 21, 2) := by decide +kernel
theorem dL_updates_595 : decode cL_updates 595 = .ok (.iload 6, 2) := by decide +kernel
theorem dL_updates_597 : decode cL_updates 597 = .ok (.ishr, 1) := by decide +kernel
theorem dL_updates_598 : decode cL_updates 598 = .ok (.iconst 1, 1) := by decide +kernel
theorem dL_updates_599 : decode cL_updates 599 = .ok (.iand, 1) := by decide +kernel
theorem dL_updates_600 : decode cL_updates 600 = .ok (.iconst 1, 1) := by decide +kernel
theorem dL_updates_601 : decode cL_updates 601 = .ok (.if_icmp .ne 7, 3) := by decide +kernel
theorem dL_updates_604 : decode cL_updates 604 = .ok (.iconst 1, 1) := by decide +kernel
theorem dL_updates_605 : decode cL_updates 605 = .ok (.goto 4, 3) := by decide +kernel
theorem dL_updates_608 : decode cL_updates 608 = .ok (.iconst 0, 1) := by decide +kernel
theorem dL_updates_609 : decode cL_updates 609 = .ok (.if_icmp .ne 26, 3) := by decide +kernel
theorem dL_updates_612 : decode cL_updates 612 = .ok (.aload_n 0, 1) := by decide +kernel
theorem dL_updates_613 : decode cL_updates 613 = .ok (.iload_n 1, 1) := by decide +kernel
theorem dL_updates_614 : decode cL_updates 614 = .ok (.iload 4, 2) := by decide +kernel
theorem dL_updates_616 : decode cL_updates 616 = .ok (.invokevirtual 25, 3) := by decide +kernel
theorem dL_updates_619 : decode cL_updates 619 = .ok (.iload 21, 2) := by decide +kernel
theorem dL_updates_621 : decode cL_updates 621 = .ok (.iconst 1, 1) := by decide +kernel
theorem dL_updates_622 : decode cL_updates 622 = .ok (.iload 6, 2) := by decide +kernel
theorem dL_updates_624 : decode cL_updates 624 = .ok (.ishl, 1) := by decide +kernel
theorem dL_updates_625 : decode cL_updates 625 = .ok (.iconst (-1), 1) := by decide +kernel
theorem dL_updates_626 : decode cL_updates 626 = .ok (.ixor, 1) := by decide +kernel
theorem dL_updates_627 : decode cL_updates 627 = .ok (.iand, 1) := by decide +kernel
theorem dL_updates_628 : decode cL_updates 628 = .ok (.if_icmp .ne 7, 3) := by decide +kernel
theorem dL_updates_631 : decode cL_updates 631 = .ok (.iconst 1, 1) := by decide +kernel
theorem dL_updates_632 : decode cL_updates 632 = .ok (.goto 4, 3) := by decide +kernel
theorem dL_updates_635 : decode cL_updates 635 = .ok (.iconst 0, 1) := by decide +kernel
theorem dL_updates_636 : decode cL_updates 636 = .ok (.istore 13, 2) := by decide +kernel
theorem dL_updates_638 : decode cL_updates 638 = .ok (.goto 52, 3) := by decide +kernel
theorem dL_updates_641 : decode cL_updates 641 = .ok (.aload_n 0, 1) := by decide +kernel
theorem dL_updates_642 : decode cL_updates 642 = .ok (.iload_n 1, 1) := by decide +kernel
theorem dL_updates_643 : decode cL_updates 643 = .ok (.iload 4, 2) := by decide +kernel
theorem dL_updates_645 : decode cL_updates 645 = .ok (.invokevirtual 77, 3) := by decide +kernel
theorem dL_updates_648 : decode cL_updates 648 = .ok (.iload 12, 2) := by decide +kernel
theorem dL_updates_650 : decode cL_updates 650 = .ok (.ifCond .le 7, 3) := by decide +kernel
theorem dL_updates_653 : decode cL_updates 653 = .ok (.iconst 1, 1) := by decide +kernel
theorem dL_updates_654 : decode cL_updates 654 = .ok (.goto 4, 3) := by decide +kernel
theorem dL_updates_657 : decode cL_updates 657 = .ok (.iconst 0, 1) := by decide +kernel
theorem dL_updates_658 : decode cL_updates 658 = .ok (.if_icmp .ne 29, 3) := by decide +kernel
theorem dL_updates_661 : decode cL_updates 661 = .ok (.aload_n 0, 1) := by decide +kernel
theorem dL_updates_662 : decode cL_updates 662 = .ok (.iload_n 1, 1) := by decide +kernel
theorem dL_updates_663 : decode cL_updates 663 = .ok (.iload 4, 2) := by decide +kernel
theorem dL_updates_665 : decode cL_updates 665 = .ok (.invokevirtual 81, 3) := by decide +kernel
theorem dL_updates_668 : decode cL_updates 668 = .ok (.iload 12, 2) := by decide +kernel
theorem dL_updates_670 : decode cL_updates 670 = .ok (.if_icmp .ne 17, 3) := by decide +kernel
theorem dL_updates_673 : decode cL_updates 673 = .ok (.aload_n 0, 1) := by decide +kernel
theorem dL_updates_674 : decode cL_updates 674 = .ok (.iload_n 1, 1) := by decide +kernel
theorem dL_updates_675 : decode cL_updates 675 = .ok (.iload 4, 2) := by decide +kernel
theorem dL_updates_677 : decode cL_updates 677 = .ok (.invokevirtual 77, 3) := by decide +kernel
theorem dL_updates_680 : decode cL_updates 680 = .ok (.ifCond .ne 7, 3) := by decide +kernel
theorem dL_updates_683 : decode cL_updates 683 = .ok (.iconst 1, 1) := by decide +kernel
theorem dL_updates_684 : decode cL_updates 684 = .ok (.goto 4, 3) := by decide +kernel
theorem dL_updates_687 : decode cL_updates 687 = .ok (.iconst 0, 1) := by decide +kernel
theorem dL_updates_688 : decode cL_updates 688 = .ok (.istore 13, 2) := by decide +kernel
theorem dL_updates_690 : decode cL_updates 690 = .ok (.iload 13, 2) := by decide +kernel
theorem dL_updates_692 : decode cL_updates 692 = .ok (.ifCond .eq 75, 3) := by decide +kernel
theorem dL_updates_695 : decode cL_updates 695 = .ok (.aload_n 0, 1) := by decide +kernel
theorem dL_updates_696 : decode cL_updates 696 = .ok (.iload_n 1, 1) := by decide +kernel
theorem dL_updates_697 : decode cL_updates 697 = .ok (.invokevirtual 43, 3) := by decide +kernel
theorem dL_updates_700 : decode cL_updates 700 = .ok (.iload 8, 2) := by decide +kernel
theorem dL_updates_702 : decode cL_updates 702 = .ok (.iconst 1, 1) := by decide +kernel
theorem dL_updates_703 : decode cL_updates 703 = .ok (.iadd, 1) := by decide +kernel
theorem dL_updates_704 : decode cL_updates 704 = .ok (.if_icmp .ne 63, 3) := by decide +kernel
theorem dL_updates_707 : decode cL_updates 707 = .ok (.aload_n 0, 1) := by decide +kernel
theorem dL_updates_708 : decode cL_updates 708 = .ok (.iload_n 1, 1) := by decide +kernel
theorem dL_updates_709 : decode cL_updates 709 = .ok (.iload_n 1, 1) := by decide +kernel
theorem dL_updates_710 : decode cL_updates 710 = .ok (.invokevirtual 47, 3) := by decide +kernel
theorem dL_updates_713 : decode cL_updates 713 = .ok (.iload 9, 2) := by decide +kernel
theorem dL_updates_715 : decode cL_updates 715 = .ok (.iconst 1, 1) := by decide +kernel
theorem dL_updates_716 : decode cL_updates 716 = .ok (.iadd, 1) := by decide +kernel
theorem dL_updates_717 : decode cL_updates 717 = .ok (.if_icmp .ne 50, 3) := by decide +kernel
theorem dL_updates_720 : decode cL_updates 720 = .ok (.lload 10, 2) := by decide +kernel
theorem dL_updates_722 : decode cL_updates 722 = .ok (.aload_n 0, 1) := by decide +kernel
theorem dL_updates_723 : decode cL_updates 723 = .ok (.iload_n 1, 1) := by decide +kernel
theorem dL_updates_724 : decode cL_updates 724 = .ok (.iconst 1, 1) := by decide +kernel
theorem dL_updates_725 : decode cL_updates 725 = .ok (.iadd, 1) := by decide +kernel
theorem dL_updates_726 : decode cL_updates 726 = .ok (.iconst 4, 1) := by decide +kernel
theorem dL_updates_727 : decode cL_updates 727 = .ok (.irem, 1) := by decide +kernel
theorem dL_updates_728 : decode cL_updates 728 = .ok (.invokestatic 37, 3) := by decide +kernel
theorem dL_updates_731 : decode cL_updates 731 = .ok (.ldc2_w 56, 3) := by decide +kernel
theorem dL_updates_734 : decode cL_updates 734 = .ok (.aload_n 0, 1) := by decide +kernel
theorem dL_updates_735 : decode cL_updates 735 = .ok (.iload_n 1, 1) := by decide +kernel
theorem dL_updates_736 : decode cL_updates 736 = .ok (.iconst 2, 1) := by decide +kernel
theorem dL_updates_737 : decode cL_updates 737 = .ok (.iadd, 1) := by decide +kernel
theorem dL_updates_738 : decode cL_updates 738 = .ok (.iconst 4, 1) := by decide +kernel
theorem dL_updates_739 : decode cL_updates 739 = .ok (.irem, 1) := by decide +kernel
theorem dL_updates_740 : decode cL_updates 740 = .ok (.invokestatic 37, 3) := by decide +kernel
theorem dL_updates_743 : decode cL_updates 743 = .ok (.lmul, 1) := by decide +kernel
theorem dL_updates_744 : decode cL_updates 744 = .ok (.ladd, 1) := by decide +kernel
theorem dL_updates_745 : decode cL_updates 745 = .ok (.ldc2_w 58, 3) := by decide +kernel
theorem dL_updates_748 : decode cL_updates 748 = .ok (.aload_n 0, 1) := by decide +kernel
theorem dL_updates_749 : decode cL_updates 749 = .ok (.iload_n 1, 1) := by decide +kernel
theorem dL_updates_750 : decode cL_updates 750 = .ok (.iconst 3, 1) := by decide +kernel
theorem dL_updates_751 : decode cL_updates 751 = .ok (.iadd, 1) := by decide +kernel
theorem dL_updates_752 : decode cL_updates 752 = .ok (.iconst 4, 1) := by decide +kernel
theorem dL_updates_753 : decode cL_updates 753 = .ok (.irem, 1) := by decide +kernel
theorem dL_updates_754 : decode cL_updates 754 = .ok (.invokestatic 37, 3) := by decide +kernel
theorem dL_updates_757 : decode cL_updates 757 = .ok (.lmul, 1) := by decide +kernel
theorem dL_updates_758 : decode cL_updates 758 = .ok (.ladd, 1) := by decide +kernel
theorem dL_updates_759 : decode cL_updates 759 = .ok (.lcmp, 1) := by decide +kernel
theorem dL_updates_760 : decode cL_updates 760 = .ok (.ifCond .ne 7, 3) := by decide +kernel
theorem dL_updates_763 : decode cL_updates 763 = .ok (.iconst 1, 1) := by decide +kernel
theorem dL_updates_764 : decode cL_updates 764 = .ok (.goto 4, 3) := by decide +kernel
theorem dL_updates_767 : decode cL_updates 767 = .ok (.iconst 0, 1) := by decide +kernel
theorem dL_updates_768 : decode cL_updates 768 = .ok (.ireturn, 1) := by decide +kernel
set_option maxRecDepth 20000 in
theorem ggL_merges_X3_ifMerged : GoodIn wsL_merges wsX3_ifMerged := goodIn_ca (goodIn_ca (goodIn_r _ [6, 7, 8, 9, 10, 11, 5, 12, 13, 14, 15, 16, 17, 18, 19, 20, 21, 22, 23, 24, 25, 26, 27, 28, 29, 30, 31, 32, 33, 34, 35, 36, 37, 38, 39, 40, 186, 187, 188, 189, 190, 191, 192, 193, 194] (by decide +kernel) (by decide +kernel)) (goodIn_sub (fun _ h => List.mem_cons_of_mem _ (List.mem_append_left _ (List.mem_append_right _ h))) (by decide +kernel))) (goodIn_sub (fun _ h => List.mem_cons_of_mem _ (List.mem_append_right _ h)) (by decide +kernel))
set_option maxRecDepth 20000 in
theorem gL_merges_X3_ifMerged : GoodIn wsL_merges (wsV RL 84 RX3 yX3_ifMerged wsX3_ifMerged) := goodIn_app (goodIn_of _ (by decide +kernel)) ggL_merges_X3_ifMerged
set_option maxRecDepth 20000 in
theorem ggL_merges_L_cells : GoodIn wsL_merges wsL_cells := goodIn_ca (goodIn_r _ [44, 45, 46, 47, 48, 49, 5, 50, 9, 10, 11, 12, 13, 14, 51, 52, 53, 54, 55, 56, 21, 57, 27, 58, 59, 60, 61, 62, 63, 64, 65, 66, 67, 68, 69, 70, 71, 72, 73, 74, 75, 76, 77, 78, 79, 80, 81, 82, 83, 84, 85, 86, 87, 88, 89, 90, 91, 92, 93, 94, 95, 96, 97, 98, 99, 100, 101, 102, 103, 104, 105, 106, 107, 108, 109, 110, 111, 112, 113, 114, 115, 116, 117, 118, 119, 120, 186, 187, 188, 189, 190, 191, 192, 193, 194] (by decide +kernel) (by decide +kernel)) (goodIn_sub (fun _ h => List.mem_cons_of_mem _ (List.mem_append_right _ h)) (by decide +kernel))
set_option maxRecDepth 20000 in
theorem gL_merges_L_cells : GoodIn wsL_merges (va_wsS RL 37 yL_cells wsL_cells) := goodIn_app (goodIn_of _ (by decide +kernel)) ggL_merges_L_cells
set_option maxRecDepth 20000 in
theorem ggL_merges_X3_seen : GoodIn wsL_merges wsX3_seen := goodIn_ca (goodIn_r _ [124, 9, 10, 11, 5, 12, 13, 14, 125, 29, 30, 21, 31, 32, 186, 187, 188, 189, 190, 191, 192, 193, 194] (by decide +kernel) (by decide +kernel)) (goodIn_sub (fun _ h => List.mem_cons_of_mem _ (List.mem_append_right _ h)) (by decide +kernel))
set_option maxRecDepth 20000 in
theorem gL_merges_X3_seen : GoodIn wsL_merges (wsV RL 47 RX3 yX3_seen wsX3_seen) := goodIn_app (goodIn_of _ (by decide +kernel)) ggL_merges_X3_seen
set_option maxRecDepth 20000 in
theorem ggL_merges_X3_clock : GoodIn wsL_merges wsX3_clock := goodIn_ca (goodIn_r _ [129, 9, 10, 11, 5, 12, 13, 14, 186, 187, 188, 189, 190, 191, 192, 193, 194] (by decide +kernel) (by decide +kernel)) (goodIn_sub (fun _ h => List.mem_cons_of_mem _ (List.mem_append_right _ h)) (by decide +kernel))
set_option maxRecDepth 20000 in
theorem gL_merges_X3_clock : GoodIn wsL_merges (wsV RL 43 RX3 yX3_clock wsX3_clock) := goodIn_app (goodIn_of _ (by decide +kernel)) ggL_merges_X3_clock
set_option maxRecDepth 20000 in
theorem ggL_merges_X3_relation : GoodIn wsL_merges wsX3_relation := goodIn_ca (goodIn_r _ [133, 9, 10, 11, 5, 12, 13, 14, 134, 135, 136, 21, 137, 28, 29, 30, 31, 32, 186, 187, 188, 189, 190, 191, 192, 193, 194] (by decide +kernel) (by decide +kernel)) (goodIn_sub (fun _ h => List.mem_cons_of_mem _ (List.mem_append_right _ h)) (by decide +kernel))
set_option maxRecDepth 20000 in
theorem gL_merges_X3_relation : GoodIn wsL_merges (wsV RL 87 RX3 yX3_relation wsX3_relation) := goodIn_app (goodIn_of _ (by decide +kernel)) ggL_merges_X3_relation
set_option maxRecDepth 20000 in
theorem ggL_merges_X3_merge : GoodIn wsL_merges wsX3_merge := goodIn_ca (goodIn_ca (goodIn_r _ [141, 142, 9, 10, 11, 5, 12, 13, 14, 15, 16, 17, 7, 8, 143, 144, 145, 146, 147, 148, 149, 150, 151, 152, 21, 153, 154, 155, 156, 157, 1, 27, 58, 59, 32, 158, 159, 160, 161, 162, 163, 164, 165, 166, 167, 168, 169, 170, 171, 172, 19, 20, 22, 23, 24, 25, 26, 28, 29, 30, 31, 173, 34, 35, 36, 37, 38, 39, 40, 174, 175, 176, 177, 178, 179, 180, 181, 77, 78, 79, 80, 186, 187, 188, 195, 196, 197, 189, 190, 191, 192, 193, 194] (by decide +kernel) (by decide +kernel)) (goodIn_sub (fun _ h => List.mem_cons_of_mem _ (List.mem_append_right _ h)) (by decide +kernel))) (goodIn_sub (fun _ h => List.mem_cons_of_mem _ (List.mem_append_left _ (List.mem_append_right _ h))) (by decide +kernel))
set_option maxRecDepth 20000 in
theorem gL_merges_X3_merge : GoodIn wsL_merges (wsV RL 90 RX3 yX3_merge wsX3_merge) := goodIn_app (goodIn_of _ (by decide +kernel)) ggL_merges_X3_merge
set_option maxRecDepth 20000 in
theorem ggL_merges_X3_latestMerge : GoodIn wsL_merges wsX3_latestMerge := goodIn_ca (goodIn_r _ [185, 7, 8, 9, 186, 187, 188, 189, 190, 191, 192, 193, 194] (by decide +kernel) (by decide +kernel)) (goodIn_sub (fun _ h => List.mem_cons_of_mem _ (List.mem_append_left _ (List.mem_append_right _ h))) (by decide +kernel))
set_option maxRecDepth 20000 in
theorem gL_merges_X3_latestMerge : GoodIn wsL_merges (wsV RL 50 RX3 yX3_latestMerge wsX3_latestMerge) := goodIn_app (goodIn_of _ (by decide +kernel)) ggL_merges_X3_latestMerge
theorem dL_merges_0 : decode cL_merges 0 = .ok (.aload_n 0, 1) := by decide +kernel
theorem dL_merges_1 : decode cL_merges 1 = .ok (.iload_n 1, 1) := by decide +kernel
theorem dL_merges_2 : decode cL_merges 2 = .ok (.iload_n 2, 1) := by decide +kernel
theorem dL_merges_3 : decode cL_merges 3 = .ok (.iconst 2, 1) := by decide +kernel
theorem dL_merges_4 : decode cL_merges 4 = .ok (.invokevirtual 84, 3) := by decide +kernel
theorem dL_merges_7 : decode cL_merges 7 = .ok (.istore_n 3, 1) := by decide +kernel
theorem dL_merges_8 : decode cL_merges 8 = .ok (.aload_n 0, 1) := by decide +kernel
theorem dL_merges_9 : decode cL_merges 9 = .ok (.iload_n 1, 1) := by decide +kernel
theorem dL_merges_10 : decode cL_merges 10 = .ok (.iload_n 2, 1) := by decide +kernel
theorem dL_merges_11 : decode cL_merges 11 = .ok (.iconst 3, 1) := by decide +kernel
theorem dL_merges_12 : decode cL_merges 12 = .ok (.invokevirtual 84, 3) := by decide +kernel
theorem dL_merges_15 : decode cL_merges 15 = .ok (.istore 4, 2) := by decide +kernel
theorem dL_merges_17 : decode cL_merges 17 = .ok (.aload_n 0, 1) := by decide +kernel
theorem dL_merges_18 : decode cL_merges 18 = .ok (.iload_n 1, 1) := by decide +kernel
theorem dL_merges_19 : decode cL_merges 19 = .ok (.invokestatic 37, 3) := by decide +kernel
theorem dL_merges_22 : decode cL_merges 22 = .ok (.lstore 5, 2) := by decide +kernel
theorem dL_merges_24 : decode cL_merges 24 = .ok (.iconst 4, 1) := by decide +kernel
theorem dL_merges_25 : decode cL_merges 25 = .ok (.newarray .int, 2) := by decide +kernel
theorem dL_merges_27 : decode cL_merges 27 = .ok (.astore 7, 2) := by decide +kernel
theorem dL_merges_29 : decode cL_merges 29 = .ok (.iconst 0, 1) := by decide +kernel
theorem dL_merges_30 : decode cL_merges 30 = .ok (.istore 8, 2) := by decide +kernel
theorem dL_merges_32 : decode cL_merges 32 = .ok (.iload 8, 2) := by decide +kernel
theorem dL_merges_34 : decode cL_merges 34 = .ok (.iconst 4, 1) := by decide +kernel
theorem dL_merges_35 : decode cL_merges 35 = .ok (.if_icmp .ge 48, 3) := by decide +kernel
theorem dL_merges_38 : decode cL_merges 38 = .ok (.aload 7, 2) := by decide +kernel
theorem dL_merges_40 : decode cL_merges 40 = .ok (.iload 8, 2) := by decide +kernel
theorem dL_merges_42 : decode cL_merges 42 = .ok (.aload_n 0, 1) := by decide +kernel
theorem dL_merges_43 : decode cL_merges 43 = .ok (.iload_n 1, 1) := by decide +kernel
theorem dL_merges_44 : decode cL_merges 44 = .ok (.iload 8, 2) := by decide +kernel
theorem dL_merges_46 : decode cL_merges 46 = .ok (.invokevirtual 47, 3) := by decide +kernel
theorem dL_merges_49 : decode cL_merges 49 = .ok (.aload_n 0, 1) := by decide +kernel
theorem dL_merges_50 : decode cL_merges 50 = .ok (.iload_n 2, 1) := by decide +kernel
theorem dL_merges_51 : decode cL_merges 51 = .ok (.iload 8, 2) := by decide +kernel
theorem dL_merges_53 : decode cL_merges 53 = .ok (.invokevirtual 47, 3) := by decide +kernel
theorem dL_merges_56 : decode cL_merges 56 = .ok (.if_icmp .le 13, 3) := by decide +kernel
theorem dL_merges_59 : decode cL_merges 59 = .ok (.aload_n 0, 1) := by decide +kernel
theorem dL_merges_60 : decode cL_merges 60 = .ok (.iload_n 1, 1) := by decide +kernel
theorem dL_merges_61 : decode cL_merges 61 = .ok (.iload 8, 2) := by decide +kernel
theorem dL_merges_63 : decode cL_merges 63 = .ok (.invokevirtual 47, 3) := by decide +kernel
theorem dL_merges_66 : decode cL_merges 66 = .ok (.goto 10, 3) := by decide +kernel
theorem dL_merges_69 : decode cL_merges 69 = .ok (.aload_n 0, 1) := by decide +kernel
theorem dL_merges_70 : decode cL_merges 70 = .ok (.iload_n 2, 1) := by decide +kernel
theorem dL_merges_71 : decode cL_merges 71 = .ok (.iload 8, 2) := by decide +kernel
theorem dL_merges_73 : decode cL_merges 73 = .ok (.invokevirtual 47, 3) := by decide +kernel
theorem dL_merges_76 : decode cL_merges 76 = .ok (.iastore, 1) := by decide +kernel
theorem dL_merges_77 : decode cL_merges 77 = .ok (.iinc 8 1, 3) := by decide +kernel
theorem dL_merges_80 : decode cL_merges 80 = .ok (.goto (-48), 3) := by decide +kernel
theorem dL_merges_83 : decode cL_merges 83 = .ok (.aload_n 0, 1) := by decide +kernel
theorem dL_merges_84 : decode cL_merges 84 = .ok (.iload_n 1, 1) := by decide +kernel
theorem dL_merges_85 : decode cL_merges 85 = .ok (.invokevirtual 43, 3) := by decide +kernel
theorem dL_merges_88 : decode cL_merges 88 = .ok (.aload_n 0, 1) := by decide +kernel
theorem dL_merges_89 : decode cL_merges 89 = .ok (.iload_n 2, 1) := by decide +kernel
theorem dL_merges_90 : decode cL_merges 90 = .ok (.invokevirtual 43, 3) := by decide +kernel
theorem dL_merges_93 : decode cL_merges 93 = .ok (.if_icmp .le 11, 3) := by decide +kernel
theorem dL_merges_96 : decode cL_merges 96 = .ok (.aload_n 0, 1) := by decide +kernel
theorem dL_merges_97 : decode cL_merges 97 = .ok (.iload_n 1, 1) := by decide +kernel
theorem dL_merges_98 : decode cL_merges 98 = .ok (.invokevirtual 43, 3) := by decide +kernel
theorem dL_merges_101 : decode cL_merges 101 = .ok (.goto 8, 3) := by decide +kernel
theorem dL_merges_104 : decode cL_merges 104 = .ok (.aload_n 0, 1) := by decide +kernel
theorem dL_merges_105 : decode cL_merges 105 = .ok (.iload_n 2, 1) := by decide +kernel
theorem dL_merges_106 : decode cL_merges 106 = .ok (.invokevirtual 43, 3) := by decide +kernel
theorem dL_merges_109 : decode cL_merges 109 = .ok (.istore 8, 2) := by decide +kernel
theorem dL_merges_111 : decode cL_merges 111 = .ok (.aload_n 0, 1) := by decide +kernel
theorem dL_merges_112 : decode cL_merges 112 = .ok (.iload_n 1, 1) := by decide +kernel
theorem dL_merges_113 : decode cL_merges 113 = .ok (.iload_n 2, 1) := by decide +kernel
theorem dL_merges_114 : decode cL_merges 114 = .ok (.invokevirtual 87, 3) := by decide +kernel
theorem dL_merges_117 : decode cL_merges 117 = .ok (.iconst 1, 1) := by decide +kernel
theorem dL_merges_118 : decode cL_merges 118 = .ok (.if_icmp .eq 12, 3) := by decide +kernel
theorem dL_merges_121 : decode cL_merges 121 = .ok (.aload_n 0, 1) := by decide +kernel
theorem dL_merges_122 : decode cL_merges 122 = .ok (.iload_n 1, 1) := by decide +kernel
theorem dL_merges_123 : decode cL_merges 123 = .ok (.iload_n 2, 1) := by decide +kernel
theorem dL_merges_124 : decode cL_merges 124 = .ok (.invokevirtual 87, 3) := by decide +kernel
theorem dL_merges_127 : decode cL_merges 127 = .ok (.ifCond .ne 7, 3) := by decide +kernel
theorem dL_merges_130 : decode cL_merges 130 = .ok (.iconst 1, 1) := by decide +kernel
theorem dL_merges_131 : decode cL_merges 131 = .ok (.goto 4, 3) := by decide +kernel
theorem dL_merges_134 : decode cL_merges 134 = .ok (.iconst 0, 1) := by decide +kernel
theorem dL_merges_135 : decode cL_merges 135 = .ok (.istore 9, 2) := by decide +kernel
theorem dL_merges_137 : decode cL_merges 137 = .ok (.aload_n 0, 1) := by decide +kernel
theorem dL_merges_138 : decode cL_merges 138 = .ok (.iload_n 1, 1) := by decide +kernel
theorem dL_merges_139 : decode cL_merges 139 = .ok (.iload_n 2, 1) := by decide +kernel
theorem dL_merges_140 : decode cL_merges 140 = .ok (.invokevirtual 90, 3) := by decide +kernel
theorem dL_merges_143 : decode cL_merges 143 = .ok (.iload_n 3, 1) := by decide +kernel
theorem dL_merges_144 : decode cL_merges 144 = .ok (.iload 4, 2) := by decide +kernel
theorem dL_merges_146 : decode cL_merges 146 = .ok (.iadd, 1) := by decide +kernel
theorem dL_merges_147 : decode cL_merges 147 = .ok (.if_icmp .ne 77, 3) := by decide +kernel
theorem dL_merges_150 : decode cL_merges 150 = .ok (.aload_n 0, 1) := by decide +kernel
theorem dL_merges_151 : decode cL_merges 151 = .ok (.iconst 0, 1) := by decide +kernel
theorem dL_merges_152 : decode cL_merges 152 = .ok (.invokevirtual 50, 3) := by decide +kernel
theorem dL_merges_155 : decode cL_merges 155 = .ok (.iload_n 1, 1) := by decide +kernel
theorem dL_merges_156 : decode cL_merges 156 = .ok (.if_icmp .ne 68, 3) := by decide +kernel
theorem dL_merges_159 : decode cL_merges 159 = .ok (.aload_n 0, 1) := by decide +kernel
theorem dL_merges_160 : decode cL_merges 160 = .ok (.iconst 1, 1) := by decide +kernel
theorem dL_merges_161 : decode cL_merges 161 = .ok (.invokevirtual 50, 3) := by decide +kernel
theorem dL_merges_164 : decode cL_merges 164 = .ok (.iload_n 2, 1) := by decide +kernel
theorem dL_merges_165 : decode cL_merges 165 = .ok (.if_icmp .ne 59, 3) := by decide +kernel
theorem dL_merges_168 : decode cL_merges 168 = .ok (.aload_n 0, 1) := by decide +kernel
theorem dL_merges_169 : decode cL_merges 169 = .ok (.iconst 2, 1) := by decide +kernel
theorem dL_merges_170 : decode cL_merges 170 = .ok (.invokevirtual 50, 3) := by decide +kernel
theorem dL_merges_173 : decode cL_merges 173 = .ok (.iload_n 3, 1) := by decide +kernel
theorem dL_merges_174 : decode cL_merges 174 = .ok (.if_icmp .ne 50, 3) := by decide +kernel
theorem dL_merges_177 : decode cL_merges 177 = .ok (.aload_n 0, 1) := by decide +kernel
theorem dL_merges_178 : decode cL_merges 178 = .ok (.iconst 3, 1) := by decide +kernel
theorem dL_merges_179 : decode cL_merges 179 = .ok (.invokevirtual 50, 3) := by decide +kernel
theorem dL_merges_182 : decode cL_merges 182 = .ok (.iload 4, 2) := by decide +kernel
theorem dL_merges_184 : decode cL_merges 184 = .ok (.if_icmp .ne 40, 3) := by decide +kernel
theorem dL_merges_187 : decode cL_merges 187 = .ok (.aload_n 0, 1) := by decide +kernel
theorem dL_merges_188 : decode cL_merges 188 = .ok (.iload_n 1, 1) := by decide +kernel
theorem dL_merges_189 : decode cL_merges 189 = .ok (.invokestatic 37, 3) := by decide +kernel
theorem dL_merges_192 : decode cL_merges 192 = .ok (.lload 5, 2) := by decide +kernel
theorem dL_merges_194 : decode cL_merges 194 = .ok (.lcmp, 1) := by decide +kernel
theorem dL_merges_195 : decode cL_merges 195 = .ok (.ifCond .ne 29, 3) := by decide +kernel
theorem dL_merges_198 : decode cL_merges 198 = .ok (.aload_n 0, 1) := by decide +kernel
theorem dL_merges_199 : decode cL_merges 199 = .ok (.iload_n 2, 1) := by decide +kernel
theorem dL_merges_200 : decode cL_merges 200 = .ok (.invokevirtual 43, 3) := by decide +kernel
theorem dL_merges_203 : decode cL_merges 203 = .ok (.iload 8, 2) := by decide +kernel
theorem dL_merges_205 : decode cL_merges 205 = .ok (.if_icmp .ne 19, 3) := by decide +kernel
theorem dL_merges_208 : decode cL_merges 208 = .ok (.iload 9, 2) := by decide +kernel
theorem dL_merges_210 : decode cL_merges 210 = .ok (.ifCond .eq 10, 3) := by decide +kernel
theorem dL_merges_213 : decode cL_merges 213 = .ok (.iload_n 3, 1) := by decide +kernel
theorem dL_merges_214 : decode cL_merges 214 = .ok (.iload 4, 2) := by decide +kernel
theorem dL_merges_216 : decode cL_merges 216 = .ok (.iadd, 1) := by decide +kernel
theorem dL_merges_217 : decode cL_merges 217 = .ok (.ifCond .ne 7, 3) := by decide +kernel
theorem dL_merges_220 : decode cL_merges 220 = .ok (.iconst 1, 1) := by decide +kernel
theorem dL_merges_221 : decode cL_merges 221 = .ok (.goto 4, 3) := by decide +kernel
theorem dL_merges_224 : decode cL_merges 224 = .ok (.iconst 0, 1) := by decide +kernel
theorem dL_merges_225 : decode cL_merges 225 = .ok (.istore 10, 2) := by decide +kernel
theorem dL_merges_227 : decode cL_merges 227 = .ok (.iconst 0, 1) := by decide +kernel
theorem dL_merges_228 : decode cL_merges 228 = .ok (.istore 11, 2) := by decide +kernel
theorem dL_merges_230 : decode cL_merges 230 = .ok (.iload 11, 2) := by decide +kernel
theorem dL_merges_232 : decode cL_merges 232 = .ok (.iconst 4, 1) := by decide +kernel
theorem dL_merges_233 : decode cL_merges 233 = .ok (.if_icmp .ge 36, 3) := by decide +kernel
theorem dL_merges_236 : decode cL_merges 236 = .ok (.iload 10, 2) := by decide +kernel
theorem dL_merges_238 : decode cL_merges 238 = .ok (.ifCond .eq 22, 3) := by decide +kernel
theorem dL_merges_241 : decode cL_merges 241 = .ok (.aload_n 0, 1) := by decide +kernel
theorem dL_merges_242 : decode cL_merges 242 = .ok (.iload_n 2, 1) := by decide +kernel
theorem dL_merges_243 : decode cL_merges 243 = .ok (.iload 11, 2) := by decide +kernel
theorem dL_merges_245 : decode cL_merges 245 = .ok (.invokevirtual 47, 3) := by decide +kernel
theorem dL_merges_248 : decode cL_merges 248 = .ok (.aload 7, 2) := by decide +kernel
theorem dL_merges_250 : decode cL_merges 250 = .ok (.iload 11, 2) := by decide +kernel
theorem dL_merges_252 : decode cL_merges 252 = .ok (.iaload, 1) := by decide +kernel
theorem dL_merges_253 : decode cL_merges 253 = .ok (.if_icmp .ne 7, 3) := by decide +kernel
theorem dL_merges_256 : decode cL_merges 256 = .ok (.iconst 1, 1) := by decide +kernel
theorem dL_merges_257 : decode cL_merges 257 = .ok (.goto 4, 3) := by decide +kernel
theorem dL_merges_260 : decode cL_merges 260 = .ok (.iconst 0, 1) := by decide +kernel
theorem dL_merges_261 : decode cL_merges 261 = .ok (.istore 10, 2) := by decide +kernel
theorem dL_merges_263 : decode cL_merges 263 = .ok (.iinc 11 1, 3) := by decide +kernel
theorem dL_merges_266 : decode cL_merges 266 = .ok (.goto (-36), 3) := by decide +kernel
theorem dL_merges_269 : decode cL_merges 269 = .ok (.aload_n 0, 1) := by decide +kernel
theorem dL_merges_270 : decode cL_merges 270 = .ok (.iload_n 1, 1) := by decide +kernel
theorem dL_merges_271 : decode cL_merges 271 = .ok (.iload_n 2, 1) := by decide +kernel
theorem dL_merges_272 : decode cL_merges 272 = .ok (.invokevirtual 87, 3) := by decide +kernel
theorem dL_merges_275 : decode cL_merges 275 = .ok (.istore 11, 2) := by decide +kernel
theorem dL_merges_277 : decode cL_merges 277 = .ok (.iload 10, 2) := by decide +kernel
theorem dL_merges_279 : decode cL_merges 279 = .ok (.ifCond .eq 44, 3) := by decide +kernel
theorem dL_merges_282 : decode cL_merges 282 = .ok (.iload 11, 2) := by decide +kernel
theorem dL_merges_284 : decode cL_merges 284 = .ok (.ifCond .eq 9, 3) := by decide +kernel
theorem dL_merges_287 : decode cL_merges 287 = .ok (.iload 11, 2) := by decide +kernel
theorem dL_merges_289 : decode cL_merges 289 = .ok (.iconst 1, 1) := by decide +kernel
theorem dL_merges_290 : decode cL_merges 290 = .ok (.if_icmp .ne 33, 3) := by decide +kernel
theorem dL_merges_293 : decode cL_merges 293 = .ok (.aload_n 0, 1) := by decide +kernel
theorem dL_merges_294 : decode cL_merges 294 = .ok (.iload_n 1, 1) := by decide +kernel
theorem dL_merges_295 : decode cL_merges 295 = .ok (.iload_n 2, 1) := by decide +kernel
theorem dL_merges_296 : decode cL_merges 296 = .ok (.invokevirtual 90, 3) := by decide +kernel
theorem dL_merges_299 : decode cL_merges 299 = .ok (.ifCond .ne 24, 3) := by decide +kernel
theorem dL_merges_302 : decode cL_merges 302 = .ok (.iload 11, 2) := by decide +kernel
theorem dL_merges_304 : decode cL_merges 304 = .ok (.iconst 1, 1) := by decide +kernel
theorem dL_merges_305 : decode cL_merges 305 = .ok (.if_icmp .eq 14, 3) := by decide +kernel
theorem dL_merges_308 : decode cL_merges 308 = .ok (.aload_n 0, 1) := by decide +kernel
theorem dL_merges_309 : decode cL_merges 309 = .ok (.iload_n 2, 1) := by decide +kernel
theorem dL_merges_310 : decode cL_merges 310 = .ok (.invokestatic 37, 3) := by decide +kernel
theorem dL_merges_313 : decode cL_merges 313 = .ok (.lload 5, 2) := by decide +kernel
theorem dL_merges_315 : decode cL_merges 315 = .ok (.lcmp, 1) := by decide +kernel
theorem dL_merges_316 : decode cL_merges 316 = .ok (.ifCond .ne 7, 3) := by decide +kernel
theorem dL_merges_319 : decode cL_merges 319 = .ok (.iconst 1, 1) := by decide +kernel
theorem dL_merges_320 : decode cL_merges 320 = .ok (.goto 4, 3) := by decide +kernel
theorem dL_merges_323 : decode cL_merges 323 = .ok (.iconst 0, 1) := by decide +kernel
theorem dL_merges_324 : decode cL_merges 324 = .ok (.ireturn, 1) := by decide +kernel
set_option maxRecDepth 20000 in
theorem ggL_holds_X3_clock : GoodIn wsL_holds wsX3_clock := goodIn_ca (goodIn_r _ [7, 8, 9, 10, 6, 11, 12, 13, 135, 136, 137, 138, 139, 140, 141, 142, 143] (by decide +kernel) (by decide +kernel)) (goodIn_sub (fun _ h => List.mem_cons_of_mem _ (List.mem_append_right _ h)) (by decide +kernel))
set_option maxRecDepth 20000 in
theorem gL_holds_X3_clock : GoodIn wsL_holds (wsV RL 43 RX3 yX3_clock wsX3_clock) := goodIn_app (goodIn_of _ (by decide +kernel)) ggL_holds_X3_clock
set_option maxRecDepth 20000 in
theorem ggL_holds_X3_seen : GoodIn wsL_holds wsX3_seen := goodIn_ca (goodIn_r _ [17, 8, 9, 10, 6, 11, 12, 13, 18, 19, 20, 21, 22, 23, 135, 136, 137, 138, 139, 140, 141, 142, 143] (by decide +kernel) (by decide +kernel)) (goodIn_sub (fun _ h => List.mem_cons_of_mem _ (List.mem_append_right _ h)) (by decide +kernel))
set_option maxRecDepth 20000 in
theorem gL_holds_X3_seen : GoodIn wsL_holds (wsV RL 47 RX3 yX3_seen wsX3_seen) := goodIn_app (goodIn_of _ (by decide +kernel)) ggL_holds_X3_seen
set_option maxRecDepth 20000 in
theorem ggL_holds_X3_entries : GoodIn wsL_holds wsX3_entries := goodIn_ca (goodIn_r _ [27, 12, 13, 8, 9, 10, 6, 11, 28, 29, 30, 31, 32, 33, 21, 34, 35, 36, 37, 38, 39, 40, 41, 42, 43, 44, 45, 46, 47, 48, 135, 136, 137, 138, 139, 140, 141, 142, 143] (by decide +kernel) (by decide +kernel)) (goodIn_sub (fun _ h => List.mem_cons_of_mem _ (List.mem_append_right _ h)) (by decide +kernel))
set_option maxRecDepth 20000 in
theorem gL_holds_X3_entries : GoodIn wsL_holds (wsV RL 28 RX3 yX3_entries wsX3_entries) := goodIn_app (goodIn_of _ (by decide +kernel)) ggL_holds_X3_entries
set_option maxRecDepth 20000 in
theorem ggL_holds_X3_exists : GoodIn wsL_holds wsX3_exists := goodIn_ca (goodIn_r _ [52, 8, 9, 10, 6, 11, 12, 13, 28, 29, 30, 53, 54, 55, 21, 56, 38, 39, 40, 44, 45, 46, 47, 48, 135, 136, 137, 138, 139, 140, 141, 142, 143] (by decide +kernel) (by decide +kernel)) (goodIn_sub (fun _ h => List.mem_cons_of_mem _ (List.mem_append_right _ h)) (by decide +kernel))
set_option maxRecDepth 20000 in
theorem gL_holds_X3_exists : GoodIn wsL_holds (wsV RL 77 RX3 yX3_exists wsX3_exists) := goodIn_app (goodIn_of _ (by decide +kernel)) ggL_holds_X3_exists
set_option maxRecDepth 20000 in
theorem ggL_holds_X3_latest : GoodIn wsL_holds wsX3_latest := goodIn_ca (goodIn_r _ [60, 8, 9, 10, 6, 11, 12, 13, 28, 29, 30, 61, 62, 63, 21, 64, 48, 65, 66, 35, 36, 37, 38, 39, 40, 41, 42, 43, 135, 136, 137, 138, 139, 140, 141, 142, 143] (by decide +kernel) (by decide +kernel)) (goodIn_sub (fun _ h => List.mem_cons_of_mem _ (List.mem_append_right _ h)) (by decide +kernel))
set_option maxRecDepth 20000 in
theorem gL_holds_X3_latest : GoodIn wsL_holds (wsV RL 13 RX3 yX3_latest wsX3_latest) := goodIn_app (goodIn_of _ (by decide +kernel)) ggL_holds_X3_latest
set_option maxRecDepth 20000 in
theorem ggL_holds_X3_greatest : GoodIn wsL_holds wsX3_greatest := goodIn_ca (goodIn_r _ [70, 8, 9, 10, 6, 11, 12, 13, 28, 29, 30, 71, 72, 73, 21, 74, 48, 66, 75, 76, 77, 78, 41, 42, 43, 38, 39, 40, 35, 36, 37, 135, 136, 137, 138, 139, 140, 141, 142, 143] (by decide +kernel) (by decide +kernel)) (goodIn_sub (fun _ h => List.mem_cons_of_mem _ (List.mem_append_right _ h)) (by decide +kernel))
set_option maxRecDepth 20000 in
theorem gL_holds_X3_greatest : GoodIn wsL_holds (wsV RL 19 RX3 yX3_greatest wsX3_greatest) := goodIn_app (goodIn_of _ (by decide +kernel)) ggL_holds_X3_greatest
set_option maxRecDepth 20000 in
theorem ggL_holds_X3_elements : GoodIn wsL_holds wsX3_elements := goodIn_ca (goodIn_r _ [82, 8, 9, 10, 6, 11, 12, 13, 28, 29, 30, 83, 84, 85, 21, 86, 48, 66, 41, 42, 43, 38, 39, 40, 35, 36, 37, 135, 136, 137, 138, 139, 140, 141, 142, 143] (by decide +kernel) (by decide +kernel)) (goodIn_sub (fun _ h => List.mem_cons_of_mem _ (List.mem_append_right _ h)) (by decide +kernel))
set_option maxRecDepth 20000 in
theorem gL_holds_X3_elements : GoodIn wsL_holds (wsV RL 25 RX3 yX3_elements wsX3_elements) := goodIn_app (goodIn_of _ (by decide +kernel)) ggL_holds_X3_elements
set_option maxRecDepth 20000 in
theorem ggL_holds_X3_relation : GoodIn wsL_holds wsX3_relation := goodIn_ca (goodIn_r _ [90, 8, 9, 10, 6, 11, 12, 13, 91, 92, 93, 21, 94, 95, 19, 20, 22, 23, 135, 136, 137, 138, 139, 140, 141, 142, 143] (by decide +kernel) (by decide +kernel)) (goodIn_sub (fun _ h => List.mem_cons_of_mem _ (List.mem_append_right _ h)) (by decide +kernel))
set_option maxRecDepth 20000 in
theorem gL_holds_X3_relation : GoodIn wsL_holds (wsV RL 87 RX3 yX3_relation wsX3_relation) := goodIn_app (goodIn_of _ (by decide +kernel)) ggL_holds_X3_relation
set_option maxRecDepth 20000 in
theorem ggL_holds_L_cells : GoodIn wsL_holds wsL_cells := goodIn_ca (goodIn_r _ [99, 100, 101, 57, 58, 59, 6, 60, 8, 9, 10, 11, 12, 13, 28, 29, 30, 61, 62, 63, 21, 64, 48, 65, 66, 35, 36, 37, 38, 39, 40, 41, 42, 43, 67, 68, 69, 70, 71, 72, 73, 74, 75, 76, 77, 78, 102, 103, 104, 105, 106, 107, 108, 109, 79, 80, 81, 82, 83, 84, 85, 86, 24, 25, 26, 27, 31, 32, 33, 34, 44, 45, 46, 47, 110, 111, 112, 113, 114, 115, 116, 117, 118, 119, 120, 121, 135, 136, 137, 138, 139, 140, 141, 142, 143] (by decide +kernel) (by decide +kernel)) (goodIn_sub (fun _ h => List.mem_cons_of_mem _ (List.mem_append_right _ h)) (by decide +kernel))
set_option maxRecDepth 20000 in
theorem gL_holds_L_cells : GoodIn wsL_holds (va_wsS RL 37 yL_cells wsL_cells) := goodIn_app (goodIn_of _ (by decide +kernel)) ggL_holds_L_cells
set_option maxRecDepth 20000 in
theorem ggL_holds_X3_conflicts : GoodIn wsL_holds wsX3_conflicts := goodIn_ca (goodIn_r _ [125, 8, 9, 10, 6, 11, 12, 13, 31, 32, 33, 21, 34, 35, 36, 37, 38, 39, 40, 41, 42, 43, 44, 45, 46, 47, 48, 135, 136, 137, 138, 139, 140, 141, 142, 143] (by decide +kernel) (by decide +kernel)) (goodIn_sub (fun _ h => List.mem_cons_of_mem _ (List.mem_append_right _ h)) (by decide +kernel))
set_option maxRecDepth 20000 in
theorem gL_holds_X3_conflicts : GoodIn wsL_holds (wsV RL 93 RX3 yX3_conflicts wsX3_conflicts) := goodIn_app (goodIn_of _ (by decide +kernel)) ggL_holds_X3_conflicts
set_option maxRecDepth 20000 in
theorem ggL_holds_X3_agreement : GoodIn wsL_holds wsX3_agreement := goodIn_r _ [129, 8, 130, 131, 132, 133, 21, 134, 48, 41, 42, 43, 38, 39, 40, 35, 36, 37, 135, 136, 137, 138, 139, 140, 141, 142, 143] (by decide +kernel) (by decide +kernel)
set_option maxRecDepth 20000 in
theorem gL_holds_X3_agreement : GoodIn wsL_holds (wsV RL 96 RX3 yX3_agreement wsX3_agreement) := goodIn_app (goodIn_of _ (by decide +kernel)) ggL_holds_X3_agreement
theorem dL_holds_0 : decode cL_holds 0 = .ok (.iconst 1, 1) := by decide +kernel
theorem dL_holds_1 : decode cL_holds 1 = .ok (.istore_n 1, 1) := by decide +kernel
theorem dL_holds_2 : decode cL_holds 2 = .ok (.iconst 0, 1) := by decide +kernel
theorem dL_holds_3 : decode cL_holds 3 = .ok (.istore_n 2, 1) := by decide +kernel
theorem dL_holds_4 : decode cL_holds 4 = .ok (.iload_n 2, 1) := by decide +kernel
theorem dL_holds_5 : decode cL_holds 5 = .ok (.iconst 4, 1) := by decide +kernel
theorem dL_holds_6 : decode cL_holds 6 = .ok (.if_icmp .ge 423, 3) := by decide +kernel
theorem dL_holds_9 : decode cL_holds 9 = .ok (.iconst 0, 1) := by decide +kernel
theorem dL_holds_10 : decode cL_holds 10 = .ok (.istore_n 3, 1) := by decide +kernel
theorem dL_holds_11 : decode cL_holds 11 = .ok (.iload_n 1, 1) := by decide +kernel
theorem dL_holds_12 : decode cL_holds 12 = .ok (.ifCond .eq 21, 3) := by decide +kernel
theorem dL_holds_15 : decode cL_holds 15 = .ok (.aload_n 0, 1) := by decide +kernel
theorem dL_holds_16 : decode cL_holds 16 = .ok (.iload_n 2, 1) := by decide +kernel
theorem dL_holds_17 : decode cL_holds 17 = .ok (.invokevirtual 43, 3) := by decide +kernel
theorem dL_holds_20 : decode cL_holds 20 = .ok (.aload_n 0, 1) := by decide +kernel
theorem dL_holds_21 : decode cL_holds 21 = .ok (.iload_n 2, 1) := by decide +kernel
theorem dL_holds_22 : decode cL_holds 22 = .ok (.iload_n 2, 1) := by decide +kernel
theorem dL_holds_23 : decode cL_holds 23 = .ok (.invokevirtual 47, 3) := by decide +kernel
theorem dL_holds_26 : decode cL_holds 26 = .ok (.if_icmp .lt 7, 3) := by decide +kernel
theorem dL_holds_29 : decode cL_holds 29 = .ok (.iconst 1, 1) := by decide +kernel
theorem dL_holds_30 : decode cL_holds 30 = .ok (.goto 4, 3) := by decide +kernel
theorem dL_holds_33 : decode cL_holds 33 = .ok (.iconst 0, 1) := by decide +kernel
theorem dL_holds_34 : decode cL_holds 34 = .ok (.istore_n 1, 1) := by decide +kernel
theorem dL_holds_35 : decode cL_holds 35 = .ok (.iconst 0, 1) := by decide +kernel
theorem dL_holds_36 : decode cL_holds 36 = .ok (.istore 4, 2) := by decide +kernel
theorem dL_holds_38 : decode cL_holds 38 = .ok (.iload 4, 2) := by decide +kernel
theorem dL_holds_40 : decode cL_holds 40 = .ok (.bipush 6, 2) := by decide +kernel
theorem dL_holds_42 : decode cL_holds 42 = .ok (.if_icmp .ge 222, 3) := by decide +kernel
theorem dL_holds_45 : decode cL_holds 45 = .ok (.iconst 0, 1) := by decide +kernel
theorem dL_holds_46 : decode cL_holds 46 = .ok (.istore 5, 2) := by decide +kernel
theorem dL_holds_48 : decode cL_holds 48 = .ok (.iconst 0, 1) := by decide +kernel
theorem dL_holds_49 : decode cL_holds 49 = .ok (.istore 6, 2) := by decide +kernel
theorem dL_holds_51 : decode cL_holds 51 = .ok (.iload 6, 2) := by decide +kernel
theorem dL_holds_53 : decode cL_holds 53 = .ok (.iconst 5, 1) := by decide +kernel
theorem dL_holds_54 : decode cL_holds 54 = .ok (.if_icmp .ge 52, 3) := by decide +kernel
theorem dL_holds_57 : decode cL_holds 57 = .ok (.iload 5, 2) := by decide +kernel
theorem dL_holds_59 : decode cL_holds 59 = .ok (.aload_n 0, 1) := by decide +kernel
theorem dL_holds_60 : decode cL_holds 60 = .ok (.iload_n 2, 1) := by decide +kernel
theorem dL_holds_61 : decode cL_holds 61 = .ok (.iload 4, 2) := by decide +kernel
theorem dL_holds_63 : decode cL_holds 63 = .ok (.iload 6, 2) := by decide +kernel
theorem dL_holds_65 : decode cL_holds 65 = .ok (.invokevirtual 28, 3) := by decide +kernel
theorem dL_holds_68 : decode cL_holds 68 = .ok (.iadd, 1) := by decide +kernel
theorem dL_holds_69 : decode cL_holds 69 = .ok (.istore 5, 2) := by decide +kernel
theorem dL_holds_71 : decode cL_holds 71 = .ok (.iload_n 1, 1) := by decide +kernel
theorem dL_holds_72 : decode cL_holds 72 = .ok (.ifCond .eq 26, 3) := by decide +kernel
theorem dL_holds_75 : decode cL_holds 75 = .ok (.iload 6, 2) := by decide +kernel
theorem dL_holds_77 : decode cL_holds 77 = .ok (.iconst 4, 1) := by decide +kernel
theorem dL_holds_78 : decode cL_holds 78 = .ok (.if_icmp .eq 16, 3) := by decide +kernel
theorem dL_holds_81 : decode cL_holds 81 = .ok (.aload_n 0, 1) := by decide +kernel
theorem dL_holds_82 : decode cL_holds 82 = .ok (.iload_n 2, 1) := by decide +kernel
theorem dL_holds_83 : decode cL_holds 83 = .ok (.iload 4, 2) := by decide +kernel
theorem dL_holds_85 : decode cL_holds 85 = .ok (.iload 6, 2) := by decide +kernel
theorem dL_holds_87 : decode cL_holds 87 = .ok (.invokevirtual 28, 3) := by decide +kernel
theorem dL_holds_90 : decode cL_holds 90 = .ok (.iconst 4, 1) := by decide +kernel
theorem dL_holds_91 : decode cL_holds 91 = .ok (.if_icmp .gt 7, 3) := by decide +kernel
theorem dL_holds_94 : decode cL_holds 94 = .ok (.iconst 1, 1) := by decide +kernel
theorem dL_holds_95 : decode cL_holds 95 = .ok (.goto 4, 3) := by decide +kernel
theorem dL_holds_98 : decode cL_holds 98 = .ok (.iconst 0, 1) := by decide +kernel
theorem dL_holds_99 : decode cL_holds 99 = .ok (.istore_n 1, 1) := by decide +kernel
theorem dL_holds_100 : decode cL_holds 100 = .ok (.iinc 6 1, 3) := by decide +kernel
theorem dL_holds_103 : decode cL_holds 103 = .ok (.goto (-52), 3) := by decide +kernel
theorem dL_holds_106 : decode cL_holds 106 = .ok (.iload_n 3, 1) := by decide +kernel
theorem dL_holds_107 : decode cL_holds 107 = .ok (.aload_n 0, 1) := by decide +kernel
theorem dL_holds_108 : decode cL_holds 108 = .ok (.iload_n 2, 1) := by decide +kernel
theorem dL_holds_109 : decode cL_holds 109 = .ok (.iload 4, 2) := by decide +kernel
theorem dL_holds_111 : decode cL_holds 111 = .ok (.iconst 1, 1) := by decide +kernel
theorem dL_holds_112 : decode cL_holds 112 = .ok (.invokevirtual 28, 3) := by decide +kernel
theorem dL_holds_115 : decode cL_holds 115 = .ok (.iconst 1, 1) := by decide +kernel
theorem dL_holds_116 : decode cL_holds 116 = .ok (.if_icmp .le 7, 3) := by decide +kernel
theorem dL_holds_119 : decode cL_holds 119 = .ok (.iconst 1, 1) := by decide +kernel
theorem dL_holds_120 : decode cL_holds 120 = .ok (.goto 4, 3) := by decide +kernel
theorem dL_holds_123 : decode cL_holds 123 = .ok (.iconst 0, 1) := by decide +kernel
theorem dL_holds_124 : decode cL_holds 124 = .ok (.iadd, 1) := by decide +kernel
theorem dL_holds_125 : decode cL_holds 125 = .ok (.istore_n 3, 1) := by decide +kernel
theorem dL_holds_126 : decode cL_holds 126 = .ok (.iload_n 1, 1) := by decide +kernel
theorem dL_holds_127 : decode cL_holds 127 = .ok (.ifCond .eq 129, 3) := by decide +kernel
theorem dL_holds_130 : decode cL_holds 130 = .ok (.aload_n 0, 1) := by decide +kernel
theorem dL_holds_131 : decode cL_holds 131 = .ok (.iload_n 2, 1) := by decide +kernel
theorem dL_holds_132 : decode cL_holds 132 = .ok (.iload 4, 2) := by decide +kernel
theorem dL_holds_134 : decode cL_holds 134 = .ok (.invokevirtual 77, 3) := by decide +kernel
theorem dL_holds_137 : decode cL_holds 137 = .ok (.iload 5, 2) := by decide +kernel
theorem dL_holds_139 : decode cL_holds 139 = .ok (.ifCond .le 7, 3) := by decide +kernel
theorem dL_holds_142 : decode cL_holds 142 = .ok (.iconst 1, 1) := by decide +kernel
theorem dL_holds_143 : decode cL_holds 143 = .ok (.goto 4, 3) := by decide +kernel
theorem dL_holds_146 : decode cL_holds 146 = .ok (.iconst 0, 1) := by decide +kernel
theorem dL_holds_147 : decode cL_holds 147 = .ok (.if_icmp .ne 109, 3) := by decide +kernel
theorem dL_holds_150 : decode cL_holds 150 = .ok (.aload_n 0, 1) := by decide +kernel
theorem dL_holds_151 : decode cL_holds 151 = .ok (.iload_n 2, 1) := by decide +kernel
theorem dL_holds_152 : decode cL_holds 152 = .ok (.iload 4, 2) := by decide +kernel
theorem dL_holds_154 : decode cL_holds 154 = .ok (.invokevirtual 13, 3) := by decide +kernel
theorem dL_holds_157 : decode cL_holds 157 = .ok (.ifCond .ge 7, 3) := by decide +kernel
theorem dL_holds_160 : decode cL_holds 160 = .ok (.iconst 1, 1) := by decide +kernel
theorem dL_holds_161 : decode cL_holds 161 = .ok (.goto 4, 3) := by decide +kernel
theorem dL_holds_164 : decode cL_holds 164 = .ok (.iconst 0, 1) := by decide +kernel
theorem dL_holds_165 : decode cL_holds 165 = .ok (.aload_n 0, 1) := by decide +kernel
theorem dL_holds_166 : decode cL_holds 166 = .ok (.iload_n 2, 1) := by decide +kernel
theorem dL_holds_167 : decode cL_holds 167 = .ok (.iload 4, 2) := by decide +kernel
theorem dL_holds_169 : decode cL_holds 169 = .ok (.iconst 0, 1) := by decide +kernel
theorem dL_holds_170 : decode cL_holds 170 = .ok (.invokevirtual 28, 3) := by decide +kernel
theorem dL_holds_173 : decode cL_holds 173 = .ok (.ifCond .ne 7, 3) := by decide +kernel
theorem dL_holds_176 : decode cL_holds 176 = .ok (.iconst 1, 1) := by decide +kernel
theorem dL_holds_177 : decode cL_holds 177 = .ok (.goto 4, 3) := by decide +kernel
theorem dL_holds_180 : decode cL_holds 180 = .ok (.iconst 0, 1) := by decide +kernel
theorem dL_holds_181 : decode cL_holds 181 = .ok (.if_icmp .ne 75, 3) := by decide +kernel
theorem dL_holds_184 : decode cL_holds 184 = .ok (.aload_n 0, 1) := by decide +kernel
theorem dL_holds_185 : decode cL_holds 185 = .ok (.iload_n 2, 1) := by decide +kernel
theorem dL_holds_186 : decode cL_holds 186 = .ok (.iload 4, 2) := by decide +kernel
theorem dL_holds_188 : decode cL_holds 188 = .ok (.invokevirtual 19, 3) := by decide +kernel
theorem dL_holds_191 : decode cL_holds 191 = .ok (.ifCond .ge 7, 3) := by decide +kernel
theorem dL_holds_194 : decode cL_holds 194 = .ok (.iconst 1, 1) := by decide +kernel
theorem dL_holds_195 : decode cL_holds 195 = .ok (.goto 4, 3) := by decide +kernel
theorem dL_holds_198 : decode cL_holds 198 = .ok (.iconst 0, 1) := by decide +kernel
theorem dL_holds_199 : decode cL_holds 199 = .ok (.aload_n 0, 1) := by decide +kernel
theorem dL_holds_200 : decode cL_holds 200 = .ok (.iload_n 2, 1) := by decide +kernel
theorem dL_holds_201 : decode cL_holds 201 = .ok (.iload 4, 2) := by decide +kernel
theorem dL_holds_203 : decode cL_holds 203 = .ok (.iconst 2, 1) := by decide +kernel
theorem dL_holds_204 : decode cL_holds 204 = .ok (.invokevirtual 28, 3) := by decide +kernel
theorem dL_holds_207 : decode cL_holds 207 = .ok (.ifCond .ne 7, 3) := by decide +kernel
theorem dL_holds_210 : decode cL_holds 210 = .ok (.iconst 1, 1) := by decide +kernel
theorem dL_holds_211 : decode cL_holds 211 = .ok (.goto 4, 3) := by decide +kernel
theorem dL_holds_214 : decode cL_holds 214 = .ok (.iconst 0, 1) := by decide +kernel
theorem dL_holds_215 : decode cL_holds 215 = .ok (.if_icmp .ne 41, 3) := by decide +kernel
theorem dL_holds_218 : decode cL_holds 218 = .ok (.aload_n 0, 1) := by decide +kernel
theorem dL_holds_219 : decode cL_holds 219 = .ok (.iload_n 2, 1) := by decide +kernel
theorem dL_holds_220 : decode cL_holds 220 = .ok (.iload 4, 2) := by decide +kernel
theorem dL_holds_222 : decode cL_holds 222 = .ok (.invokevirtual 25, 3) := by decide +kernel
theorem dL_holds_225 : decode cL_holds 225 = .ok (.ifCond .ne 7, 3) := by decide +kernel
theorem dL_holds_228 : decode cL_holds 228 = .ok (.iconst 1, 1) := by decide +kernel
theorem dL_holds_229 : decode cL_holds 229 = .ok (.goto 4, 3) := by decide +kernel
theorem dL_holds_232 : decode cL_holds 232 = .ok (.iconst 0, 1) := by decide +kernel
theorem dL_holds_233 : decode cL_holds 233 = .ok (.aload_n 0, 1) := by decide +kernel
theorem dL_holds_234 : decode cL_holds 234 = .ok (.iload_n 2, 1) := by decide +kernel
theorem dL_holds_235 : decode cL_holds 235 = .ok (.iload 4, 2) := by decide +kernel
theorem dL_holds_237 : decode cL_holds 237 = .ok (.iconst 4, 1) := by decide +kernel
theorem dL_holds_238 : decode cL_holds 238 = .ok (.invokevirtual 28, 3) := by decide +kernel
theorem dL_holds_241 : decode cL_holds 241 = .ok (.ifCond .ne 7, 3) := by decide +kernel
theorem dL_holds_244 : decode cL_holds 244 = .ok (.iconst 1, 1) := by decide +kernel
theorem dL_holds_245 : decode cL_holds 245 = .ok (.goto 4, 3) := by decide +kernel
theorem dL_holds_248 : decode cL_holds 248 = .ok (.iconst 0, 1) := by decide +kernel
theorem dL_holds_249 : decode cL_holds 249 = .ok (.if_icmp .ne 7, 3) := by decide +kernel
theorem dL_holds_252 : decode cL_holds 252 = .ok (.iconst 1, 1) := by decide +kernel
theorem dL_holds_253 : decode cL_holds 253 = .ok (.goto 4, 3) := by decide +kernel
theorem dL_holds_256 : decode cL_holds 256 = .ok (.iconst 0, 1) := by decide +kernel
theorem dL_holds_257 : decode cL_holds 257 = .ok (.istore_n 1, 1) := by decide +kernel
theorem dL_holds_258 : decode cL_holds 258 = .ok (.iinc 4 1, 3) := by decide +kernel
theorem dL_holds_261 : decode cL_holds 261 = .ok (.goto (-223), 3) := by decide +kernel
theorem dL_holds_264 : decode cL_holds 264 = .ok (.iconst 0, 1) := by decide +kernel
theorem dL_holds_265 : decode cL_holds 265 = .ok (.istore 4, 2) := by decide +kernel
theorem dL_holds_267 : decode cL_holds 267 = .ok (.iload 4, 2) := by decide +kernel
theorem dL_holds_269 : decode cL_holds 269 = .ok (.iconst 4, 1) := by decide +kernel
theorem dL_holds_270 : decode cL_holds 270 = .ok (.if_icmp .ge 134, 3) := by decide +kernel
theorem dL_holds_273 : decode cL_holds 273 = .ok (.aload_n 0, 1) := by decide +kernel
theorem dL_holds_274 : decode cL_holds 274 = .ok (.iload_n 2, 1) := by decide +kernel
theorem dL_holds_275 : decode cL_holds 275 = .ok (.iload 4, 2) := by decide +kernel
theorem dL_holds_277 : decode cL_holds 277 = .ok (.invokevirtual 87, 3) := by decide +kernel
theorem dL_holds_280 : decode cL_holds 280 = .ok (.istore 5, 2) := by decide +kernel
theorem dL_holds_282 : decode cL_holds 282 = .ok (.aload_n 0, 1) := by decide +kernel
theorem dL_holds_283 : decode cL_holds 283 = .ok (.iload 4, 2) := by decide +kernel
theorem dL_holds_285 : decode cL_holds 285 = .ok (.iload_n 2, 1) := by decide +kernel
theorem dL_holds_286 : decode cL_holds 286 = .ok (.invokevirtual 87, 3) := by decide +kernel
theorem dL_holds_289 : decode cL_holds 289 = .ok (.istore 6, 2) := by decide +kernel
theorem dL_holds_291 : decode cL_holds 291 = .ok (.iload_n 1, 1) := by decide +kernel
theorem dL_holds_292 : decode cL_holds 292 = .ok (.ifCond .eq 104, 3) := by decide +kernel
theorem dL_holds_295 : decode cL_holds 295 = .ok (.aload_n 0, 1) := by decide +kernel
theorem dL_holds_296 : decode cL_holds 296 = .ok (.iload_n 2, 1) := by decide +kernel
theorem dL_holds_297 : decode cL_holds 297 = .ok (.iload 4, 2) := by decide +kernel
theorem dL_holds_299 : decode cL_holds 299 = .ok (.invokevirtual 47, 3) := by decide +kernel
theorem dL_holds_302 : decode cL_holds 302 = .ok (.aload_n 0, 1) := by decide +kernel
theorem dL_holds_303 : decode cL_holds 303 = .ok (.iload 4, 2) := by decide +kernel
theorem dL_holds_305 : decode cL_holds 305 = .ok (.iload 4, 2) := by decide +kernel
theorem dL_holds_307 : decode cL_holds 307 = .ok (.invokevirtual 47, 3) := by decide +kernel
theorem dL_holds_310 : decode cL_holds 310 = .ok (.if_icmp .gt 86, 3) := by decide +kernel
theorem dL_holds_313 : decode cL_holds 313 = .ok (.iload 5, 2) := by decide +kernel
theorem dL_holds_315 : decode cL_holds 315 = .ok (.iconst 1, 1) := by decide +kernel
theorem dL_holds_316 : decode cL_holds 316 = .ok (.if_icmp .ne 7, 3) := by decide +kernel
theorem dL_holds_319 : decode cL_holds 319 = .ok (.iconst 1, 1) := by decide +kernel
theorem dL_holds_320 : decode cL_holds 320 = .ok (.goto 4, 3) := by decide +kernel
theorem dL_holds_323 : decode cL_holds 323 = .ok (.iconst 0, 1) := by decide +kernel
theorem dL_holds_324 : decode cL_holds 324 = .ok (.iload 6, 2) := by decide +kernel
theorem dL_holds_326 : decode cL_holds 326 = .ok (.iconst 2, 1) := by decide +kernel
theorem dL_holds_327 : decode cL_holds 327 = .ok (.if_icmp .ne 7, 3) := by decide +kernel
theorem dL_holds_330 : decode cL_holds 330 = .ok (.iconst 1, 1) := by decide +kernel
theorem dL_holds_331 : decode cL_holds 331 = .ok (.goto 4, 3) := by decide +kernel
theorem dL_holds_334 : decode cL_holds 334 = .ok (.iconst 0, 1) := by decide +kernel
theorem dL_holds_335 : decode cL_holds 335 = .ok (.if_icmp .ne 61, 3) := by decide +kernel
theorem dL_holds_338 : decode cL_holds 338 = .ok (.iload 5, 2) := by decide +kernel
theorem dL_holds_340 : decode cL_holds 340 = .ok (.ifCond .ne 7, 3) := by decide +kernel
theorem dL_holds_343 : decode cL_holds 343 = .ok (.iconst 1, 1) := by decide +kernel
theorem dL_holds_344 : decode cL_holds 344 = .ok (.goto 4, 3) := by decide +kernel
theorem dL_holds_347 : decode cL_holds 347 = .ok (.iconst 0, 1) := by decide +kernel
theorem dL_holds_348 : decode cL_holds 348 = .ok (.iload 6, 2) := by decide +kernel
theorem dL_holds_350 : decode cL_holds 350 = .ok (.ifCond .ne 7, 3) := by decide +kernel
theorem dL_holds_353 : decode cL_holds 353 = .ok (.iconst 1, 1) := by decide +kernel
theorem dL_holds_354 : decode cL_holds 354 = .ok (.goto 4, 3) := by decide +kernel
theorem dL_holds_357 : decode cL_holds 357 = .ok (.iconst 0, 1) := by decide +kernel
theorem dL_holds_358 : decode cL_holds 358 = .ok (.if_icmp .ne 38, 3) := by decide +kernel
theorem dL_holds_361 : decode cL_holds 361 = .ok (.iload 5, 2) := by decide +kernel
theorem dL_holds_363 : decode cL_holds 363 = .ok (.ifCond .ne 18, 3) := by decide +kernel
theorem dL_holds_366 : decode cL_holds 366 = .ok (.aload_n 0, 1) := by decide +kernel
theorem dL_holds_367 : decode cL_holds 367 = .ok (.iload_n 2, 1) := by decide +kernel
theorem dL_holds_368 : decode cL_holds 368 = .ok (.invokestatic 37, 3) := by decide +kernel
theorem dL_holds_371 : decode cL_holds 371 = .ok (.aload_n 0, 1) := by decide +kernel
theorem dL_holds_372 : decode cL_holds 372 = .ok (.iload 4, 2) := by decide +kernel
theorem dL_holds_374 : decode cL_holds 374 = .ok (.invokestatic 37, 3) := by decide +kernel
theorem dL_holds_377 : decode cL_holds 377 = .ok (.lcmp, 1) := by decide +kernel
theorem dL_holds_378 : decode cL_holds 378 = .ok (.ifCond .ne 18, 3) := by decide +kernel
theorem dL_holds_381 : decode cL_holds 381 = .ok (.iload_n 2, 1) := by decide +kernel
theorem dL_holds_382 : decode cL_holds 382 = .ok (.iload 4, 2) := by decide +kernel
theorem dL_holds_384 : decode cL_holds 384 = .ok (.if_icmp .ne 8, 3) := by decide +kernel
theorem dL_holds_387 : decode cL_holds 387 = .ok (.iload 5, 2) := by decide +kernel
theorem dL_holds_389 : decode cL_holds 389 = .ok (.ifCond .ne 7, 3) := by decide +kernel
theorem dL_holds_392 : decode cL_holds 392 = .ok (.iconst 1, 1) := by decide +kernel
theorem dL_holds_393 : decode cL_holds 393 = .ok (.goto 4, 3) := by decide +kernel
theorem dL_holds_396 : decode cL_holds 396 = .ok (.iconst 0, 1) := by decide +kernel
theorem dL_holds_397 : decode cL_holds 397 = .ok (.istore_n 1, 1) := by decide +kernel
theorem dL_holds_398 : decode cL_holds 398 = .ok (.iinc 4 1, 3) := by decide +kernel
theorem dL_holds_401 : decode cL_holds 401 = .ok (.goto (-134), 3) := by decide +kernel
theorem dL_holds_404 : decode cL_holds 404 = .ok (.iload_n 1, 1) := by decide +kernel
theorem dL_holds_405 : decode cL_holds 405 = .ok (.ifCond .eq 16, 3) := by decide +kernel
theorem dL_holds_408 : decode cL_holds 408 = .ok (.aload_n 0, 1) := by decide +kernel
theorem dL_holds_409 : decode cL_holds 409 = .ok (.iload_n 2, 1) := by decide +kernel
theorem dL_holds_410 : decode cL_holds 410 = .ok (.invokevirtual 93, 3) := by decide +kernel
theorem dL_holds_413 : decode cL_holds 413 = .ok (.iload_n 3, 1) := by decide +kernel
theorem dL_holds_414 : decode cL_holds 414 = .ok (.if_icmp .ne 7, 3) := by decide +kernel
theorem dL_holds_417 : decode cL_holds 417 = .ok (.iconst 1, 1) := by decide +kernel
theorem dL_holds_418 : decode cL_holds 418 = .ok (.goto 4, 3) := by decide +kernel
theorem dL_holds_421 : decode cL_holds 421 = .ok (.iconst 0, 1) := by decide +kernel
theorem dL_holds_422 : decode cL_holds 422 = .ok (.istore_n 1, 1) := by decide +kernel
theorem dL_holds_423 : decode cL_holds 423 = .ok (.iinc 2 1, 3) := by decide +kernel
theorem dL_holds_426 : decode cL_holds 426 = .ok (.goto (-422), 3) := by decide +kernel
theorem dL_holds_429 : decode cL_holds 429 = .ok (.aload_n 0, 1) := by decide +kernel
theorem dL_holds_430 : decode cL_holds 430 = .ok (.invokevirtual 96, 3) := by decide +kernel
theorem dL_holds_433 : decode cL_holds 433 = .ok (.ldc2_w 100, 3) := by decide +kernel
theorem dL_holds_436 : decode cL_holds 436 = .ok (.dmul, 1) := by decide +kernel
theorem dL_holds_437 : decode cL_holds 437 = .ok (.dstore_n 2, 1) := by decide +kernel
theorem dL_holds_438 : decode cL_holds 438 = .ok (.iload_n 1, 1) := by decide +kernel
theorem dL_holds_439 : decode cL_holds 439 = .ok (.ifCond .eq 21, 3) := by decide +kernel
theorem dL_holds_442 : decode cL_holds 442 = .ok (.dload_n 2, 1) := by decide +kernel
theorem dL_holds_443 : decode cL_holds 443 = .ok (.dconst 0, 1) := by decide +kernel
theorem dL_holds_444 : decode cL_holds 444 = .ok (.dcmp .l, 1) := by decide +kernel
theorem dL_holds_445 : decode cL_holds 445 = .ok (.ifCond .lt 15, 3) := by decide +kernel
theorem dL_holds_448 : decode cL_holds 448 = .ok (.dload_n 2, 1) := by decide +kernel
theorem dL_holds_449 : decode cL_holds 449 = .ok (.ldc2_w 102, 3) := by decide +kernel
theorem dL_holds_452 : decode cL_holds 452 = .ok (.dcmp .g, 1) := by decide +kernel
theorem dL_holds_453 : decode cL_holds 453 = .ok (.ifCond .gt 7, 3) := by decide +kernel
theorem dL_holds_456 : decode cL_holds 456 = .ok (.iconst 1, 1) := by decide +kernel
theorem dL_holds_457 : decode cL_holds 457 = .ok (.goto 4, 3) := by decide +kernel
theorem dL_holds_460 : decode cL_holds 460 = .ok (.iconst 0, 1) := by decide +kernel
theorem dL_holds_461 : decode cL_holds 461 = .ok (.ireturn, 1) := by decide +kernel
set_option maxRecDepth 20000 in
theorem ggL_isKept_L_told : GoodIn wsL_isKept wsL_told := goodIn_ca (goodIn_ca (goodIn_r _ [4, 5, 6, 7, 8, 3, 9, 10, 11, 12, 13, 14, 15, 16, 17, 18, 19, 20, 21, 22, 23, 24, 25, 26, 27, 28, 29, 30, 31, 32, 33, 34, 35, 36, 37, 38, 39, 40, 41, 42, 43, 44, 45, 46, 47, 48, 49, 50, 51, 52, 53, 54, 55, 56, 57, 58, 59, 60, 61, 62, 63, 64, 65, 66, 67, 68, 69, 70, 71, 72, 73, 74, 75, 76, 77, 78, 79, 80, 81, 82, 83, 84, 85, 86, 87, 88, 89, 90, 91, 92, 93, 94, 95, 96, 97, 98, 99, 100, 101, 102, 103, 104, 105, 106, 107, 108, 109, 110, 111, 112, 232, 233, 234, 235, 236, 237, 238, 239, 240] (by decide +kernel) (by decide +kernel)) (goodIn_sub (fun _ h => List.mem_cons_of_mem _ (List.mem_append_left _ (List.mem_append_left _ (List.mem_append_right _ h)))) (by decide +kernel))) (goodIn_sub (fun _ h => List.mem_cons_of_mem _ (List.mem_append_left _ (List.mem_append_right _ h))) (by decide +kernel))
set_option maxRecDepth 20000 in
theorem gL_isKept_L_told : GoodIn wsL_isKept (va_wsS RL 104 yL_told wsL_told) := goodIn_app (goodIn_of _ (by decide +kernel)) ggL_isKept_L_told
set_option maxRecDepth 20000 in
theorem ggL_isKept_X3_merge : GoodIn wsL_isKept wsX3_merge := goodIn_ca (goodIn_ca (goodIn_r _ [116, 117, 16, 17, 18, 14, 19, 20, 21, 118, 119, 120, 111, 112, 121, 122, 123, 124, 125, 126, 127, 128, 129, 130, 28, 131, 132, 133, 134, 135, 136, 30, 31, 32, 106, 137, 138, 139, 140, 141, 142, 143, 144, 145, 146, 147, 148, 149, 150, 151, 152, 153, 154, 155, 156, 157, 158, 159, 103, 104, 105, 160, 161, 162, 163, 164, 165, 166, 167, 168, 169, 170, 171, 172, 173, 174, 175, 50, 51, 52, 53, 232, 233, 234, 241, 242, 243, 235, 236, 237, 238, 239, 240] (by decide +kernel) (by decide +kernel)) (goodIn_sub (fun _ h => List.mem_cons_of_mem _ (List.mem_append_left _ (List.mem_append_left _ (List.mem_append_right _ h)))) (by decide +kernel))) (goodIn_sub (fun _ h => List.mem_cons_of_mem _ (List.mem_append_left _ (List.mem_append_right _ h))) (by decide +kernel))
set_option maxRecDepth 20000 in
theorem gL_isKept_X3_merge : GoodIn wsL_isKept (wsV RL 90 RX3 yX3_merge wsX3_merge) := goodIn_app (goodIn_of _ (by decide +kernel)) ggL_isKept_X3_merge
set_option maxRecDepth 20000 in
theorem ggL_isKept_X3_relation : GoodIn wsL_isKept wsX3_relation := goodIn_ca (goodIn_r _ [179, 16, 17, 18, 14, 19, 20, 21, 180, 181, 182, 28, 183, 159, 103, 104, 105, 106, 232, 233, 234, 235, 236, 237, 238, 239, 240] (by decide +kernel) (by decide +kernel)) (goodIn_sub (fun _ h => List.mem_cons_of_mem _ (List.mem_append_left _ (List.mem_append_left _ (List.mem_append_right _ h)))) (by decide +kernel))
set_option maxRecDepth 20000 in
theorem gL_isKept_X3_relation : GoodIn wsL_isKept (wsV RL 87 RX3 yX3_relation wsX3_relation) := goodIn_app (goodIn_of _ (by decide +kernel)) ggL_isKept_X3_relation
set_option maxRecDepth 20000 in
theorem ggL_isKept_X3_include : GoodIn wsL_isKept wsX3_include := goodIn_ca (goodIn_ca (goodIn_r _ [187, 117, 16, 17, 18, 14, 19, 20, 21, 22, 23, 24, 188, 189, 190, 111, 112, 121, 122, 123, 124, 125, 126, 127, 128, 129, 130, 28, 131, 132, 133, 134, 135, 136, 30, 31, 32, 106, 137, 138, 139, 140, 141, 142, 143, 144, 145, 146, 191, 192, 193, 194, 195, 196, 197, 198, 199, 200, 201, 202, 203, 204, 205, 36, 37, 38, 206, 207, 208, 209, 78, 79, 80, 81, 210, 211, 212, 213, 159, 103, 104, 105, 232, 233, 234, 241, 242, 243, 235, 236, 237, 238, 239, 240] (by decide +kernel) (by decide +kernel)) (goodIn_sub (fun _ h => List.mem_cons_of_mem _ (List.mem_append_left _ (List.mem_append_left _ (List.mem_append_right _ h)))) (by decide +kernel))) (goodIn_sub (fun _ h => List.mem_cons_of_mem _ (List.mem_append_left _ (List.mem_append_right _ h))) (by decide +kernel))
set_option maxRecDepth 20000 in
theorem gL_isKept_X3_include : GoodIn wsL_isKept (wsV RL 71 RX3 yX3_include wsX3_include) := goodIn_app (goodIn_of _ (by decide +kernel)) ggL_isKept_X3_include
set_option maxRecDepth 20000 in
theorem ggL_isKept_X3_exclude : GoodIn wsL_isKept wsX3_exclude := goodIn_ca (goodIn_ca (goodIn_r _ [217, 117, 16, 17, 18, 14, 19, 20, 21, 22, 23, 24, 188, 189, 190, 111, 112, 121, 122, 123, 124, 125, 126, 127, 128, 129, 130, 28, 131, 132, 133, 134, 135, 136, 30, 31, 32, 106, 137, 138, 139, 140, 141, 142, 143, 144, 145, 146, 218, 219, 220, 221, 195, 196, 197, 198, 199, 200, 201, 202, 203, 204, 205, 36, 37, 38, 206, 207, 208, 209, 78, 79, 80, 81, 232, 233, 234, 241, 242, 243, 235, 236, 237, 238, 239, 240] (by decide +kernel) (by decide +kernel)) (goodIn_sub (fun _ h => List.mem_cons_of_mem _ (List.mem_append_left _ (List.mem_append_left _ (List.mem_append_right _ h)))) (by decide +kernel))) (goodIn_sub (fun _ h => List.mem_cons_of_mem _ (List.mem_append_left _ (List.mem_append_right _ h))) (by decide +kernel))
set_option maxRecDepth 20000 in
theorem gL_isKept_X3_exclude : GoodIn wsL_isKept (wsV RL 74 RX3 yX3_exclude wsX3_exclude) := goodIn_app (goodIn_of _ (by decide +kernel)) ggL_isKept_X3_exclude
set_option maxRecDepth 20000 in
theorem ggL_isKept_X3_elements : GoodIn wsL_isKept wsX3_elements := goodIn_ca (goodIn_r _ [65, 16, 17, 18, 14, 19, 20, 21, 22, 23, 24, 66, 67, 68, 28, 69, 30, 32, 39, 40, 41, 36, 37, 38, 33, 34, 35, 232, 233, 234, 235, 236, 237, 238, 239, 240] (by decide +kernel) (by decide +kernel)) (goodIn_sub (fun _ h => List.mem_cons_of_mem _ (List.mem_append_left _ (List.mem_append_left _ (List.mem_append_right _ h)))) (by decide +kernel))
set_option maxRecDepth 20000 in
theorem gL_isKept_X3_elements : GoodIn wsL_isKept (wsV RL 25 RX3 yX3_elements wsX3_elements) := goodIn_app (goodIn_of _ (by decide +kernel)) ggL_isKept_X3_elements
set_option maxRecDepth 20000 in
theorem ggL_isKept_X3_undo : GoodIn wsL_isKept wsX3_undo := goodIn_ca (goodIn_r _ [225, 226, 227, 117, 16, 228, 229, 230, 124, 231, 126, 128, 127, 139, 140, 141, 28, 142, 30, 143, 144, 145, 146, 31, 32, 106, 137, 138, 232, 233, 234, 241, 242, 243, 235, 236, 237, 238, 239, 240] (by decide +kernel) (by decide +kernel)) (goodIn_sub (fun _ h => List.mem_cons_of_mem _ (List.mem_append_right _ h)) (by decide +kernel))
set_option maxRecDepth 20000 in
theorem gL_isKept_X3_undo : GoodIn wsL_isKept (wsV RL 108 RX3 yX3_undo wsX3_undo) := goodIn_app (goodIn_of _ (by decide +kernel)) ggL_isKept_X3_undo
theorem dL_isKept_0 : decode cL_isKept 0 = .ok (.aload_n 0, 1) := by decide +kernel
theorem dL_isKept_1 : decode cL_isKept 1 = .ok (.invokestatic 104, 3) := by decide +kernel
theorem dL_isKept_4 : decode cL_isKept 4 = .ok (.lstore 4, 2) := by decide +kernel
theorem dL_isKept_6 : decode cL_isKept 6 = .ok (.aload_n 0, 1) := by decide +kernel
theorem dL_isKept_7 : decode cL_isKept 7 = .ok (.iload_n 1, 1) := by decide +kernel
theorem dL_isKept_8 : decode cL_isKept 8 = .ok (.iload_n 2, 1) := by decide +kernel
theorem dL_isKept_9 : decode cL_isKept 9 = .ok (.invokevirtual 90, 3) := by decide +kernel
theorem dL_isKept_12 : decode cL_isKept 12 = .ok (.ifCond .lt 25, 3) := by decide +kernel
theorem dL_isKept_15 : decode cL_isKept 15 = .ok (.aload_n 0, 1) := by decide +kernel
theorem dL_isKept_16 : decode cL_isKept 16 = .ok (.iload_n 2, 1) := by decide +kernel
theorem dL_isKept_17 : decode cL_isKept 17 = .ok (.iload_n 1, 1) := by decide +kernel
theorem dL_isKept_18 : decode cL_isKept 18 = .ok (.invokevirtual 90, 3) := by decide +kernel
theorem dL_isKept_21 : decode cL_isKept 21 = .ok (.ifCond .lt 16, 3) := by decide +kernel
theorem dL_isKept_24 : decode cL_isKept 24 = .ok (.aload_n 0, 1) := by decide +kernel
theorem dL_isKept_25 : decode cL_isKept 25 = .ok (.iload_n 1, 1) := by decide +kernel
theorem dL_isKept_26 : decode cL_isKept 26 = .ok (.iload_n 2, 1) := by decide +kernel
theorem dL_isKept_27 : decode cL_isKept 27 = .ok (.invokevirtual 87, 3) := by decide +kernel
theorem dL_isKept_30 : decode cL_isKept 30 = .ok (.ifCond .ne 7, 3) := by decide +kernel
theorem dL_isKept_33 : decode cL_isKept 33 = .ok (.iconst 1, 1) := by decide +kernel
theorem dL_isKept_34 : decode cL_isKept 34 = .ok (.goto 4, 3) := by decide +kernel
theorem dL_isKept_37 : decode cL_isKept 37 = .ok (.iconst 0, 1) := by decide +kernel
theorem dL_isKept_38 : decode cL_isKept 38 = .ok (.istore 6, 2) := by decide +kernel
theorem dL_isKept_40 : decode cL_isKept 40 = .ok (.aload_n 0, 1) := by decide +kernel
theorem dL_isKept_41 : decode cL_isKept 41 = .ok (.iload_n 1, 1) := by decide +kernel
theorem dL_isKept_42 : decode cL_isKept 42 = .ok (.iconst 0, 1) := by decide +kernel
theorem dL_isKept_43 : decode cL_isKept 43 = .ok (.iload_n 3, 1) := by decide +kernel
theorem dL_isKept_44 : decode cL_isKept 44 = .ok (.invokevirtual 71, 3) := by decide +kernel
theorem dL_isKept_47 : decode cL_isKept 47 = .ok (.aload_n 0, 1) := by decide +kernel
theorem dL_isKept_48 : decode cL_isKept 48 = .ok (.iload_n 2, 1) := by decide +kernel
theorem dL_isKept_49 : decode cL_isKept 49 = .ok (.iconst 0, 1) := by decide +kernel
theorem dL_isKept_50 : decode cL_isKept 50 = .ok (.iload_n 3, 1) := by decide +kernel
theorem dL_isKept_51 : decode cL_isKept 51 = .ok (.invokevirtual 74, 3) := by decide +kernel
theorem dL_isKept_54 : decode cL_isKept 54 = .ok (.iadd, 1) := by decide +kernel
theorem dL_isKept_55 : decode cL_isKept 55 = .ok (.istore 7, 2) := by decide +kernel
theorem dL_isKept_57 : decode cL_isKept 57 = .ok (.iload 6, 2) := by decide +kernel
theorem dL_isKept_59 : decode cL_isKept 59 = .ok (.ifCond .eq 58, 3) := by decide +kernel
theorem dL_isKept_62 : decode cL_isKept 62 = .ok (.iload 7, 2) := by decide +kernel
theorem dL_isKept_64 : decode cL_isKept 64 = .ok (.ifCond .lt 53, 3) := by decide +kernel
theorem dL_isKept_67 : decode cL_isKept 67 = .ok (.aload_n 0, 1) := by decide +kernel
theorem dL_isKept_68 : decode cL_isKept 68 = .ok (.iload_n 1, 1) := by decide +kernel
theorem dL_isKept_69 : decode cL_isKept 69 = .ok (.iload_n 2, 1) := by decide +kernel
theorem dL_isKept_70 : decode cL_isKept 70 = .ok (.invokevirtual 90, 3) := by decide +kernel
theorem dL_isKept_73 : decode cL_isKept 73 = .ok (.ifCond .lt 44, 3) := by decide +kernel
theorem dL_isKept_76 : decode cL_isKept 76 = .ok (.aload_n 0, 1) := by decide +kernel
theorem dL_isKept_77 : decode cL_isKept 77 = .ok (.iload_n 2, 1) := by decide +kernel
theorem dL_isKept_78 : decode cL_isKept 78 = .ok (.iload_n 1, 1) := by decide +kernel
theorem dL_isKept_79 : decode cL_isKept 79 = .ok (.invokevirtual 90, 3) := by decide +kernel
theorem dL_isKept_82 : decode cL_isKept 82 = .ok (.ifCond .lt 35, 3) := by decide +kernel
theorem dL_isKept_85 : decode cL_isKept 85 = .ok (.aload_n 0, 1) := by decide +kernel
theorem dL_isKept_86 : decode cL_isKept 86 = .ok (.iload_n 1, 1) := by decide +kernel
theorem dL_isKept_87 : decode cL_isKept 87 = .ok (.iconst 0, 1) := by decide +kernel
theorem dL_isKept_88 : decode cL_isKept 88 = .ok (.invokevirtual 25, 3) := by decide +kernel
theorem dL_isKept_91 : decode cL_isKept 91 = .ok (.iload_n 3, 1) := by decide +kernel
end
section
theorem dL_isKept_92 : decode cL_isKept 92 = .ok (.ishr, 1) := by decide +kernel
theorem dL_isKept_93 : decode cL_isKept 93 = .ok (.iconst 1, 1) := by decide +kernel
theorem dL_isKept_94 : decode cL_isKept 94 = .ok (.iand, 1) := by decide +kernel
theorem dL_isKept_95 : decode cL_isKept 95 = .ok (.iconst 1, 1) := by decide +kernel
theorem dL_isKept_96 : decode cL_isKept 96 = .ok (.if_icmp .ne 21, 3) := by decide +kernel
theorem dL_isKept_99 : decode cL_isKept 99 = .ok (.aload_n 0, 1) := by decide +kernel
theorem dL_isKept_100 : decode cL_isKept 100 = .ok (.iload_n 2, 1) := by decide +kernel
theorem dL_isKept_101 : decode cL_isKept 101 = .ok (.iconst 0, 1) := by decide +kernel
theorem dL_isKept_102 : decode cL_isKept 102 = .ok (.invokevirtual 25, 3) := by decide +kernel
theorem dL_isKept_105 : decode cL_isKept 105 = .ok (.iload_n 3, 1) := by decide +kernel
theorem dL_isKept_106 : decode cL_isKept 106 = .ok (.ishr, 1) := by decide +kernel
theorem dL_isKept_107 : decode cL_isKept 107 = .ok (.iconst 1, 1) := by decide +kernel
theorem dL_isKept_108 : decode cL_isKept 108 = .ok (.iand, 1) := by decide +kernel
theorem dL_isKept_109 : decode cL_isKept 109 = .ok (.iconst 1, 1) := by decide +kernel
theorem dL_isKept_110 : decode cL_isKept 110 = .ok (.if_icmp .ne 7, 3) := by decide +kernel
theorem dL_isKept_113 : decode cL_isKept 113 = .ok (.iconst 1, 1) := by decide +kernel
theorem dL_isKept_114 : decode cL_isKept 114 = .ok (.goto 4, 3) := by decide +kernel
theorem dL_isKept_117 : decode cL_isKept 117 = .ok (.iconst 0, 1) := by decide +kernel
theorem dL_isKept_118 : decode cL_isKept 118 = .ok (.istore 6, 2) := by decide +kernel
theorem dL_isKept_120 : decode cL_isKept 120 = .ok (.iconst 0, 1) := by decide +kernel
theorem dL_isKept_121 : decode cL_isKept 121 = .ok (.istore 8, 2) := by decide +kernel
theorem dL_isKept_123 : decode cL_isKept 123 = .ok (.iload 8, 2) := by decide +kernel
theorem dL_isKept_125 : decode cL_isKept 125 = .ok (.bipush 6, 2) := by decide +kernel
theorem dL_isKept_127 : decode cL_isKept 127 = .ok (.if_icmp .ge 32, 3) := by decide +kernel
theorem dL_isKept_130 : decode cL_isKept 130 = .ok (.iload 6, 2) := by decide +kernel
theorem dL_isKept_132 : decode cL_isKept 132 = .ok (.ifCond .eq 27, 3) := by decide +kernel
theorem dL_isKept_135 : decode cL_isKept 135 = .ok (.aload_n 0, 1) := by decide +kernel
theorem dL_isKept_136 : decode cL_isKept 136 = .ok (.invokevirtual 108, 3) := by decide +kernel
theorem dL_isKept_139 : decode cL_isKept 139 = .ok (.iconst 5, 1) := by decide +kernel
theorem dL_isKept_140 : decode cL_isKept 140 = .ok (.iload 8, 2) := by decide +kernel
theorem dL_isKept_142 : decode cL_isKept 142 = .ok (.isub, 1) := by decide +kernel
theorem dL_isKept_143 : decode cL_isKept 143 = .ok (.if_icmp .ne 7, 3) := by decide +kernel
theorem dL_isKept_146 : decode cL_isKept 146 = .ok (.iconst 1, 1) := by decide +kernel
theorem dL_isKept_147 : decode cL_isKept 147 = .ok (.goto 4, 3) := by decide +kernel
theorem dL_isKept_150 : decode cL_isKept 150 = .ok (.iconst 0, 1) := by decide +kernel
theorem dL_isKept_151 : decode cL_isKept 151 = .ok (.istore 6, 2) := by decide +kernel
theorem dL_isKept_153 : decode cL_isKept 153 = .ok (.iinc 8 1, 3) := by decide +kernel
theorem dL_isKept_156 : decode cL_isKept 156 = .ok (.goto (-33), 3) := by decide +kernel
theorem dL_isKept_159 : decode cL_isKept 159 = .ok (.iload 6, 2) := by decide +kernel
theorem dL_isKept_161 : decode cL_isKept 161 = .ok (.ifCond .eq 17, 3) := by decide +kernel
theorem dL_isKept_164 : decode cL_isKept 164 = .ok (.aload_n 0, 1) := by decide +kernel
theorem dL_isKept_165 : decode cL_isKept 165 = .ok (.invokestatic 104, 3) := by decide +kernel
theorem dL_isKept_168 : decode cL_isKept 168 = .ok (.lload 4, 2) := by decide +kernel
theorem dL_isKept_170 : decode cL_isKept 170 = .ok (.lcmp, 1) := by decide +kernel
theorem dL_isKept_171 : decode cL_isKept 171 = .ok (.ifCond .ne 7, 3) := by decide +kernel
theorem dL_isKept_174 : decode cL_isKept 174 = .ok (.iconst 1, 1) := by decide +kernel
theorem dL_isKept_175 : decode cL_isKept 175 = .ok (.goto 4, 3) := by decide +kernel
theorem dL_isKept_178 : decode cL_isKept 178 = .ok (.iconst 0, 1) := by decide +kernel
theorem dL_isKept_179 : decode cL_isKept 179 = .ok (.ireturn, 1) := by decide +kernel
set_option maxRecDepth 20000 in
theorem ggL_law_X3_init : GoodIn wsL_law wsX3_init := goodIn_r _ [5, 6, 7, 8, 9, 10, 11, 12, 13, 14, 15, 16, 17, 18, 19, 20, 21, 22, 23, 24, 25, 26, 27, 28, 29, 30, 31, 32, 33, 34, 35, 36, 37, 38, 39, 40, 41, 42, 43, 44, 45, 46, 47, 48, 345, 346, 347, 348, 349, 350, 342, 343, 344, 351, 352, 353, 354, 355, 356, 357, 358, 359, 360] (by decide +kernel) (by decide +kernel)
set_option maxRecDepth 20000 in
theorem gL_law_X3_init : GoodIn wsL_law (wsX3_init) := ggL_law_X3_init
set_option maxRecDepth 20000 in
theorem ggL_law_L_holds : GoodIn wsL_law wsL_holds := goodIn_ca (goodIn_r _ [52, 53, 54, 55, 56, 57, 2, 58, 12, 59, 60, 61, 62, 63, 64, 65, 66, 67, 68, 69, 70, 11, 71, 28, 72, 73, 74, 75, 76, 77, 78, 79, 80, 81, 82, 83, 84, 85, 86, 87, 88, 89, 90, 91, 92, 93, 94, 95, 25, 96, 97, 98, 99, 100, 101, 102, 103, 104, 105, 106, 107, 108, 109, 110, 111, 26, 27, 112, 113, 114, 115, 116, 117, 118, 119, 120, 121, 122, 123, 124, 125, 126, 127, 128, 129, 130, 131, 132, 133, 134, 135, 136, 137, 138, 139, 140, 141, 142, 51, 143, 144, 145, 146, 147, 148, 149, 150, 151, 152, 153, 154, 155, 156, 157, 158, 159, 160, 161, 162, 163, 164, 165, 166, 167, 168, 169, 170, 171, 172, 173, 174, 175, 176, 177, 178, 342, 343, 344, 345, 346, 347, 348, 349, 350] rfl (by decide +kernel)) (goodIn_sub (fun _ h => List.mem_append_left _ (List.mem_append_left _ (List.mem_append_right _ h))) (by decide +kernel))
set_option maxRecDepth 20000 in
theorem gL_law_L_holds : GoodIn wsL_law (va_wsS RL 113 yL_holds wsL_holds) := goodIn_app (goodIn_of _ (by decide +kernel)) ggL_law_L_holds
end
section
set_option maxRecDepth 20000 in
theorem ggL_law_X3_agreement : GoodIn wsL_law wsX3_agreement := goodIn_r _ [173, 12, 174, 175, 176, 177, 11, 178, 25, 89, 90, 91, 86, 87, 88, 83, 84, 85, 342, 343, 344, 345, 346, 347, 348, 349, 350] (by decide +kernel) (by decide +kernel)
set_option maxRecDepth 20000 in
theorem gL_law_X3_agreement : GoodIn wsL_law (wsV RL 96 RX3 yX3_agreement wsX3_agreement) := goodIn_app (goodIn_of _ (by decide +kernel)) ggL_law_X3_agreement
set_option maxRecDepth 20000 in
theorem ggL_law_L_cell : GoodIn wsL_law wsL_cell := goodIn_r _ [181, 182] (by decide +kernel) (by decide +kernel)
set_option maxRecDepth 20000 in
theorem gL_law_L_cell : GoodIn wsL_law (va_wsS RL 117 yL_cell wsL_cell) := goodIn_app (goodIn_of _ (by decide +kernel)) ggL_law_L_cell
set_option maxRecDepth 20000 in
theorem ggL_law_L_up : GoodIn wsL_law wsL_up := goodIn_r _ [185, 186] (by decide +kernel) (by decide +kernel)
set_option maxRecDepth 20000 in
theorem gL_law_L_up : GoodIn wsL_law (va_wsS RL 53 yL_up wsL_up) := goodIn_app (goodIn_of _ (by decide +kernel)) ggL_law_L_up
set_option maxRecDepth 20000 in
theorem ggL_law_L_told : GoodIn wsL_law wsL_told := goodIn_ca (goodIn_ca (goodIn_r _ [189, 190, 145, 141, 142, 51, 143, 144, 104, 105, 106, 2, 107, 12, 59, 60, 61, 62, 63, 76, 77, 78, 108, 109, 110, 11, 111, 25, 26, 27, 83, 84, 85, 86, 87, 88, 89, 90, 91, 112, 113, 114, 115, 116, 117, 118, 119, 120, 121, 122, 123, 146, 147, 148, 149, 150, 151, 152, 153, 124, 125, 126, 127, 128, 129, 130, 131, 72, 73, 74, 75, 79, 80, 81, 82, 92, 93, 94, 95, 154, 155, 156, 157, 158, 159, 160, 161, 162, 163, 164, 165, 55, 56, 57, 58, 64, 65, 66, 67, 68, 69, 70, 71, 28, 191, 192, 193, 194, 195, 196, 342, 343, 344, 345, 346, 347, 348, 349, 350] (by decide +kernel) (by decide +kernel)) (goodIn_sub (fun _ h => List.mem_append_left _ (List.mem_append_left _ (List.mem_append_right _ h))) (by decide +kernel))) (goodIn_sub (fun _ h => List.mem_append_left _ (List.mem_append_right _ h)) (by decide +kernel))
set_option maxRecDepth 20000 in
theorem gL_law_L_told : GoodIn wsL_law (va_wsS RL 104 yL_told wsL_told) := goodIn_app (goodIn_of _ (by decide +kernel)) ggL_law_L_told
end
section
set_option maxRecDepth 20000 in
theorem ggL_law_L_merges : GoodIn wsL_law wsL_merges := goodIn_ca (goodIn_ca (goodIn_r _ [199, 24, 200, 201, 202, 2, 203, 195, 196, 12, 59, 60, 61, 62, 63, 204, 205, 206, 207, 208, 209, 11, 210, 211, 212, 213, 214, 25, 140, 69, 70, 71, 28, 215, 216, 217, 218, 219, 220, 221, 222, 141, 142, 51, 143, 144, 145, 104, 105, 106, 107, 76, 77, 78, 108, 109, 110, 111, 26, 27, 83, 84, 85, 86, 87, 88, 89, 90, 91, 112, 113, 114, 115, 116, 117, 118, 119, 120, 121, 122, 123, 146, 147, 148, 149, 150, 151, 152, 153, 124, 125, 126, 127, 128, 129, 130, 131, 72, 73, 74, 75, 79, 80, 81, 82, 92, 93, 94, 95, 154, 155, 156, 157, 158, 159, 160, 161, 162, 163, 164, 165, 64, 65, 66, 67, 68, 55, 56, 57, 58, 132, 133, 134, 135, 136, 137, 138, 139, 223, 224, 225, 226, 16, 227, 228, 229, 15, 230, 37, 36, 35, 34, 10, 21, 22, 23, 7, 8, 29, 30, 231, 232, 233, 234, 235, 236, 237, 238, 239, 240, 241, 242, 243, 244, 245, 246, 247, 248, 249, 250, 251, 252, 191, 192, 193, 194, 342, 343, 344, 345, 346, 347, 348, 349, 350, 351, 352, 353] rfl (by decide +kernel)) (goodIn_sub (fun _ h => List.mem_append_left _ (List.mem_append_right _ h)) (by decide +kernel))) (goodIn_sub (fun _ h => List.mem_append_left _ (List.mem_append_left _ (List.mem_append_right _ h))) (by decide +kernel))
set_option maxRecDepth 20000 in
theorem gL_law_L_merges : GoodIn wsL_law (va_wsS RL 121 yL_merges wsL_merges) := goodIn_app (goodIn_of _ (by decide +kernel)) ggL_law_L_merges
end
section
set_option maxRecDepth 20000 in
theorem ggL_law_L_updates : GoodIn wsL_law wsL_updates := goodIn_ca (goodIn_ca (goodIn_r _ [255, 256, 257, 183, 184, 51, 185, 186, 55, 56, 57, 2, 58, 12, 59, 60, 61, 62, 63, 64, 65, 66, 67, 68, 69, 70, 11, 71, 28, 141, 142, 143, 144, 145, 104, 105, 106, 107, 76, 77, 78, 108, 109, 110, 111, 25, 26, 27, 83, 84, 85, 86, 87, 88, 89, 90, 91, 112, 113, 114, 115, 116, 117, 118, 119, 120, 121, 122, 123, 146, 147, 148, 149, 150, 151, 152, 153, 124, 125, 126, 127, 128, 129, 130, 131, 72, 73, 74, 75, 79, 80, 81, 82, 92, 93, 94, 95, 154, 155, 156, 157, 158, 159, 160, 161, 162, 163, 164, 165, 258, 259, 260, 261, 195, 196, 16, 227, 228, 229, 15, 230, 37, 36, 35, 34, 10, 21, 22, 23, 7, 8, 24, 29, 30, 231, 232, 233, 234, 235, 236, 237, 238, 262, 263, 264, 265, 266, 267, 268, 269, 270, 271, 272, 273, 274, 275, 276, 277, 278, 279, 280, 281, 282, 140, 283, 284, 285, 286, 287, 288, 289, 290, 291, 292, 293, 294, 295, 296, 297, 298, 299, 300, 301, 302, 303, 304, 305, 306, 307, 308, 309, 310, 311, 312, 313, 314, 315, 316, 96, 97, 98, 99, 100, 101, 102, 103, 317, 318, 319, 320, 321, 322, 323, 324, 342, 343, 344, 345, 346, 347, 348, 349, 350, 351, 352, 353] rfl (by decide +kernel)) (goodIn_sub (fun _ h => List.mem_append_left _ (List.mem_append_left _ (List.mem_append_right _ h))) (by decide +kernel))) (goodIn_sub (fun _ h => List.mem_append_left _ (List.mem_append_right _ h)) (by decide +kernel))
set_option maxRecDepth 20000 in
theorem gL_law_L_updates : GoodIn wsL_law (va_wsS RL 125 yL_updates wsL_updates) := goodIn_app (goodIn_of _ (by decide +kernel)) ggL_law_L_updates
end
section
set_option maxRecDepth 20000 in
theorem ggL_law_X3_undo : GoodIn wsL_law wsX3_undo := goodIn_ca (goodIn_r _ [328, 329, 330, 16, 12, 331, 332, 333, 15, 334, 37, 35, 36, 231, 232, 233, 11, 234, 25, 235, 236, 237, 238, 26, 27, 28, 29, 30, 342, 343, 344, 351, 352, 353, 345, 346, 347, 348, 349, 350] (by decide +kernel) (by decide +kernel)) (goodIn_sub (fun _ h => List.mem_append_right _ h) (by decide +kernel))
set_option maxRecDepth 20000 in
theorem gL_law_X3_undo : GoodIn wsL_law (wsV RL 108 RX3 yX3_undo wsX3_undo) := goodIn_app (goodIn_of _ (by decide +kernel)) ggL_law_X3_undo
end
section
set_option maxRecDepth 20000 in
theorem ggL_law_L_isKept : GoodIn wsL_law wsL_isKept := goodIn_ca (goodIn_ca (goodIn_ca (goodIn_r _ [337, 187, 188, 51, 189, 190, 145, 141, 142, 143, 144, 104, 105, 106, 2, 107, 12, 59, 60, 61, 62, 63, 76, 77, 78, 108, 109, 110, 11, 111, 25, 26, 27, 83, 84, 85, 86, 87, 88, 89, 90, 91, 112, 113, 114, 115, 116, 117, 118, 119, 120, 121, 122, 123, 146, 147, 148, 149, 150, 151, 152, 153, 124, 125, 126, 127, 128, 129, 130, 131, 72, 73, 74, 75, 79, 80, 81, 82, 92, 93, 94, 95, 154, 155, 156, 157, 158, 159, 160, 161, 162, 163, 164, 165, 55, 56, 57, 58, 64, 65, 66, 67, 68, 69, 70, 71, 28, 191, 192, 193, 194, 195, 196, 223, 224, 225, 226, 16, 204, 205, 206, 227, 228, 229, 15, 230, 37, 36, 35, 34, 10, 21, 22, 23, 7, 8, 24, 29, 30, 231, 232, 233, 234, 235, 236, 237, 238, 239, 240, 241, 242, 243, 208, 209, 210, 211, 212, 213, 214, 140, 244, 216, 217, 218, 219, 220, 221, 222, 245, 246, 247, 248, 249, 250, 251, 252, 132, 133, 134, 135, 136, 137, 138, 139, 295, 296, 297, 298, 299, 300, 301, 302, 303, 304, 305, 266, 267, 268, 269, 306, 307, 308, 271, 272, 273, 274, 275, 276, 277, 278, 279, 280, 281, 282, 309, 310, 311, 312, 313, 314, 315, 316, 325, 326, 327, 328, 329, 330, 331, 332, 333, 334, 342, 343, 344, 345, 346, 347, 348, 349, 350, 351, 352, 353] rfl (by decide +kernel)) (goodIn_sub (fun _ h => List.mem_append_left _ (List.mem_append_left _ (List.mem_append_right _ h))) (by decide +kernel))) (goodIn_sub (fun _ h => List.mem_append_left _ (List.mem_append_right _ h)) (by decide +kernel))) (goodIn_sub (fun _ h => List.mem_append_right _ h) (by decide +kernel))
end
section
set_option maxRecDepth 20000 in
theorem gL_law_L_isKept : GoodIn wsL_law (va_wsS RL 129 yL_isKept wsL_isKept) := goodIn_app (goodIn_of _ (by decide +kernel)) ggL_law_L_isKept
set_option maxRecDepth 20000 in
theorem ggL_law_X3_mergeAll : GoodIn wsL_law wsX3_mergeAll := goodIn_r _ [341, 16, 12, 227, 228, 229, 15, 230, 37, 36, 35, 34, 10, 11, 21, 22, 23, 7, 8, 24, 25, 26, 27, 28, 29, 30, 231, 232, 233, 234, 235, 236, 237, 238, 239, 240, 241, 242, 243, 208, 209, 210, 211, 212, 213, 214, 140, 69, 70, 71, 244, 216, 217, 218, 219, 220, 221, 222, 245, 246, 247, 248, 249, 250, 251, 252, 120, 121, 122, 123, 342, 343, 344, 351, 352, 353, 345, 346, 347, 348, 349, 350] (by decide +kernel) (by decide +kernel)
set_option maxRecDepth 20000 in
theorem gL_law_X3_mergeAll : GoodIn wsL_law (wsV RL 132 RX3 yX3_mergeAll wsX3_mergeAll) := goodIn_app (goodIn_of _ (by decide +kernel)) ggL_law_X3_mergeAll
set_option maxRecDepth 20000 in
theorem ggL_law_X3_relation : GoodIn wsL_law wsX3_relation := goodIn_ca (goodIn_r _ [135, 12, 59, 60, 2, 61, 62, 63, 136, 137, 138, 11, 139, 140, 69, 70, 71, 28, 342, 343, 344, 345, 346, 347, 348, 349, 350] (by decide +kernel) (by decide +kernel)) (goodIn_sub (fun _ h => List.mem_append_left _ (List.mem_append_left _ (List.mem_append_right _ h))) (by decide +kernel))
set_option maxRecDepth 20000 in
theorem gL_law_X3_relation : GoodIn wsL_law (wsV RL 87 RX3 yX3_relation wsX3_relation) := goodIn_app (goodIn_of _ (by decide +kernel)) ggL_law_X3_relation
theorem dL_law_0 : decode cL_law 0 = .ok (.new 14, 3) := by decide +kernel
theorem dL_law_3 : decode cL_law 3 = .ok (.dup, 1) := by decide +kernel
theorem dL_law_4 : decode cL_law 4 = .ok (.invokespecial 112, 3) := by decide +kernel
theorem dL_law_7 : decode cL_law 7 = .ok (.astore_n 1, 1) := by decide +kernel
theorem dL_law_8 : decode cL_law 8 = .ok (.aload_n 1, 1) := by decide +kernel
theorem dL_law_9 : decode cL_law 9 = .ok (.invokestatic 113, 3) := by decide +kernel
theorem dL_law_12 : decode cL_law 12 = .ok (.ifCond .eq 16, 3) := by decide +kernel
theorem dL_law_15 : decode cL_law 15 = .ok (.aload_n 1, 1) := by decide +kernel
theorem dL_law_16 : decode cL_law 16 = .ok (.invokevirtual 96, 3) := by decide +kernel
theorem dL_law_19 : decode cL_law 19 = .ok (.dconst 1, 1) := by decide +kernel
theorem dL_law_20 : decode cL_law 20 = .ok (.dcmp .l, 1) := by decide +kernel
theorem dL_law_21 : decode cL_law 21 = .ok (.ifCond .ne 7, 3) := by decide +kernel
theorem dL_law_24 : decode cL_law 24 = .ok (.iconst 1, 1) := by decide +kernel
theorem dL_law_25 : decode cL_law 25 = .ok (.goto 4, 3) := by decide +kernel
theorem dL_law_28 : decode cL_law 28 = .ok (.iconst 0, 1) := by decide +kernel
theorem dL_law_29 : decode cL_law 29 = .ok (.istore_n 2, 1) := by decide +kernel
theorem dL_law_30 : decode cL_law 30 = .ok (.iconst 0, 1) := by decide +kernel
theorem dL_law_31 : decode cL_law 31 = .ok (.istore_n 3, 1) := by decide +kernel
theorem dL_law_32 : decode cL_law 32 = .ok (.iload_n 3, 1) := by decide +kernel
theorem dL_law_33 : decode cL_law 33 = .ok (.bipush 40, 2) := by decide +kernel
theorem dL_law_35 : decode cL_law 35 = .ok (.if_icmp .ge 326, 3) := by decide +kernel
theorem dL_law_38 : decode cL_law 38 = .ok (.iload_n 2, 1) := by decide +kernel
theorem dL_law_39 : decode cL_law 39 = .ok (.ifCond .eq 322, 3) := by decide +kernel
theorem dL_law_42 : decode cL_law 42 = .ok (.aload_n 0, 1) := by decide +kernel
theorem dL_law_43 : decode cL_law 43 = .ok (.iconst 2, 1) := by decide +kernel
theorem dL_law_44 : decode cL_law 44 = .ok (.iload_n 3, 1) := by decide +kernel
theorem dL_law_45 : decode cL_law 45 = .ok (.imul, 1) := by decide +kernel
theorem dL_law_46 : decode cL_law 46 = .ok (.invokestatic 117, 3) := by decide +kernel
theorem dL_law_49 : decode cL_law 49 = .ok (.istore 4, 2) := by decide +kernel
theorem dL_law_51 : decode cL_law 51 = .ok (.aload_n 0, 1) := by decide +kernel
theorem dL_law_52 : decode cL_law 52 = .ok (.iconst 2, 1) := by decide +kernel
theorem dL_law_53 : decode cL_law 53 = .ok (.iload_n 3, 1) := by decide +kernel
theorem dL_law_54 : decode cL_law 54 = .ok (.imul, 1) := by decide +kernel
theorem dL_law_55 : decode cL_law 55 = .ok (.iconst 1, 1) := by decide +kernel
theorem dL_law_56 : decode cL_law 56 = .ok (.iadd, 1) := by decide +kernel
theorem dL_law_57 : decode cL_law 57 = .ok (.invokestatic 117, 3) := by decide +kernel
theorem dL_law_60 : decode cL_law 60 = .ok (.istore 5, 2) := by decide +kernel
theorem dL_law_62 : decode cL_law 62 = .ok (.iload 4, 2) := by decide +kernel
theorem dL_law_64 : decode cL_law 64 = .ok (.iconst 4, 1) := by decide +kernel
theorem dL_law_65 : decode cL_law 65 = .ok (.ishr, 1) := by decide +kernel
theorem dL_law_66 : decode cL_law 66 = .ok (.iconst 4, 1) := by decide +kernel
theorem dL_law_67 : decode cL_law 67 = .ok (.invokestatic 53, 3) := by decide +kernel
theorem dL_law_70 : decode cL_law 70 = .ok (.istore 6, 2) := by decide +kernel
theorem dL_law_72 : decode cL_law 72 = .ok (.iload 6, 2) := by decide +kernel
theorem dL_law_74 : decode cL_law 74 = .ok (.iconst 1, 1) := by decide +kernel
theorem dL_law_75 : decode cL_law 75 = .ok (.iadd, 1) := by decide +kernel
theorem dL_law_76 : decode cL_law 76 = .ok (.iload 4, 2) := by decide +kernel
theorem dL_law_78 : decode cL_law 78 = .ok (.bipush 6, 2) := by decide +kernel
theorem dL_law_80 : decode cL_law 80 = .ok (.ishr, 1) := by decide +kernel
theorem dL_law_81 : decode cL_law 81 = .ok (.iconst 3, 1) := by decide +kernel
theorem dL_law_82 : decode cL_law 82 = .ok (.invokestatic 53, 3) := by decide +kernel
theorem dL_law_85 : decode cL_law 85 = .ok (.iadd, 1) := by decide +kernel
theorem dL_law_86 : decode cL_law 86 = .ok (.iconst 4, 1) := by decide +kernel
theorem dL_law_87 : decode cL_law 87 = .ok (.irem, 1) := by decide +kernel
theorem dL_law_88 : decode cL_law 88 = .ok (.istore 7, 2) := by decide +kernel
theorem dL_law_90 : decode cL_law 90 = .ok (.iload 4, 2) := by decide +kernel
theorem dL_law_92 : decode cL_law 92 = .ok (.bipush 8, 2) := by decide +kernel
theorem dL_law_94 : decode cL_law 94 = .ok (.ishr, 1) := by decide +kernel
theorem dL_law_95 : decode cL_law 95 = .ok (.iconst 3, 1) := by decide +kernel
theorem dL_law_96 : decode cL_law 96 = .ok (.iand, 1) := by decide +kernel
theorem dL_law_97 : decode cL_law 97 = .ok (.ifCond .ne 7, 3) := by decide +kernel
theorem dL_law_100 : decode cL_law 100 = .ok (.iconst 1, 1) := by decide +kernel
theorem dL_law_101 : decode cL_law 101 = .ok (.goto 4, 3) := by decide +kernel
theorem dL_law_104 : decode cL_law 104 = .ok (.iconst 0, 1) := by decide +kernel
theorem dL_law_105 : decode cL_law 105 = .ok (.istore 8, 2) := by decide +kernel
theorem dL_law_107 : decode cL_law 107 = .ok (.aload_n 1, 1) := by decide +kernel
theorem dL_law_108 : decode cL_law 108 = .ok (.invokestatic 104, 3) := by decide +kernel
theorem dL_law_111 : decode cL_law 111 = .ok (.lstore 9, 2) := by decide +kernel
theorem dL_law_113 : decode cL_law 113 = .ok (.iload 8, 2) := by decide +kernel
theorem dL_law_115 : decode cL_law 115 = .ok (.ifCond .eq 14, 3) := by decide +kernel
theorem dL_law_118 : decode cL_law 118 = .ok (.aload_n 1, 1) := by decide +kernel
theorem dL_law_119 : decode cL_law 119 = .ok (.iload 6, 2) := by decide +kernel
theorem dL_law_121 : decode cL_law 121 = .ok (.iload 7, 2) := by decide +kernel
theorem dL_law_123 : decode cL_law 123 = .ok (.invokestatic 121, 3) := by decide +kernel
theorem dL_law_126 : decode cL_law 126 = .ok (.goto 13, 3) := by decide +kernel
theorem dL_law_129 : decode cL_law 129 = .ok (.aload_n 1, 1) := by decide +kernel
theorem dL_law_130 : decode cL_law 130 = .ok (.iload 6, 2) := by decide +kernel
theorem dL_law_132 : decode cL_law 132 = .ok (.iload 4, 2) := by decide +kernel
theorem dL_law_134 : decode cL_law 134 = .ok (.iload 5, 2) := by decide +kernel
theorem dL_law_136 : decode cL_law 136 = .ok (.invokestatic 125, 3) := by decide +kernel
theorem dL_law_139 : decode cL_law 139 = .ok (.istore_n 2, 1) := by decide +kernel
theorem dL_law_140 : decode cL_law 140 = .ok (.iload_n 2, 1) := by decide +kernel
theorem dL_law_141 : decode cL_law 141 = .ok (.ifCond .eq 96, 3) := by decide +kernel
theorem dL_law_144 : decode cL_law 144 = .ok (.iload 4, 2) := by decide +kernel
theorem dL_law_146 : decode cL_law 146 = .ok (.bipush 10, 2) := by decide +kernel
theorem dL_law_148 : decode cL_law 148 = .ok (.ishr, 1) := by decide +kernel
theorem dL_law_149 : decode cL_law 149 = .ok (.iconst 3, 1) := by decide +kernel
theorem dL_law_150 : decode cL_law 150 = .ok (.iand, 1) := by decide +kernel
theorem dL_law_151 : decode cL_law 151 = .ok (.ifCond .ne 86, 3) := by decide +kernel
theorem dL_law_154 : decode cL_law 154 = .ok (.aload_n 1, 1) := by decide +kernel
theorem dL_law_155 : decode cL_law 155 = .ok (.invokestatic 104, 3) := by decide +kernel
theorem dL_law_158 : decode cL_law 158 = .ok (.lstore 11, 2) := by decide +kernel
theorem dL_law_160 : decode cL_law 160 = .ok (.aload_n 1, 1) := by decide +kernel
theorem dL_law_161 : decode cL_law 161 = .ok (.invokevirtual 108, 3) := by decide +kernel
theorem dL_law_164 : decode cL_law 164 = .ok (.ifCond .lt 71, 3) := by decide +kernel
theorem dL_law_167 : decode cL_law 167 = .ok (.iload 8, 2) := by decide +kernel
theorem dL_law_169 : decode cL_law 169 = .ok (.ifCond .eq 10, 3) := by decide +kernel
theorem dL_law_172 : decode cL_law 172 = .ok (.aload_n 1, 1) := by decide +kernel
theorem dL_law_173 : decode cL_law 173 = .ok (.invokevirtual 108, 3) := by decide +kernel
theorem dL_law_176 : decode cL_law 176 = .ok (.ifCond .lt 59, 3) := by decide +kernel
theorem dL_law_179 : decode cL_law 179 = .ok (.aload_n 1, 1) := by decide +kernel
theorem dL_law_180 : decode cL_law 180 = .ok (.invokestatic 104, 3) := by decide +kernel
theorem dL_law_183 : decode cL_law 183 = .ok (.lload 9, 2) := by decide +kernel
theorem dL_law_185 : decode cL_law 185 = .ok (.lcmp, 1) := by decide +kernel
theorem dL_law_186 : decode cL_law 186 = .ok (.ifCond .ne 49, 3) := by decide +kernel
theorem dL_law_189 : decode cL_law 189 = .ok (.iload 8, 2) := by decide +kernel
theorem dL_law_191 : decode cL_law 191 = .ok (.ifCond .eq 17, 3) := by decide +kernel
theorem dL_law_194 : decode cL_law 194 = .ok (.aload_n 1, 1) := by decide +kernel
theorem dL_law_195 : decode cL_law 195 = .ok (.iload 6, 2) := by decide +kernel
theorem dL_law_197 : decode cL_law 197 = .ok (.iload 7, 2) := by decide +kernel
theorem dL_law_199 : decode cL_law 199 = .ok (.invokestatic 121, 3) := by decide +kernel
theorem dL_law_202 : decode cL_law 202 = .ok (.ifCond .eq 33, 3) := by decide +kernel
theorem dL_law_205 : decode cL_law 205 = .ok (.goto 16, 3) := by decide +kernel
theorem dL_law_208 : decode cL_law 208 = .ok (.aload_n 1, 1) := by decide +kernel
theorem dL_law_209 : decode cL_law 209 = .ok (.iload 6, 2) := by decide +kernel
theorem dL_law_211 : decode cL_law 211 = .ok (.iload 4, 2) := by decide +kernel
theorem dL_law_213 : decode cL_law 213 = .ok (.iload 5, 2) := by decide +kernel
theorem dL_law_215 : decode cL_law 215 = .ok (.invokestatic 125, 3) := by decide +kernel
theorem dL_law_218 : decode cL_law 218 = .ok (.ifCond .eq 17, 3) := by decide +kernel
theorem dL_law_221 : decode cL_law 221 = .ok (.aload_n 1, 1) := by decide +kernel
theorem dL_law_222 : decode cL_law 222 = .ok (.invokestatic 104, 3) := by decide +kernel
theorem dL_law_225 : decode cL_law 225 = .ok (.lload 11, 2) := by decide +kernel
theorem dL_law_227 : decode cL_law 227 = .ok (.lcmp, 1) := by decide +kernel
theorem dL_law_228 : decode cL_law 228 = .ok (.ifCond .ne 7, 3) := by decide +kernel
theorem dL_law_231 : decode cL_law 231 = .ok (.iconst 1, 1) := by decide +kernel
theorem dL_law_232 : decode cL_law 232 = .ok (.goto 4, 3) := by decide +kernel
theorem dL_law_235 : decode cL_law 235 = .ok (.iconst 0, 1) := by decide +kernel
theorem dL_law_236 : decode cL_law 236 = .ok (.istore_n 2, 1) := by decide +kernel
theorem dL_law_237 : decode cL_law 237 = .ok (.iload_n 2, 1) := by decide +kernel
theorem dL_law_238 : decode cL_law 238 = .ok (.ifCond .eq 41, 3) := by decide +kernel
theorem dL_law_241 : decode cL_law 241 = .ok (.aload_n 1, 1) := by decide +kernel
theorem dL_law_242 : decode cL_law 242 = .ok (.invokestatic 113, 3) := by decide +kernel
theorem dL_law_245 : decode cL_law 245 = .ok (.ifCond .eq 34, 3) := by decide +kernel
theorem dL_law_248 : decode cL_law 248 = .ok (.iload_n 3, 1) := by decide +kernel
theorem dL_law_249 : decode cL_law 249 = .ok (.iconst 5, 1) := by decide +kernel
theorem dL_law_250 : decode cL_law 250 = .ok (.irem, 1) := by decide +kernel
theorem dL_law_251 : decode cL_law 251 = .ok (.iconst 3, 1) := by decide +kernel
theorem dL_law_252 : decode cL_law 252 = .ok (.if_icmp .ne 23, 3) := by decide +kernel
theorem dL_law_255 : decode cL_law 255 = .ok (.aload_n 1, 1) := by decide +kernel
theorem dL_law_256 : decode cL_law 256 = .ok (.iload 6, 2) := by decide +kernel
theorem dL_law_258 : decode cL_law 258 = .ok (.iload 7, 2) := by decide +kernel
theorem dL_law_260 : decode cL_law 260 = .ok (.iload 5, 2) := by decide +kernel
theorem dL_law_262 : decode cL_law 262 = .ok (.iconst 3, 1) := by decide +kernel
theorem dL_law_263 : decode cL_law 263 = .ok (.ishr, 1) := by decide +kernel
theorem dL_law_264 : decode cL_law 264 = .ok (.bipush 16, 2) := by decide +kernel
theorem dL_law_266 : decode cL_law 266 = .ok (.invokestatic 53, 3) := by decide +kernel
theorem dL_law_269 : decode cL_law 269 = .ok (.invokestatic 129, 3) := by decide +kernel
theorem dL_law_272 : decode cL_law 272 = .ok (.ifCond .eq 7, 3) := by decide +kernel
theorem dL_law_275 : decode cL_law 275 = .ok (.iconst 1, 1) := by decide +kernel
theorem dL_law_276 : decode cL_law 276 = .ok (.goto 4, 3) := by decide +kernel
theorem dL_law_279 : decode cL_law 279 = .ok (.iconst 0, 1) := by decide +kernel
theorem dL_law_280 : decode cL_law 280 = .ok (.istore_n 2, 1) := by decide +kernel
theorem dL_law_281 : decode cL_law 281 = .ok (.iload_n 2, 1) := by decide +kernel
theorem dL_law_282 : decode cL_law 282 = .ok (.ifCond .eq 73, 3) := by decide +kernel
theorem dL_law_285 : decode cL_law 285 = .ok (.iload_n 3, 1) := by decide +kernel
theorem dL_law_286 : decode cL_law 286 = .ok (.bipush 13, 2) := by decide +kernel
theorem dL_law_288 : decode cL_law 288 = .ok (.irem, 1) := by decide +kernel
theorem dL_law_289 : decode cL_law 289 = .ok (.bipush 11, 2) := by decide +kernel
theorem dL_law_291 : decode cL_law 291 = .ok (.if_icmp .ne 64, 3) := by decide +kernel
theorem dL_law_294 : decode cL_law 294 = .ok (.aload_n 1, 1) := by decide +kernel
theorem dL_law_295 : decode cL_law 295 = .ok (.invokevirtual 132, 3) := by decide +kernel
theorem dL_law_298 : decode cL_law 298 = .ok (.ifCond .lt 55, 3) := by decide +kernel
theorem dL_law_301 : decode cL_law 301 = .ok (.aload_n 1, 1) := by decide +kernel
theorem dL_law_302 : decode cL_law 302 = .ok (.invokevirtual 96, 3) := by decide +kernel
theorem dL_law_305 : decode cL_law 305 = .ok (.dconst 1, 1) := by decide +kernel
theorem dL_law_306 : decode cL_law 306 = .ok (.dcmp .l, 1) := by decide +kernel
theorem dL_law_307 : decode cL_law 307 = .ok (.ifCond .ne 46, 3) := by decide +kernel
theorem dL_law_310 : decode cL_law 310 = .ok (.aload_n 1, 1) := by decide +kernel
theorem dL_law_311 : decode cL_law 311 = .ok (.invokevirtual 132, 3) := by decide +kernel
theorem dL_law_314 : decode cL_law 314 = .ok (.ifCond .ne 39, 3) := by decide +kernel
theorem dL_law_317 : decode cL_law 317 = .ok (.aload_n 1, 1) := by decide +kernel
theorem dL_law_318 : decode cL_law 318 = .ok (.invokevirtual 108, 3) := by decide +kernel
theorem dL_law_321 : decode cL_law 321 = .ok (.ifCond .lt 32, 3) := by decide +kernel
theorem dL_law_324 : decode cL_law 324 = .ok (.aload_n 1, 1) := by decide +kernel
theorem dL_law_325 : decode cL_law 325 = .ok (.iconst 0, 1) := by decide +kernel
theorem dL_law_326 : decode cL_law 326 = .ok (.iconst 3, 1) := by decide +kernel
theorem dL_law_327 : decode cL_law 327 = .ok (.invokevirtual 87, 3) := by decide +kernel
theorem dL_law_330 : decode cL_law 330 = .ok (.ifCond .ne 23, 3) := by decide +kernel
theorem dL_law_333 : decode cL_law 333 = .ok (.aload_n 1, 1) := by decide +kernel
theorem dL_law_334 : decode cL_law 334 = .ok (.iconst 1, 1) := by decide +kernel
theorem dL_law_335 : decode cL_law 335 = .ok (.iconst 2, 1) := by decide +kernel
theorem dL_law_336 : decode cL_law 336 = .ok (.invokevirtual 87, 3) := by decide +kernel
theorem dL_law_339 : decode cL_law 339 = .ok (.ifCond .ne 14, 3) := by decide +kernel
theorem dL_law_342 : decode cL_law 342 = .ok (.aload_n 1, 1) := by decide +kernel
theorem dL_law_343 : decode cL_law 343 = .ok (.invokevirtual 108, 3) := by decide +kernel
theorem dL_law_346 : decode cL_law 346 = .ok (.ifCond .lt 7, 3) := by decide +kernel
theorem dL_law_349 : decode cL_law 349 = .ok (.iconst 1, 1) := by decide +kernel
theorem dL_law_350 : decode cL_law 350 = .ok (.goto 4, 3) := by decide +kernel
theorem dL_law_353 : decode cL_law 353 = .ok (.iconst 0, 1) := by decide +kernel
theorem dL_law_354 : decode cL_law 354 = .ok (.istore_n 2, 1) := by decide +kernel
theorem dL_law_355 : decode cL_law 355 = .ok (.iinc 3 1, 3) := by decide +kernel
theorem dL_law_358 : decode cL_law 358 = .ok (.goto (-326), 3) := by decide +kernel
theorem dL_law_361 : decode cL_law 361 = .ok (.iload_n 2, 1) := by decide +kernel
theorem dL_law_362 : decode cL_law 362 = .ok (.ireturn, 1) := by decide +kernel
end
