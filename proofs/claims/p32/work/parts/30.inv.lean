/-! the pasts of the replicas: what holds of a state that some run of updates and merges has made -/
/-- what an entry's value and stamp may be, by its offset within a replica -/
def okV (o : Nat) (v t : Int32) : Prop := ¬ t < 0 ∧ (o % 80 / 4 = 0 → ¬ v < 0) ∧ (o % 80 / 4 = 2 → ¬ v < 0) ∧ (4 ≤ o % 80 / 4 → v = nI (o % 80 / 4 - 4))
/-- the state's numbers as naturals: N of the slots, V what is seen, C the clocks -/
def IvN (st : St) (B : Nat) (N V : Nat → Nat → Nat) (C : Nat → Nat) : Prop := (∀ a o, a < 4 → o < 480 → st.1 (a * 480 + o) = nI (N a o)) ∧ (∀ a b, a < 4 → b < 4 → st.2.2.2.1 (a * 4 + b) = nI (V a b)) ∧ (∀ a, a < 4 → st.2.2.2.2.1 a = nI (C a)) ∧ (∀ a, a < 4 → C a ≤ B) ∧ (∀ a, a < 4 → V a a ≤ C a) ∧ (∀ a b, a < 4 → b < 4 → V a b ≤ V b b)
/-- dp: what the k-th update of r had seen; kl: what it removed; ex: the entries ever made -/
def IvK (N V : Nat → Nat → Nat) (dp : Nat → Nat → Nat → Nat) (kl : Nat → Nat → Nat → Nat → Prop) (ex : Nat → Nat → Prop) : Prop :=
  (∀ a r k j, a < 4 → r < 4 → j < 4 → 0 < k → k ≤ V a r → dp r k j ≤ V a j) ∧
  (∀ a o, a < 4 → o < 480 → ¬ N a o = 0 → ex o (N a o) ∧ N a o ≤ V a (o % 4)) ∧
  (∀ a o n, a < 4 → o < 480 → ex o n → 0 < n → n ≤ V a (o % 4) → (N a o = n ↔ ∀ r k, r < 4 → 0 < k → k ≤ V a r → ¬ kl r k o n)) ∧
  (∀ r k o n, r < 4 → o < 480 → 0 < k → k ≤ V r r → kl r k o n → n ≤ dp r k (o % 4)) ∧
  (∀ o n, o < 480 → ex o n → n ≤ V (o % 4) (o % 4))
/-- the entries' values and stamps are those they were made with -/
def IvV (st : St) (N : Nat → Nat → Nat) (ex : Nat → Nat → Prop) (ev es : Nat → Nat → Int32) : Prop := (∀ a o, a < 4 → o < 480 → ¬ N a o = 0 → st.2.2.1 (a * 480 + o) = ev o (N a o) ∧ st.2.1 (a * 480 + o) = es o (N a o)) ∧ ∀ o n, o < 480 → ex o n → okV o (ev o n) (es o n)
def Iv (st : St) (B : Nat) : Prop := ∃ (N V : Nat → Nat → Nat) (C : Nat → Nat) (dp : Nat → Nat → Nat → Nat) (kl : Nat → Nat → Nat → Nat → Prop) (ex : Nat → Nat → Prop) (ev es : Nat → Nat → Int32), IvN st B N V C ∧ IvK N V dp kl ex ∧ IvV st N ex ev es
-- merging, in naturals
abbrev adN (N V : Nat → Nat → Nat) (f t o : Nat) : Prop := ¬ N f o = 0 ∧ ¬ N f o = N t o ∧ V t (o % 4) < N f o
abbrev reN (N V : Nat → Nat → Nat) (f t o : Nat) : Prop := ¬ N t o = 0 ∧ ¬ N t o = N f o ∧ N t o ≤ V f (o % 4)
def mgN (N V : Nat → Nat → Nat) (f t a o : Nat) : Nat := if a = t then (if adN N V f t o then N f o else if reN N V f t o then 0 else N t o) else N a o
def mgV (V : Nat → Nat → Nat) (f t a b : Nat) : Nat := if a = t then (if V t b < V f b then V f b else V t b) else V a b
theorem mgV_t (V : Nat → Nat → Nat) (f t b : Nat) : V f b ≤ mgV V f t t b ∧ V t b ≤ mgV V f t t b ∧ (mgV V f t t b = V f b ∨ mgV V f t t b = V t b) := by
  rw [mgV, if_pos rfl]
  by_cases h : V t b < V f b
  · rw [if_pos h]; omega
  · rw [if_neg h]; omega
theorem mgV_o {V : Nat → Nat → Nat} {f t a b : Nat} (h : ¬ a = t) : mgV V f t a b = V a b := by rw [mgV, if_neg h]
theorem mgN_o {N V : Nat → Nat → Nat} {f t a o : Nat} (h : ¬ a = t) : mgN N V f t a o = N a o := by rw [mgN, if_neg h]
theorem mgN_t {N V : Nat → Nat → Nat} {f t o : Nat} : mgN N V f t t o = (if adN N V f t o then N f o else if reN N V f t o then 0 else N t o) := by rw [mgN, if_pos rfl]
theorem mgV_d {V : Nat → Nat → Nat} {f t : Nat} (hf : f < 4) (ht : t < 4) (hV : ∀ a b, a < 4 → b < 4 → V a b ≤ V b b) (b : Nat) : mgV V f t b b = V b b := by
  by_cases e : b = t
  · rw [e]
    have h1 := mgV_t V f t t
    have h2 := hV f t hf ht
    omega
  · exact mgV_o e
theorem mgV_l (V : Nat → Nat → Nat) (f t a b : Nat) : V a b ≤ mgV V f t a b := by
  by_cases e : a = t
  · rw [e]; exact (mgV_t V f t b).2.1
  · rw [mgV_o e]; exact Nat.le_refl _
theorem K_mg {N V : Nat → Nat → Nat} {dp : Nat → Nat → Nat → Nat} {kl : Nat → Nat → Nat → Nat → Prop} {ex : Nat → Nat → Prop} {f t : Nat} (hf : f < 4) (ht : t < 4) (hV : ∀ a b, a < 4 → b < 4 → V a b ≤ V b b) (h : IvK N V dp kl ex) : IvK (mgN N V f t) (mgV V f t) dp kl ex := by
  obtain ⟨h1, h2, h3, h4, h5⟩ := h
  have vf : ∀ b, V f b ≤ mgV V f t t b := fun b => (mgV_t V f t b).1
  refine ⟨fun a r k j ha hr hj h0 hk => ?_, fun a o ha ho hn => ?_, fun a o n ha ho hx h0 hn => ?_, fun r k o n hr ho h0 hk hkl => ?_, fun o n ho hx => ?_⟩
  · by_cases e : a = t
    · rw [e] at hk ⊢
      have m1 := mgV_t V f t r
      by_cases c : k ≤ V f r
      · exact Nat.le_trans (h1 f r k j hf hr hj h0 c) (vf j)
      · exact Nat.le_trans (h1 t r k j ht hr hj h0 (by omega)) (mgV_l V f t t j)
    · rw [mgV_o e] at hk ⊢; exact h1 a r k j ha hr hj h0 hk
  · by_cases e : a = t
    · rw [e, mgN_t] at hn
      rw [e, mgN_t]
      by_cases c1 : adN N V f t o
      · rw [if_pos c1]
        exact ⟨(h2 f o hf ho c1.1).1, Nat.le_trans (h2 f o hf ho c1.1).2 (vf _)⟩
      · rw [if_neg c1] at hn ⊢
        by_cases c2 : reN N V f t o
        · rw [if_pos c2] at hn; exact absurd rfl hn
        · rw [if_neg c2] at hn ⊢
          exact ⟨(h2 t o ht ho hn).1, Nat.le_trans (h2 t o ht ho hn).2 (mgV_l V f t t _)⟩
    · rw [mgN_o e] at hn ⊢; rw [mgV_o e]; exact h2 a o ha ho hn
  · have ho4 : o % 4 < 4 := Nat.mod_lt _ (by decide)
    by_cases e : a = t
    · rw [e] at hn ⊢
      rw [mgN_t]
      have m := mgV_t V f t (o % 4)
      constructor
      · intro hN r k hr hk0 hk hkl
        have m1 := mgV_t V f t r
        by_cases c : k ≤ V f r
        · have d := h4 r k o n hr ho hk0 (Nat.le_trans c (hV f r hf hr)) hkl
          have d2 := h1 f r k (o % 4) hf hr ho4 hk0 c
          have nf : n ≤ V f (o % 4) := Nat.le_trans d d2
          have e1 : ¬ N f o = n := fun z => (h3 f o n hf ho hx h0 nf).mp z r k hr hk0 c hkl
          by_cases c1 : adN N V f t o
          · rw [if_pos c1] at hN; exact e1 hN
          · rw [if_neg c1] at hN
            by_cases c2 : reN N V f t o
            · rw [if_pos c2] at hN; omega
            · rw [if_neg c2] at hN
              exact c2 ⟨by omega, by omega, by omega⟩
        · have c' : k ≤ V t r := by omega
          have d := h4 r k o n hr ho hk0 (Nat.le_trans c' (hV t r ht hr)) hkl
          have d2 := h1 t r k (o % 4) ht hr ho4 hk0 c'
          have nt : n ≤ V t (o % 4) := Nat.le_trans d d2
          have e1 : ¬ N t o = n := fun z => (h3 t o n ht ho hx h0 nt).mp z r k hr hk0 c' hkl
          by_cases c1 : adN N V f t o
          · rw [if_pos c1] at hN
            have := c1.2.2
            omega
          · rw [if_neg c1] at hN
            by_cases c2 : reN N V f t o
            · rw [if_pos c2] at hN; omega
            · rw [if_neg c2] at hN; exact e1 hN
      · intro hk
        have et : n ≤ V t (o % 4) → N t o = n := fun ct => (h3 t o n ht ho hx h0 ct).mpr (fun r k hr hk0 hk2 => hk r k hr hk0 (Nat.le_trans hk2 (mgV_l V f t t r)))
        by_cases cf : n ≤ V f (o % 4)
        · have ef : N f o = n := (h3 f o n hf ho hx h0 cf).mpr (fun r k hr hk0 hk2 => hk r k hr hk0 (Nat.le_trans hk2 (vf r)))
          by_cases c1 : adN N V f t o
          · rw [if_pos c1]; exact ef
          · rw [if_neg c1]
            have etf : N t o = N f o := by
              by_cases ct : n ≤ V t (o % 4)
              · rw [et ct, ef]
              · exact Decidable.byContradiction fun z => c1 ⟨by omega, fun y => z y.symm, by omega⟩
            rw [if_neg (fun c2 => c2.2.1 etf), etf]; exact ef
        · have ct : n ≤ V t (o % 4) := by omega
          have e2 := et ct
          have nf2 : ¬ adN N V f t o := fun c1 => by
            have g1 := (h2 f o hf ho c1.1).2
            have g2 := c1.2.2
            omega
          rw [if_neg nf2, if_neg (fun c2 => by have := c2.2.2; omega)]; exact e2
    · rw [mgV_o e] at hn
      rw [mgN_o e]
      simp only [mgV_o e]
      exact h3 a o n ha ho hx h0 hn
  · rw [mgV_d hf ht hV] at hk; exact h4 r k o n hr ho h0 hk hkl
  · rw [mgV_d hf ht hV]; exact h5 o n ho hx
-- an update, in naturals: its region is removed, its own slot is made
def upN (N V : Nat → Nat → Nat) (r o0 : Nat) (mk : Bool) (lo hi a o : Nat) : Nat := if a = r then (if mk = true ∧ o = o0 then V r r + 1 else if lo ≤ o ∧ o < hi then 0 else N r o) else N a o
def upV (V : Nat → Nat → Nat) (r a b : Nat) : Nat := if a = r ∧ b = r then V r r + 1 else V a b
def upD (dp : Nat → Nat → Nat → Nat) (V : Nat → Nat → Nat) (r r' k j : Nat) : Nat := if r' = r ∧ k = V r r + 1 then upV V r r j else dp r' k j
def upK (kl : Nat → Nat → Nat → Nat → Prop) (N V : Nat → Nat → Nat) (r lo hi r' k o n : Nat) : Prop := (r' = r ∧ k = V r r + 1 ∧ (lo ≤ o ∧ o < hi) ∧ N r o = n ∧ ¬ n = 0) ∨ (¬ (r' = r ∧ k = V r r + 1) ∧ kl r' k o n)
def upX (ex : Nat → Nat → Prop) (V : Nat → Nat → Nat) (r o0 : Nat) (mk : Bool) (o n : Nat) : Prop := ex o n ∨ (mk = true ∧ o = o0 ∧ n = V r r + 1)
theorem upV_r {V : Nat → Nat → Nat} {r : Nat} : upV V r r r = V r r + 1 := by rw [upV, if_pos ⟨rfl, rfl⟩]
theorem upV_o {V : Nat → Nat → Nat} {r a b : Nat} (h : ¬ (a = r ∧ b = r)) : upV V r a b = V a b := by rw [upV, if_neg h]
theorem upV_l (V : Nat → Nat → Nat) (r a b : Nat) : V a b ≤ upV V r a b := by
  by_cases h : a = r ∧ b = r
  · rw [h.1, h.2, upV_r]; omega
  · rw [upV_o h]; exact Nat.le_refl _
theorem upN_m {N V : Nat → Nat → Nat} {r o0 : Nat} {mk : Bool} {lo hi o : Nat} (h : mk = true ∧ o = o0) : upN N V r o0 mk lo hi r o = V r r + 1 := by rw [upN, if_pos rfl, if_pos h]
theorem upN_c {N V : Nat → Nat → Nat} {r o0 : Nat} {mk : Bool} {lo hi o : Nat} (h : ¬ (mk = true ∧ o = o0)) (h2 : lo ≤ o ∧ o < hi) : upN N V r o0 mk lo hi r o = 0 := by rw [upN, if_pos rfl, if_neg h, if_pos h2]
theorem upN_k {N V : Nat → Nat → Nat} {r o0 : Nat} {mk : Bool} {lo hi o : Nat} (h : ¬ (mk = true ∧ o = o0)) (h2 : ¬ (lo ≤ o ∧ o < hi)) : upN N V r o0 mk lo hi r o = N r o := by rw [upN, if_pos rfl, if_neg h, if_neg h2]
theorem upN_o {N V : Nat → Nat → Nat} {r o0 : Nat} {mk : Bool} {lo hi a o : Nat} (h : ¬ a = r) : upN N V r o0 mk lo hi a o = N a o := by rw [upN, if_neg h]
theorem K_up {N V : Nat → Nat → Nat} {dp : Nat → Nat → Nat → Nat} {kl : Nat → Nat → Nat → Nat → Prop} {ex : Nat → Nat → Prop} {r o0 lo hi : Nat} {mk : Bool} (hr : r < 4) (hV : ∀ a b, a < 4 → b < 4 → V a b ≤ V b b) (hm : mk = true → o0 % 4 = r ∧ lo ≤ o0 ∧ o0 < hi) (h : IvK N V dp kl ex) : IvK (upN N V r o0 mk lo hi) (upV V r) (upD dp V r) (upK kl N V r lo hi) (upX ex V r o0 mk) := by
  obtain ⟨h1, h2, h3, h4, h5⟩ := h
  have old : ∀ a r' k, a < 4 → r' < 4 → k ≤ upV V r a r' → ¬ (r' = r ∧ k = V r r + 1) → k ≤ V a r' := fun a r' k ha hr' hk e => by
    by_cases y : a = r ∧ r' = r
    · rw [y.1, y.2, upV_r] at hk
      have : ¬ k = V r r + 1 := fun z => e ⟨y.2, z⟩
      rw [y.1, y.2]; omega
    · rw [upV_o y] at hk; exact hk
  have new : ∀ a r' k, a < 4 → r' < 4 → k ≤ upV V r a r' → (r' = r ∧ k = V r r + 1) → a = r := fun a r' k ha hr' hk e => by
    refine Decidable.byContradiction fun z => ?_
    rw [upV_o (fun y => z y.1)] at hk
    have := hV a r' ha hr'
    rw [e.1] at this hk
    omega
  refine ⟨fun a r' k j ha hr' hj h0 hk => ?_, fun a o ha ho hn => ?_, fun a o n ha ho hx h0 hn => ?_, fun r' k o n hr' ho h0 hk hkl => ?_, fun o n ho hx => ?_⟩
  · by_cases e : r' = r ∧ k = V r r + 1
    · rw [upD, if_pos e, new a r' k ha hr' hk e]; exact Nat.le_refl _
    · rw [upD, if_neg e]
      exact Nat.le_trans (h1 a r' k j ha hr' hj h0 (old a r' k ha hr' hk e)) (upV_l V r a j)
  · by_cases ea : a = r
    · rw [ea] at hn ⊢
      by_cases c0 : mk = true ∧ o = o0
      · rw [upN_m c0]
        refine ⟨Or.inr ⟨c0.1, c0.2, rfl⟩, ?_⟩
        rw [c0.2, (hm c0.1).1, upV_r]; exact Nat.le_refl _
      · by_cases c1 : lo ≤ o ∧ o < hi
        · exact absurd (upN_c c0 c1) hn
        · rw [upN_k c0 c1] at hn ⊢
          exact ⟨Or.inl (h2 r o hr ho hn).1, Nat.le_trans (h2 r o hr ho hn).2 (upV_l V r r _)⟩
    · rw [upN_o ea] at hn ⊢
      exact ⟨Or.inl (h2 a o ha ho hn).1, Nat.le_trans (h2 a o ha ho hn).2 (upV_l V r a _)⟩
  · have ho4 : o % 4 < 4 := Nat.mod_lt _ (by decide)
    by_cases cn : mk = true ∧ o = o0 ∧ n = V r r + 1
    · have om : o % 4 = r := by rw [cn.2.1]; exact (hm cn.1).1
      by_cases ea : a = r
      · rw [ea, upN_m ⟨cn.1, cn.2.1⟩]
        refine ⟨fun _ r' k hr' hk0 hk hkl => ?_, fun _ => cn.2.2.symm⟩
        rcases hkl with ⟨_, _, _, h7, h8⟩ | ⟨hne, hkl⟩
        · have := (h2 r o hr ho (by rw [h7]; exact h8)).2
          rw [om] at this
          omega
        · have hk' := old r r' k hr hr' hk hne
          have d := h4 r' k o n hr' ho hk0 (Nat.le_trans hk' (hV r r' hr hr')) hkl
          have d2 := h1 r r' k (o % 4) hr hr' ho4 hk0 hk'
          rw [om] at d d2
          omega
      · rw [upV_o (fun y => ea y.1), om] at hn
        have := hV a r ha hr
        omega
    · have hx : ex o n := Or.elim hx id (fun z => absurd z cn)
      have hb := h5 o n ho hx
      by_cases ea : a = r
      · rw [ea] at hn ⊢
        have hn' : n ≤ V r (o % 4) := by
          by_cases y : o % 4 = r
          · rw [y] at hb ⊢; exact hb
          · rw [upV_o (fun z => y z.2)] at hn; exact hn
        have h3' := h3 r o n hr ho hx h0 hn'
        have kk : (∀ r' k, r' < 4 → 0 < k → k ≤ upV V r r r' → ¬ upK kl N V r lo hi r' k o n) ↔ (N r o = n ∧ ¬ (lo ≤ o ∧ o < hi)) := by
          constructor
          · intro hall
            have eN : N r o = n := h3'.mpr fun r' k hr' hk0 hk hkl => by
              refine hall r' k hr' hk0 (Nat.le_trans hk (upV_l V r r r')) (Or.inr ⟨fun z => ?_, hkl⟩)
              rw [z.1, z.2] at hk
              omega
            refine ⟨eN, fun hR => hall r (V r r + 1) hr (by omega) (by rw [upV_r]; exact Nat.le_refl _) (Or.inl ⟨rfl, rfl, hR, eN, by omega⟩)⟩
          · rintro ⟨eN, hR⟩ r' k hr' hk0 hk (⟨_, _, hR2, _⟩ | ⟨hne, hkl⟩)
            · exact hR hR2
            · exact h3'.mp eN r' k hr' hk0 (old r r' k hr hr' hk hne) hkl
        rw [kk]
        by_cases c0 : mk = true ∧ o = o0
        · have om : o % 4 = r := by rw [c0.2]; exact (hm c0.1).1
          rw [upN_m c0]
          rw [om] at hn'
          refine ⟨fun z => by omega, fun z => absurd ?_ z.2⟩
          rw [c0.2]; exact (hm c0.1).2
        · by_cases c1 : lo ≤ o ∧ o < hi
          · rw [upN_c c0 c1]
            exact ⟨fun z => by omega, fun z => absurd c1 z.2⟩
          · rw [upN_k c0 c1]
            exact ⟨fun z => ⟨z, c1⟩, fun z => z.1⟩
      · have hn' : n ≤ V a (o % 4) := by rw [upV_o (fun y => ea y.1)] at hn; exact hn
        rw [upN_o ea, h3 a o n ha ho hx h0 hn']
        constructor
        · intro hk r' k hr' hk0 hk2 hu
          rw [upV_o (fun y => ea y.1)] at hk2
          rcases hu with ⟨e1, e2, _⟩ | ⟨_, hu⟩
          · rw [e1, e2] at hk2
            have := hV a r ha hr
            omega
          · exact hk r' k hr' hk0 hk2 hu
        · intro hk r' k hr' hk0 hk2 hu
          refine hk r' k hr' hk0 (by rw [upV_o (fun y => ea y.1)]; exact hk2) (Or.inr ⟨fun z => ?_, hu⟩)
          rw [z.1, z.2] at hk2
          have := hV a r ha hr
          omega
  · rcases hkl with ⟨e1, e2, _, hN, hn0⟩ | ⟨hne, hkl⟩
    · rw [upD, if_pos ⟨e1, e2⟩]
      have := (h2 r o hr ho (by rw [hN]; exact hn0)).2
      rw [hN] at this
      exact Nat.le_trans this (upV_l V r r _)
    · rw [upD, if_neg hne]
      exact h4 r' k o n hr' ho h0 (old r' r' k hr' hr' hk hne) hkl
  · rcases hx with hx | ⟨m, e1, e2⟩
    · exact Nat.le_trans (h5 o n ho hx) (upV_l V r _ _)
    · rw [e1, (hm m).1, upV_r, e2]; exact Nat.le_refl _
