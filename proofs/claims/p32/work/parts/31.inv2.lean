/-! a state's past: updates and merges of the class's own state keep it -/
theorem IvN_le {st : St} {B : Nat} {N V : Nat → Nat → Nat} {C : Nat → Nat} {dp : Nat → Nat → Nat → Nat} {kl : Nat → Nat → Nat → Nat → Prop} {ex : Nat → Nat → Prop} (h : IvN st B N V C) (hK : IvK N V dp kl ex) {a o : Nat} (ha : a < 4) (ho : o < 480) : N a o ≤ B := by
  obtain ⟨n1, n2, n3, n4, n5, n6⟩ := h
  have ho4 : o % 4 < 4 := Nat.mod_lt _ (by decide)
  by_cases e : N a o = 0
  · omega
  · have h1 := (hK.2.1 a o ha ho e).2
    have h2 := n6 a (o % 4) ha ho4
    have h3 := n5 (o % 4) ho4
    have h4 := n4 (o % 4) ho4
    omega
theorem IvV_le {st : St} {B : Nat} {N V : Nat → Nat → Nat} {C : Nat → Nat} (h : IvN st B N V C) {a b : Nat} (ha : a < 4) (hb : b < 4) : V a b ≤ B := by
  obtain ⟨n1, n2, n3, n4, n5, n6⟩ := h
  have h2 := n6 a b ha hb
  have h3 := n5 b hb
  have h4 := n4 b hb
  omega
/-- what an update leaves: the region [lo, hi) of r is removed, the slot o0 made if mk -/
def UpS (st st' : St) (r o0 : Nat) (mk : Bool) (lo hi : Nat) (v : Int32) : Prop :=
  (∀ a o, a < 4 → o < 480 → st'.1 (a * 480 + o) = if a = r then (if mk = true ∧ o = o0 then st.2.2.2.1 (r * 4 + r) + nI 1 else if lo ≤ o ∧ o < hi then 0 else st.1 (r * 480 + o)) else st.1 (a * 480 + o)) ∧
  (∀ a o, a < 4 → o < 480 → ¬ (a = r ∧ mk = true ∧ o = o0) → st'.2.2.1 (a * 480 + o) = st.2.2.1 (a * 480 + o) ∧ st'.2.1 (a * 480 + o) = st.2.1 (a * 480 + o)) ∧
  (mk = true → st'.2.2.1 (r * 480 + o0) = v ∧ st'.2.1 (r * 480 + o0) = st.2.2.2.2.1 r + nI 1) ∧
  (∀ a b, a < 4 → b < 4 → st'.2.2.2.1 (a * 4 + b) = if a = r ∧ b = r then st.2.2.2.1 (r * 4 + r) + nI 1 else st.2.2.2.1 (a * 4 + b)) ∧
  (∀ a, a < 4 → st'.2.2.2.2.1 a = if a = r then st.2.2.2.2.1 r + nI 1 else st.2.2.2.2.1 a)
theorem Iv_up {st st' : St} {B r o0 lo hi : Nat} {mk : Bool} {v : Int32} (hr : r < 4) (hB : B + 1 < 2 ^ 31) (h : Iv st B) (hm : mk = true → o0 % 4 = r ∧ lo ≤ o0 ∧ o0 < hi) (hu : UpS st st' r o0 mk lo hi v) (ho : mk = true → ∀ t, ¬ t < 0 → okV o0 v t) : Iv st' (B + 1) := by
  obtain ⟨N, V, C, dp, kl, ex, ev, es, ⟨n1, n2, n3, n4, n5, n6⟩, hK, hv1, hv2⟩ := h
  obtain ⟨u1, u2, u3, u4, u5⟩ := hu
  refine ⟨upN N V r o0 mk lo hi, upV V r, fun a => if a = r then C r + 1 else C a, upD dp V r, upK kl N V r lo hi, upX ex V r o0 mk, fun o n => if o = o0 ∧ n = V r r + 1 ∧ mk = true then v else ev o n, fun o n => if o = o0 ∧ n = V r r + 1 ∧ mk = true then nI (C r + 1) else es o n, ⟨fun a o ha ho' => ?_, fun a b ha hb => ?_, fun a ha => ?_, fun a ha => ?_, fun a ha => ?_, fun a b ha hb => ?_⟩, K_up hr n6 hm hK, fun a o ha ho' hn => ?_, fun o n ho' hx => ?_⟩
  · rw [u1 a o ha ho']
    by_cases e : a = r
    · rw [if_pos e, e]
      by_cases c0 : mk = true ∧ o = o0
      · rw [if_pos c0, upN_m c0, n2 r r hr hr, nI_add]
      · rw [if_neg c0]
        by_cases c1 : lo ≤ o ∧ o < hi
        · rw [if_pos c1, upN_c c0 c1, nI_0]
        · rw [if_neg c1, upN_k c0 c1]; exact n1 r o hr ho'
    · rw [if_neg e, upN_o e]; exact n1 a o ha ho'
  · rw [u4 a b ha hb]
    by_cases e : a = r ∧ b = r
    · rw [if_pos e, e.1, e.2, upV_r, n2 r r hr hr, nI_add]
    · rw [if_neg e, upV_o e]; exact n2 a b ha hb
  · rw [u5 a ha]
    show _ = nI (if a = r then C r + 1 else C a)
    by_cases e : a = r
    · rw [if_pos e, if_pos e, n3 r hr, nI_add]
    · rw [if_neg e, if_neg e]; exact n3 a ha
  · show (if a = r then C r + 1 else C a) ≤ B + 1
    by_cases e : a = r
    · rw [if_pos e]; have := n4 r hr; omega
    · rw [if_neg e]; have := n4 a ha; omega
  · show upV V r a a ≤ (if a = r then C r + 1 else C a)
    by_cases e : a = r
    · rw [if_pos e, e, upV_r]; have := n5 r hr; omega
    · rw [if_neg e, upV_o (fun y => e y.1)]; exact n5 a ha
  · by_cases e : a = r ∧ b = r
    · rw [e.1, e.2]; exact Nat.le_refl _
    · rw [upV_o e]; exact Nat.le_trans (n6 a b ha hb) (upV_l V r b b)
  · show st'.2.2.1 (a * 480 + o) = (if o = o0 ∧ upN N V r o0 mk lo hi a o = V r r + 1 ∧ mk = true then v else ev o (upN N V r o0 mk lo hi a o)) ∧ st'.2.1 (a * 480 + o) = (if o = o0 ∧ upN N V r o0 mk lo hi a o = V r r + 1 ∧ mk = true then nI (C r + 1) else es o (upN N V r o0 mk lo hi a o))
    by_cases c : a = r ∧ mk = true ∧ o = o0
    · have c' : o = o0 ∧ upN N V r o0 mk lo hi a o = V r r + 1 ∧ mk = true := ⟨c.2.2, by rw [c.1]; exact upN_m c.2, c.2.1⟩
      rw [if_pos c', if_pos c', c.1, c.2.2, (u3 c.2.1).1, (u3 c.2.1).2, n3 r hr, nI_add]
      exact ⟨rfl, rfl⟩
    · have e2 : upN N V r o0 mk lo hi a o = N a o := by
        by_cases e : a = r
        · rw [e] at hn ⊢
          have c0 : ¬ (mk = true ∧ o = o0) := fun z => c ⟨e, z⟩
          by_cases c1 : lo ≤ o ∧ o < hi
          · exact absurd (upN_c c0 c1) hn
          · exact upN_k c0 c1
        · exact upN_o e
      rw [e2] at hn ⊢
      have c' : ¬ (o = o0 ∧ N a o = V r r + 1 ∧ mk = true) := fun z => by
        have h1 := (hK.2.1 a o ha ho' hn).2
        rw [z.1, (hm z.2.2).1, ← z.1] at h1
        have h2 := n6 a r ha hr
        omega
      rw [if_neg c', if_neg c', (u2 a o ha ho' c).1, (u2 a o ha ho' c).2]
      exact hv1 a o ha ho' hn
  · show okV o (if o = o0 ∧ n = V r r + 1 ∧ mk = true then v else ev o n) (if o = o0 ∧ n = V r r + 1 ∧ mk = true then nI (C r + 1) else es o n)
    by_cases c : o = o0 ∧ n = V r r + 1 ∧ mk = true
    · rw [if_pos c, if_pos c, c.1]
      have := n4 r hr
      exact ho c.2.2 _ (nI_pos (by omega))
    · rw [if_neg c, if_neg c]
      rcases hx with hx | ⟨m, e1, e2⟩
      · exact hv2 o n ho' hx
      · exact absurd ⟨e1, e2, m⟩ c
-- merging
theorem mIt_at {st : St} {f t : Nat} (hf : f < 4) (ht : t < 4) (hne : f ≠ t) : ∀ n, n ≤ 480 →
    (mIt st f t n).2.2.2 = st.2.2.2 ∧
    (∀ i, ¬ (t * 480 ≤ i ∧ i < t * 480 + n) → (mIt st f t n).1 i = st.1 i ∧ (mIt st f t n).2.1 i = st.2.1 i ∧ (mIt st f t n).2.2.1 i = st.2.2.1 i) ∧
    (∀ o, o < n → (mIt st f t n).1 (t * 480 + o) = (if addP st f t o then st.1 (f * 480 + o) else if remP st f t o then nI 0 else st.1 (t * 480 + o)) ∧ (mIt st f t n).2.1 (t * 480 + o) = (if addP st f t o then st.2.1 (f * 480 + o) else st.2.1 (t * 480 + o)) ∧ (mIt st f t n).2.2.1 (t * 480 + o) = (if addP st f t o then st.2.2.1 (f * 480 + o) else st.2.2.1 (t * 480 + o)))
  | 0, _ => ⟨rfl, fun _ _ => ⟨rfl, rfl, rfl⟩, fun o h => absurd h (Nat.not_lt_zero o)⟩
  | n + 1, hn => by
    obtain ⟨i1, i2, i3⟩ := mIt_at (st := st) hf ht hne n (by omega)
    have a1 := i2 (f * 480 + n) (by omega)
    have a2 := i2 (t * 480 + n) (by omega)
    have e3 : (mIt st f t n).2.2.2.1 = st.2.2.2.1 := congrArg (fun z => z.1) i1
    have ea : addP (mIt st f t n) f t n ↔ addP st f t n := by
      show (¬ (mIt st f t n).1 (f * 480 + n) = 0 ∧ ¬ (mIt st f t n).1 (f * 480 + n) = (mIt st f t n).1 (t * 480 + n) ∧ (mIt st f t n).2.2.2.1 (t * 4 + n % 4) < (mIt st f t n).1 (f * 480 + n)) ↔ _
      rw [a1.1, a2.1, e3]
    have er : remP (mIt st f t n) f t n ↔ remP st f t n := by
      show (¬ (mIt st f t n).1 (t * 480 + n) = 0 ∧ ¬ (mIt st f t n).1 (t * 480 + n) = (mIt st f t n).1 (f * 480 + n) ∧ (mIt st f t n).1 (t * 480 + n) ≤ (mIt st f t n).2.2.2.1 (f * 4 + n % 4)) ↔ _
      rw [a1.1, a2.1, e3]
    have hs : mIt st f t (n + 1) = mSlot (mIt st f t n) f t n := by rw [mIt]
    rw [hs]
    by_cases c1 : addP st f t n
    · rw [mSlot, if_pos (ea.mpr c1)]
      refine ⟨i1, fun i hi => ?_, fun o ho => ?_⟩
      · have hi2 := i2 i (by omega)
        exact ⟨(pk_un (by omega)).trans hi2.1, (pk_un (by omega)).trans hi2.2.1, (pk_un (by omega)).trans hi2.2.2⟩
      · by_cases eo : o = n
        · subst eo
          rw [if_pos c1, if_pos c1, if_pos c1]
          exact ⟨pk_us.trans a1.1, pk_us.trans a1.2.1, pk_us.trans a1.2.2⟩
        · have hi2 := i3 o (by omega)
          exact ⟨(pk_un (by omega)).trans hi2.1, (pk_un (by omega)).trans hi2.2.1, (pk_un (by omega)).trans hi2.2.2⟩
    · by_cases c2 : remP st f t n
      · rw [mSlot, if_neg (fun z => c1 (ea.mp z)), if_pos (er.mpr c2)]
        refine ⟨i1, fun i hi => ?_, fun o ho => ?_⟩
        · have hi2 := i2 i (by omega)
          exact ⟨(pk_un (by omega)).trans hi2.1, hi2.2.1, hi2.2.2⟩
        · by_cases eo : o = n
          · subst eo
            rw [if_neg c1, if_neg c1, if_neg c1, if_pos c2]
            exact ⟨pk_us, a2.2.1, a2.2.2⟩
          · have hi2 := i3 o (by omega)
            exact ⟨(pk_un (by omega)).trans hi2.1, hi2.2.1, hi2.2.2⟩
      · rw [mSlot, if_neg (fun z => c1 (ea.mp z)), if_neg (fun z => c2 (er.mp z))]
        refine ⟨i1, fun i hi => i2 i (by omega), fun o ho => ?_⟩
        by_cases eo : o = n
        · subst eo
          rw [if_neg c1, if_neg c1, if_neg c1, if_neg c2]
          exact a2
        · exact i3 o (by omega)
theorem knE_at {se : Nat → Int32} {f t : Nat} (hf : f < 4) (ht : t < 4) (hne : f ≠ t) : ∀ n, n ≤ 4 →
    (∀ i, ¬ (t * 4 ≤ i ∧ i < t * 4 + n) → knE se f t n i = se i) ∧ (∀ o, o < n → knE se f t n (t * 4 + o) = mx (se (f * 4 + o)) (se (t * 4 + o)))
  | 0, _ => ⟨fun _ _ => rfl, fun o h => absurd h (Nat.not_lt_zero o)⟩
  | n + 1, hn => by
    obtain ⟨i2, i3⟩ := knE_at (se := se) hf ht hne n (by omega)
    rw [knE, i2 (f * 4 + n) (by omega), i2 (t * 4 + n) (by omega)]
    refine ⟨fun i hi => ?_, fun o ho => ?_⟩
    · rw [pk_un (by omega)]; exact i2 i (by omega)
    · by_cases eo : o = n
      · rw [eo, pk_us]
      · rw [pk_un (by omega)]; exact i3 o (by omega)
set_option maxRecDepth 8192 in
theorem mKn_1 (X : St) (f t : Nat) : (mKn X f t).1 = X.1 ∧ (mKn X f t).2.1 = X.2.1 ∧ (mKn X f t).2.2.1 = X.2.2.1 ∧ (mKn X f t).2.2.2.1 = knE X.2.2.2.1 f t 4 ∧ (mKn X f t).2.2.2.2.1 = upd X.2.2.2.2.1 t (mx (X.2.2.2.2.1 f) (X.2.2.2.2.1 t)) ∧ (mKn X f t).2.2.2.2.2 = X.2.2.2.2.2 := ⟨rfl, rfl, rfl, rfl, rfl, rfl⟩
set_option maxRecDepth 8192 in
theorem mgS_eq (st : St) (f t : Nat) : mgS st f t = ((mKn (mIt st f t 480) f t).1, (mKn (mIt st f t 480) f t).2.1, (mKn (mIt st f t 480) f t).2.2.1, (mKn (mIt st f t 480) f t).2.2.2.1, (mKn (mIt st f t 480) f t).2.2.2.2.1, mRes (mKn (mIt st f t 480) f t).2.2.2.2.2 (nI f) (nI t) (nI (cntP (fun o => addP st f t o) 480)) (nI (cntP (fun o => remP st f t o) 480))) := by unfold mgS; rfl
set_option maxRecDepth 8192 in
theorem st_p1 (a b c d e g : Nat → Int32) : ((a, b, c, d, e, g) : St).1 = a := rfl
set_option maxRecDepth 8192 in
theorem st_p2 (a b c d e g : Nat → Int32) : ((a, b, c, d, e, g) : St).2.1 = b := rfl
set_option maxRecDepth 8192 in
theorem st_p3 (a b c d e g : Nat → Int32) : ((a, b, c, d, e, g) : St).2.2.1 = c := rfl
set_option maxRecDepth 8192 in
theorem st_p4 (a b c d e g : Nat → Int32) : ((a, b, c, d, e, g) : St).2.2.2.1 = d := rfl
set_option maxRecDepth 8192 in
theorem st_p5 (a b c d e g : Nat → Int32) : ((a, b, c, d, e, g) : St).2.2.2.2.1 = e := rfl
set_option maxRecDepth 8192 in
theorem st_p6 (a b c d e g : Nat → Int32) : ((a, b, c, d, e, g) : St).2.2.2.2.2 = g := rfl
set_option maxRecDepth 8192 in
theorem mgS_1 (st : St) (f t : Nat) : (mgS st f t).1 = (mIt st f t 480).1 := by rw [mgS_eq]; exact (st_p1 _ _ _ _ _ _).trans (mKn_1 _ f t).1
set_option maxRecDepth 8192 in
theorem mgS_2 (st : St) (f t : Nat) : (mgS st f t).2.1 = (mIt st f t 480).2.1 := by rw [mgS_eq]; exact (st_p2 _ _ _ _ _ _).trans (mKn_1 _ f t).2.1
set_option maxRecDepth 8192 in
theorem mgS_3 (st : St) (f t : Nat) : (mgS st f t).2.2.1 = (mIt st f t 480).2.2.1 := by rw [mgS_eq]; exact (st_p3 _ _ _ _ _ _).trans (mKn_1 _ f t).2.2.1
set_option maxRecDepth 8192 in
theorem mgS_4 (st : St) (f t : Nat) : (mgS st f t).2.2.2.1 = knE (mIt st f t 480).2.2.2.1 f t 4 := by rw [mgS_eq]; exact (st_p4 _ _ _ _ _ _).trans (mKn_1 _ f t).2.2.2.1
set_option maxRecDepth 8192 in
theorem mgS_5 (st : St) (f t : Nat) : (mgS st f t).2.2.2.2.1 = upd (mIt st f t 480).2.2.2.2.1 t (mx ((mIt st f t 480).2.2.2.2.1 f) ((mIt st f t 480).2.2.2.2.1 t)) := by rw [mgS_eq]; exact (st_p5 _ _ _ _ _ _).trans (mKn_1 _ f t).2.2.2.2.1
set_option maxRecDepth 8192 in
theorem mgS_6 (st : St) (f t : Nat) : (mgS st f t).2.2.2.2.2 = mRes (mIt st f t 480).2.2.2.2.2 (nI f) (nI t) (nI (cntP (fun o => addP st f t o) 480)) (nI (cntP (fun o => remP st f t o) 480)) := by rw [mgS_eq]; exact (st_p6 _ _ _ _ _ _).trans (by rw [(mKn_1 (mIt st f t 480) f t).2.2.2.2.2])
theorem mg_num {st : St} {f t a o : Nat} (hf : f < 4) (ht : t < 4) (hne : f ≠ t) (ho : o < 480) : (mgS st f t).1 (a * 480 + o) = if a = t then (if addP st f t o then st.1 (f * 480 + o) else if remP st f t o then 0 else st.1 (t * 480 + o)) else st.1 (a * 480 + o) := by
  obtain ⟨a1, a2, a3⟩ := mIt_at (st := st) hf ht hne 480 (Nat.le_refl 480)
  rw [mgS_1]
  by_cases e : a = t
  · rw [if_pos e, e, (a3 o ho).1, nI_0]
  · rw [if_neg e]; exact (a2 (a * 480 + o) (by omega)).1
theorem mg_val {st : St} {f t a o : Nat} (hf : f < 4) (ht : t < 4) (hne : f ≠ t) (ho : o < 480) : (mgS st f t).2.2.1 (a * 480 + o) = (if a = t ∧ addP st f t o then st.2.2.1 (f * 480 + o) else st.2.2.1 (a * 480 + o)) ∧ (mgS st f t).2.1 (a * 480 + o) = (if a = t ∧ addP st f t o then st.2.1 (f * 480 + o) else st.2.1 (a * 480 + o)) := by
  obtain ⟨a1, a2, a3⟩ := mIt_at (st := st) hf ht hne 480 (Nat.le_refl 480)
  rw [mgS_2, mgS_3]
  by_cases e : a = t
  · rw [e, (a3 o ho).2.1, (a3 o ho).2.2]
    by_cases c : addP st f t o
    · rw [if_pos c, if_pos c, if_pos ⟨rfl, c⟩, if_pos ⟨rfl, c⟩]; exact ⟨rfl, rfl⟩
    · rw [if_neg c, if_neg c, if_neg (fun z => c z.2), if_neg (fun z => c z.2)]; exact ⟨rfl, rfl⟩
  · rw [if_neg (fun z => e z.1), if_neg (fun z => e z.1)]
    exact ⟨(a2 (a * 480 + o) (by omega)).2.2, (a2 (a * 480 + o) (by omega)).2.1⟩
theorem mg_see {st : St} {f t a b : Nat} (hf : f < 4) (ht : t < 4) (hne : f ≠ t) (hb : b < 4) : (mgS st f t).2.2.2.1 (a * 4 + b) = if a = t then mx (st.2.2.2.1 (f * 4 + b)) (st.2.2.2.1 (t * 4 + b)) else st.2.2.2.1 (a * 4 + b) := by
  obtain ⟨a1, a2, a3⟩ := mIt_at (st := st) hf ht hne 480 (Nat.le_refl 480)
  have e3 : (mIt st f t 480).2.2.2.1 = st.2.2.2.1 := congrArg (fun z => z.1) a1
  obtain ⟨b1, b2⟩ := knE_at (se := st.2.2.2.1) hf ht hne 4 (Nat.le_refl 4)
  rw [mgS_4, e3]
  by_cases e : a = t
  · rw [if_pos e, e]; exact b2 b hb
  · rw [if_neg e]; exact b1 _ (by omega)
theorem mg_clk {st : St} {f t a : Nat} (hf : f < 4) (ht : t < 4) (hne : f ≠ t) : (mgS st f t).2.2.2.2.1 a = if a = t then mx (st.2.2.2.2.1 f) (st.2.2.2.2.1 t) else st.2.2.2.2.1 a := by
  obtain ⟨a1, a2, a3⟩ := mIt_at (st := st) hf ht hne 480 (Nat.le_refl 480)
  have e3 : (mIt st f t 480).2.2.2.2.1 = st.2.2.2.2.1 := congrArg (fun z => z.2.1) a1
  rw [mgS_5, e3]
  by_cases e : a = t
  · rw [if_pos e, e, pk_us]
  · rw [if_neg e, pk_un e]
theorem mRes_v (g : Nat → Int32) (a b c d : Int32) : mRes g a b c d 0 = a ∧ mRes g a b c d 1 = b ∧ mRes g a b c d 2 = c ∧ mRes g a b c d 3 = d := ⟨rfl, rfl, rfl, rfl⟩
set_option maxRecDepth 8192 in
theorem mg_res (st : St) (f t : Nat) : (mgS st f t).2.2.2.2.2 0 = nI f ∧ (mgS st f t).2.2.2.2.2 1 = nI t ∧ (mgS st f t).2.2.2.2.2 2 = nI (cntP (fun o => addP st f t o) 480) ∧ (mgS st f t).2.2.2.2.2 3 = nI (cntP (fun o => remP st f t o) 480) := by
  rw [mgS_6]
  exact mRes_v _ _ _ _ _
theorem nI_z {n : Nat} (h : n < 2 ^ 31) : nI n = 0 ↔ n = 0 := ⟨fun z => (nI_eq h (by decide)).mp (z.trans nI_0.symm), fun z => by rw [z, nI_0]⟩
theorem mx_nI {a b : Nat} (ha : a < 2 ^ 31) (hb : b < 2 ^ 31) : mx (nI a) (nI b) = nI (if b < a then a else b) := by
  show (if nI a < nI b then nI b else nI a) = _
  by_cases h : a < b
  · rw [if_pos (nI_lt h hb), if_neg (by omega)]
  · rw [if_neg (nI_nlt (by omega) ha)]
    by_cases h2 : b < a
    · rw [if_pos h2]
    · rw [if_neg h2, show a = b by omega]
theorem ad_iff {st : St} {B : Nat} {N V : Nat → Nat → Nat} {C : Nat → Nat} {dp : Nat → Nat → Nat → Nat} {kl : Nat → Nat → Nat → Nat → Prop} {ex : Nat → Nat → Prop} (hB : B < 2 ^ 31) (h : IvN st B N V C) (hK : IvK N V dp kl ex) {f t o : Nat} (hf : f < 4) (ht : t < 4) (ho : o < 480) : (addP st f t o ↔ adN N V f t o) ∧ (remP st f t o ↔ reN N V f t o) := by
  have ho4 : o % 4 < 4 := Nat.mod_lt _ (by decide)
  have bf := IvN_le h hK hf ho
  have bt := IvN_le h hK ht ho
  have vf := IvV_le h hf ho4
  have vt := IvV_le h ht ho4
  obtain ⟨n1, n2, n3, n4, n5, n6⟩ := h
  show ((¬ st.1 (f * 480 + o) = 0 ∧ ¬ st.1 (f * 480 + o) = st.1 (t * 480 + o) ∧ st.2.2.2.1 (t * 4 + o % 4) < st.1 (f * 480 + o)) ↔ _) ∧ ((¬ st.1 (t * 480 + o) = 0 ∧ ¬ st.1 (t * 480 + o) = st.1 (f * 480 + o) ∧ st.1 (t * 480 + o) ≤ st.2.2.2.1 (f * 4 + o % 4)) ↔ _)
  rw [n1 f o hf ho, n1 t o ht ho, n2 t _ ht ho4, n2 f _ hf ho4, nI_z (by omega), nI_z (by omega), nI_eq (by omega) (by omega), nI_eq (by omega) (by omega), nI_ltI (by omega) (by omega), nI_leI (by omega) (by omega)]
  exact ⟨Iff.rfl, Iff.rfl⟩
theorem Iv_mg {st : St} {B f t : Nat} (hB : B < 2 ^ 31) (hf : f < 4) (ht : t < 4) (hne : f ≠ t) (h : Iv st B) : Iv (mgS st f t) B := by
  obtain ⟨N, V, C, dp, kl, ex, ev, es, hN, hK, hv1, hv2⟩ := h
  have had := fun o ho => ad_iff hB hN hK (f := f) (t := t) (o := o) hf ht ho
  have hle := fun b (hb : b < 4) => IvV_le hN (b := b) hf hb
  have hle2 := fun b (hb : b < 4) => IvV_le hN (b := b) ht hb
  obtain ⟨n1, n2, n3, n4, n5, n6⟩ := hN
  refine ⟨mgN N V f t, mgV V f t, fun a => if a = t then (if C t < C f then C f else C t) else C a, dp, kl, ex, ev, es, ⟨fun a o ha ho => ?_, fun a b ha hb => ?_, fun a ha => ?_, fun a ha => ?_, fun a ha => ?_, fun a b ha hb => ?_⟩, K_mg hf ht n6 hK, fun a o ha ho hn => ?_, hv2⟩
  · rw [mg_num hf ht hne ho]
    by_cases e : a = t
    · rw [if_pos e, e, mgN_t]
      by_cases c1 : addP st f t o
      · rw [if_pos c1, if_pos ((had o ho).1.mp c1)]; exact n1 f o hf ho
      · rw [if_neg c1, if_neg (fun z => c1 ((had o ho).1.mpr z))]
        by_cases c2 : remP st f t o
        · rw [if_pos c2, if_pos ((had o ho).2.mp c2), nI_0]
        · rw [if_neg c2, if_neg (fun z => c2 ((had o ho).2.mpr z))]; exact n1 t o ht ho
    · rw [if_neg e, mgN_o e]; exact n1 a o ha ho
  · rw [mg_see hf ht hne hb]
    by_cases e : a = t
    · have := hle b hb
      have := hle2 b hb
      rw [if_pos e, e, mgV, if_pos rfl, n2 f b hf hb, n2 t b ht hb, mx_nI (by omega) (by omega)]
    · rw [if_neg e, mgV_o e]; exact n2 a b ha hb
  · rw [mg_clk hf ht hne]
    show _ = nI (if a = t then (if C t < C f then C f else C t) else C a)
    by_cases e : a = t
    · have := n4 f hf
      have := n4 t ht
      rw [if_pos e, if_pos e, n3 f hf, n3 t ht, mx_nI (by omega) (by omega)]
    · rw [if_neg e, if_neg e]; exact n3 a ha
  · show (if a = t then (if C t < C f then C f else C t) else C a) ≤ B
    have := n4 f hf
    have := n4 t ht
    have := n4 a ha
    split
    · split <;> omega
    · omega
  · show mgV V f t a a ≤ (if a = t then (if C t < C f then C f else C t) else C a)
    rw [mgV_d hf ht n6]
    have := n5 a ha
    by_cases e : a = t
    · rw [if_pos e]
      rw [e] at this ⊢
      split <;> omega
    · rw [if_neg e]; exact this
  · rw [mgV_d hf ht n6]
    by_cases e : a = t
    · rw [e]
      have m := mgV_t V f t b
      have := n6 f b hf hb
      have := n6 t b ht hb
      omega
    · rw [mgV_o e]; exact n6 a b ha hb
  · rw [(mg_val hf ht hne ho).1, (mg_val hf ht hne ho).2]
    by_cases e : a = t
    · rw [e, mgN_t] at hn
      rw [e, mgN_t]
      by_cases c1 : addP st f t o
      · have c1' := (had o ho).1.mp c1
        have ct : t = t ∧ addP st f t o := ⟨rfl, c1⟩
        rw [if_pos ct, if_pos ct, if_pos c1']
        exact hv1 f o hf ho c1'.1
      · have c1' : ¬ adN N V f t o := fun z => c1 ((had o ho).1.mpr z)
        rw [if_neg c1'] at hn
        have ct : ¬ (t = t ∧ addP st f t o) := fun z => c1 z.2
        rw [if_neg ct, if_neg ct, if_neg c1']
        by_cases c2 : reN N V f t o
        · rw [if_pos c2] at hn; exact absurd rfl hn
        · rw [if_neg c2] at hn ⊢
          exact hv1 t o ht ho hn
    · rw [mgN_o e] at hn
      rw [if_neg (fun z => e z.1), if_neg (fun z => e z.1), mgN_o e]
      exact hv1 a o ha ho hn
-- who knows whom
theorem kn_rf (st : St) (a : Nat) : knP st a a := fun _ _ z => Int32.lt_irrefl z
theorem kn_tr {st : St} {a b c : Nat} (h1 : knP st a b) (h2 : knP st b c) : knP st a c := fun o ho => Int32.not_lt.mpr (Int32.le_trans (Int32.not_lt.mp (h2 o ho)) (Int32.not_lt.mp (h1 o ho)))
theorem kn_keep {st : St} {f t a b : Nat} (hf : f < 4) (ht : t < 4) (hne : f ≠ t) (ha : ¬ a = t) (hb : ¬ b = t) (h : knP st a b) : knP (mgS st f t) a b := fun o ho => by
  rw [mg_see hf ht hne ho, mg_see hf ht hne ho, if_neg ha, if_neg hb]; exact h o ho
theorem mx_l (x y : Int32) : ¬ mx x y < x := fun h => by
  have h : (if x < y then y else x) < x := h
  by_cases c : x < y
  · rw [if_pos c] at h; exact Int32.lt_asymm c h
  · rw [if_neg c] at h; exact Int32.lt_irrefl h
theorem mx_r {x y : Int32} (h : ¬ x < y) : mx x y = x := if_neg h
theorem kn_mg {st : St} {f t : Nat} (hf : f < 4) (ht : t < 4) (hne : f ≠ t) : knP (mgS st f t) t f := fun o ho => by
  rw [mg_see hf ht hne ho, mg_see hf ht hne ho, if_pos rfl, if_neg hne]; exact mx_l _ _
theorem kn_mg2 {st : St} {f t : Nat} (hf : f < 4) (ht : t < 4) (hne : f ≠ t) (h : knP st f t) : knP (mgS st f t) f t := fun o ho => by
  rw [mg_see hf ht hne ho, mg_see hf ht hne ho, if_pos rfl, if_neg hne, mx_r (h o ho)]; exact Int32.lt_irrefl
theorem kn_iff {st : St} {B : Nat} {N V : Nat → Nat → Nat} {C : Nat → Nat} (hB : B < 2 ^ 31) (h : IvN st B N V C) {a b : Nat} (ha : a < 4) (hb : b < 4) : knP st a b ↔ ∀ j, j < 4 → V b j ≤ V a j := by
  have e : ∀ j, j < 4 → (¬ st.2.2.2.1 (a * 4 + j) < st.2.2.2.1 (b * 4 + j) ↔ V b j ≤ V a j) := fun j hj => by
    have v1 := IvV_le h ha hj
    have v2 := IvV_le h hb hj
    rw [h.2.1 a j ha hj, h.2.1 b j hb hj, nI_ltI (by omega) (by omega), Nat.not_lt]
  exact ⟨fun z j hj => (e j hj).mp (z j hj), fun z j hj => (e j hj).mpr (z j hj)⟩
/-- the same entries, with the same stamps and values -/
def sameC (S : St) (a : Nat) (S' : St) (b : Nat) : Prop := ∀ o, o < 480 → S.1 (a * 480 + o) = S'.1 (b * 480 + o) ∧ (¬ S.1 (a * 480 + o) = 0 → S.2.1 (a * 480 + o) = S'.2.1 (b * 480 + o) ∧ S.2.2.1 (a * 480 + o) = S'.2.2.1 (b * 480 + o))
theorem Iv_same {st : St} {B a b : Nat} (hB : B < 2 ^ 31) (h : Iv st B) (ha : a < 4) (hb : b < 4) (h1 : knP st a b) (h2 : knP st b a) : sameC st a st b := by
  obtain ⟨N, V, C, dp, kl, ex, ev, es, hN, hK, hv1, hv2⟩ := h
  have k1 := (kn_iff hB hN ha hb).mp h1
  have k2 := (kn_iff hB hN hb ha).mp h2
  obtain ⟨_, g2, g3, _, _⟩ := hK
  have go : ∀ a b, a < 4 → b < 4 → (∀ j, j < 4 → V b j ≤ V a j) → (∀ j, j < 4 → V a j ≤ V b j) → ∀ o, o < 480 → ¬ N a o = 0 → N b o = N a o := fun a b ha hb k1 k2 o ho hn => by
    have ho4 : o % 4 < 4 := Nat.mod_lt _ (by decide)
    have e := g2 a o ha ho hn
    refine (g3 b o (N a o) hb ho e.1 (by omega) (Nat.le_trans e.2 (k2 _ ho4))).mpr fun r k hr hk0 hk => ?_
    exact (g3 a o (N a o) ha ho e.1 (by omega) e.2).mp rfl r k hr hk0 (Nat.le_trans hk (k1 r hr))
  intro o ho
  have eN : N a o = N b o := by
    by_cases z : N a o = 0
    · by_cases z2 : N b o = 0
      · rw [z, z2]
      · exact go b a hb ha k2 k1 o ho z2
    · exact (go a b ha hb k1 k2 o ho z).symm
  have bN := IvN_le hN ⟨‹_›, g2, g3, ‹_›, ‹_›⟩ ha ho
  obtain ⟨n1, _⟩ := hN
  rw [n1 a o ha ho, n1 b o hb ho, eN]
  refine ⟨rfl, fun hz => ?_⟩
  have hz : ¬ N b o = 0 := fun y => hz (by rw [y, nI_0])
  have e1 := hv1 b o hb ho hz
  have e2 := hv1 a o ha ho (by rw [eN]; exact hz)
  rw [eN] at e2
  exact ⟨e2.2.trans e1.2.symm, e2.1.trans e1.1.symm⟩
theorem cntP_0 {P : Nat → Prop} [DecidablePred P] : ∀ n, (∀ o, o < n → ¬ P o) → cntP P n = 0
  | 0, _ => rfl
  | n + 1, h => by rw [cntP, cntP_0 n (fun o ho => h o (by omega)), if_neg (h n (by omega))]
theorem Iv_zero {st : St} {B f t : Nat} (hB : B < 2 ^ 31) (h : Iv st B) (hf : f < 4) (ht : t < 4) (h1 : knP st t f) : cntP (fun o => addP st f t o) 480 = 0 ∧ cntP (fun o => remP st f t o) 480 = 0 := by
  obtain ⟨N, V, C, dp, kl, ex, ev, es, hN, hK, hv1, hv2⟩ := h
  have k1 := (kn_iff hB hN ht hf).mp h1
  have had := fun o ho => ad_iff hB hN hK (f := f) (t := t) (o := o) hf ht ho
  obtain ⟨_, g2, g3, _, _⟩ := hK
  refine ⟨cntP_0 480 fun o ho z => ?_, cntP_0 480 fun o ho z => ?_⟩
  · have ho4 : o % 4 < 4 := Nat.mod_lt _ (by decide)
    have z := (had o ho).1.mp z
    have e := (g2 f o hf ho z.1).2
    have := k1 _ ho4
    have := z.2.2
    omega
  · have z := (had o ho).2.mp z
    have e := g2 t o ht ho z.1
    refine z.2.1 ?_
    refine ((g3 f o (N t o) hf ho e.1 (by omega) z.2.2).mpr fun r k hr hk0 hk => ?_).symm
    exact (g3 t o (N t o) ht ho e.1 (by omega) e.2).mp rfl r k hr hk0 (Nat.le_trans hk (k1 r hr))
theorem Iv_ok {st : St} {B a o : Nat} (h : Iv st B) (ha : a < 4) (ho : o < 480) (hz : ¬ st.1 (a * 480 + o) = 0) : okV o (st.2.2.1 (a * 480 + o)) (st.2.1 (a * 480 + o)) := by
  obtain ⟨N, V, C, dp, kl, ex, ev, es, ⟨n1, _⟩, hK, hv1, hv2⟩ := h
  rw [n1 a o ha ho] at hz
  have hn : ¬ N a o = 0 := fun y => hz (by rw [y, nI_0])
  rw [(hv1 a o ha ho hn).1, (hv1 a o ha ho hn).2]
  exact hv2 o _ ho (hK.2.1 a o ha ho hn).1
