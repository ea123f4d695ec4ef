/-! the class's state and the reference's numbers, side by side -/
abbrev smN (B : Nat) (x : Int32) : Prop := ∃ n : Nat, n ≤ B ∧ x = nI n
theorem smN_0 (B : Nat) : smN B 0 := ⟨0, Nat.zero_le _, nI_0.symm⟩
theorem smN_m {B B' : Nat} {x : Int32} (h : smN B x) (hB : B ≤ B') : smN B' x := by
  obtain ⟨n, h1, h2⟩ := h
  exact ⟨n, Nat.le_trans h1 hB, h2⟩
theorem sm_le0 {B : Nat} {x : Int32} (h : smN B x) (hB : B < 2 ^ 31) : x ≤ 0 ↔ x = 0 := by
  obtain ⟨n, h1, rfl⟩ := h
  constructor
  · intro z
    by_cases e : n = 0
    · rw [e]; exact nI_0
    · exact absurd z (nI_nle (by omega) (by omega))
  · intro z; rw [z]; exact Int32.le_refl 0
theorem sm_nn {B : Nat} {x : Int32} (h : smN B x) (hB : B < 2 ^ 31) : ¬ x < 0 := by
  obtain ⟨n, h1, rfl⟩ := h
  exact nI_pos (by omega)
def RlK (st : St) (sa : Nat → Int32) (B : Nat) : Prop := (∀ i, i < 16 → st.2.2.2.1 i = sa i ∧ smN B (sa i)) ∧ (∀ j, j < 4 → st.2.2.2.2.1 j = sa (16 + j) ∧ smN B (sa (16 + j))) ∧ (∀ j, j < 4 → st.2.2.2.2.2 j = sa (20 + j))
def RlC (st : St) (sa : Nat → Int32) (B : Nat) : Prop := ∀ r w c k, r < 4 → w < 6 → c < 4 → k < 4 → (st.1 (r * 480 + w * 80 + c * 4 + k) = sa (24 + (4 * (4 * (6 * r + w) + c) + k)) ∧ smN B (sa (24 + (4 * (4 * (6 * r + w) + c) + k)))) ∧ (¬ sa (24 + (4 * (4 * (6 * r + w) + c) + k)) = 0 → st.2.2.1 (r * 480 + w * 80 + c * 4 + k) = sa (408 + (4 * (4 * (6 * r + w) + c) + k))) ∧ (c = 0 → ¬ sa (24 + (4 * (4 * (6 * r + w) + c) + k)) = 0 → st.2.1 (r * 480 + w * 80 + c * 4 + k) = sa (792 + 4 * (6 * r + w) + k) ∧ smN B (sa (792 + 4 * (6 * r + w) + k)))
def RlE (st : St) (sa : Nat → Int32) (B : Nat) : Prop := ∀ r w e k, r < 4 → w < 6 → e < 16 → k < 4 → (st.1 (r * 480 + w * 80 + (4 + e) * 4 + k) = sa (888 + 4 * (16 * (6 * r + w) + e) + k) ∧ smN B (sa (888 + 4 * (16 * (6 * r + w) + e) + k))) ∧ (¬ sa (888 + 4 * (16 * (6 * r + w) + e) + k) = 0 → st.2.2.1 (r * 480 + w * 80 + (4 + e) * 4 + k) = nI e)
def Rl (st : St) (sa : Nat → Int32) (B : Nat) : Prop := RlK st sa B ∧ RlC st sa B ∧ RlE st sa B
theorem Rl_m {st : St} {sa : Nat → Int32} {B B' : Nat} (h : Rl st sa B) (hB : B ≤ B') : Rl st sa B' := by
  obtain ⟨⟨hs, hc, hm⟩, hC, hE⟩ := h
  refine ⟨⟨fun i hi => ⟨(hs i hi).1, smN_m (hs i hi).2 hB⟩, fun j hj => ⟨(hc j hj).1, smN_m (hc j hj).2 hB⟩, hm⟩, fun r w c k h1 h2 h3 h4 => ?_, fun r w e k h1 h2 h3 h4 => ?_⟩
  · obtain ⟨⟨a1, a2⟩, a3, a4⟩ := hC r w c k h1 h2 h3 h4
    exact ⟨⟨a1, smN_m a2 hB⟩, a3, fun q z => ⟨(a4 q z).1, smN_m (a4 q z).2 hB⟩⟩
  · obtain ⟨⟨a1, a2⟩, a3⟩ := hE r w e k h1 h2 h3 h4
    exact ⟨⟨a1, smN_m a2 hB⟩, a3⟩
theorem Rl_cg {st : St} {sa sb : Nat → Int32} {B : Nat} (h : Rl st sa B) (hp : ∀ p, p < 2424 → sb p = sa p) : Rl st sb B := by
  obtain ⟨⟨hs, hc, hm⟩, hC, hE⟩ := h
  refine ⟨⟨fun i hi => ?_, fun j hj => ?_, fun j hj => ?_⟩, fun r w c k h1 h2 h3 h4 => ?_, fun r w e k h1 h2 h3 h4 => ?_⟩
  · rw [hp i (by omega)]; exact hs i hi
  · rw [hp (16 + j) (by omega)]; exact hc j hj
  · rw [hp (20 + j) (by omega)]; exact hm j hj
  · rw [hp (24 + (4 * (4 * (6 * r + w) + c) + k)) (by omega), hp (408 + (4 * (4 * (6 * r + w) + c) + k)) (by omega), hp (792 + 4 * (6 * r + w) + k) (by omega)]; exact hC r w c k h1 h2 h3 h4
  · rw [hp (888 + 4 * (16 * (6 * r + w) + e) + k) (by omega)]; exact hE r w e k h1 h2 h3 h4
-- where a place lies
theorem in4 {r w g r' w' g' k' : Nat} (hw : w < 6) (hg : g < 20) (hw' : w' < 6) (hg' : g' < 20) (hk' : k' < 4) (h1 : r * 480 + w * 80 + g * 4 ≤ r' * 480 + w' * 80 + g' * 4 + k') (h2 : r' * 480 + w' * 80 + g' * 4 + k' < r * 480 + w * 80 + g * 4 + 4) : r' = r ∧ w' = w ∧ g' = g := by
  have e1 : r' = r := by omega
  subst e1
  have e2 : w' = w := by omega
  subst e2
  exact ⟨rfl, rfl, by omega⟩
theorem inM {r w c r' w' c' k' : Nat} (hw : w < 6) (hc : c < 4) (hw' : w' < 6) (hc' : c' < 4) (hk' : k' < 4) (h1 : 24 + 4 * (4 * (6 * r + w) + c) ≤ 24 + (4 * (4 * (6 * r' + w') + c') + k')) (h2 : 24 + (4 * (4 * (6 * r' + w') + c') + k') < 24 + 4 * (4 * (6 * r + w) + c) + 4) : r' = r ∧ w' = w ∧ c' = c := by
  have e1 : r' = r := by omega
  subst e1
  have e2 : w' = w := by omega
  subst e2
  exact ⟨rfl, rfl, by omega⟩
theorem inE {r w e r' w' e' k' : Nat} (hw : w < 6) (he : e < 16) (hw' : w' < 6) (he' : e' < 16) (hk' : k' < 4) (h1 : 888 + 4 * (16 * (6 * r + w) + e) ≤ 888 + 4 * (16 * (6 * r' + w') + e') + k') (h2 : 888 + 4 * (16 * (6 * r' + w') + e') + k' < 888 + 4 * (16 * (6 * r + w) + e) + 4) : r' = r ∧ w' = w ∧ e' = e := by
  have e1 : r' = r := by omega
  subst e1
  have e2 : w' = w := by omega
  subst e2
  exact ⟨rfl, rfl, by omega⟩
theorem inT {r w r' w' k k' : Nat} (hw : w < 6) (hw' : w' < 6) (hk : k < 4) (hk' : k' < 4) (h1 : 792 + 4 * (6 * r + w) + k = 792 + 4 * (6 * r' + w') + k') : r' = r ∧ w' = w ∧ k' = k := by
  have e1 : r' = r := by omega
  subst e1
  have e2 : w' = w := by omega
  subst e2
  exact ⟨rfl, rfl, by omega⟩
theorem ixC {r w c k r' w' c' k' : Nat} (hw : w < 6) (hc : c < 20) (hw' : w' < 6) (hc' : c' < 20) (hk : k < 4) (hk' : k' < 4) (h : r' * 480 + w' * 80 + c' * 4 + k' = r * 480 + w * 80 + c * 4 + k) : r' = r ∧ w' = w ∧ c' = c ∧ k' = k := by
  obtain ⟨e1, e2, e3⟩ := in4 (r := r) (w := w) (g := c) (r' := r') (w' := w') (g' := c') (k' := k') hw hc hw' hc' hk' (by omega) (by omega)
  subst e1; subst e2; subst e3
  exact ⟨rfl, rfl, rfl, by omega⟩
theorem ixM {r w c k r' w' c' k' : Nat} (hw : w < 6) (hc : c < 4) (hw' : w' < 6) (hc' : c' < 4) (hk : k < 4) (hk' : k' < 4) (h : 24 + (4 * (4 * (6 * r' + w') + c') + k') = 24 + (4 * (4 * (6 * r + w) + c) + k)) : r' = r ∧ w' = w ∧ c' = c ∧ k' = k := by
  obtain ⟨e1, e2, e3⟩ := inM (r := r) (w := w) (c := c) (r' := r') (w' := w') (c' := c') (k' := k') hw hc hw' hc' hk' (by omega) (by omega)
  subst e1; subst e2; subst e3
  exact ⟨rfl, rfl, rfl, by omega⟩
theorem ixE {r w e k r' w' e' k' : Nat} (hw : w < 6) (he : e < 16) (hw' : w' < 6) (he' : e' < 16) (hk : k < 4) (hk' : k' < 4) (h : 888 + 4 * (16 * (6 * r' + w') + e') + k' = 888 + 4 * (16 * (6 * r + w) + e) + k) : r' = r ∧ w' = w ∧ e' = e ∧ k' = k := by
  obtain ⟨e1, e2, e3⟩ := inE (r := r) (w := w) (e := e) (r' := r') (w' := w') (e' := e') (k' := k') hw he hw' he' hk' (by omega) (by omega)
  subst e1; subst e2; subst e3
  exact ⟨rfl, rfl, rfl, by omega⟩
theorem clrE_in {f : Nat → Int32} {a n i : Nat} (h1 : a ≤ i) (h2 : i < a + n) : clrE f a n i = 0 := if_pos ⟨h1, h2⟩
theorem clrE_o2 {f : Nat → Int32} {a n i : Nat} (h : ¬ (a ≤ i ∧ i < a + n)) : clrE f a n i = f i := if_neg h
-- an update's beginning
theorem bgM_o {sa : Nat → Int32} {r i : Nat} (hr : r < 4) (h : 20 ≤ i) : bgM sa r i = sa i := by
  rw [bgM, pk_un (by omega), pk_un (by omega)]
theorem bgM_s {sa : Nat → Int32} {r i : Nat} (hr : r < 4) (h : i < 16) : bgM sa r i = if i = r * 4 + r then sa i + nI 1 else sa i := by
  by_cases e : i = r * 4 + r
  · rw [if_pos e, bgM, show i = 0 + 4 * r + r by omega, pk_us, pk_un (by omega)]
  · rw [if_neg e, bgM, pk_un (by omega), pk_un (by omega)]
theorem bgM_c {sa : Nat → Int32} {r j : Nat} (hr : r < 4) (h : j < 4) : bgM sa r (16 + j) = if j = r then sa (16 + j) + nI 1 else sa (16 + j) := by
  by_cases e : j = r
  · subst e; rw [if_pos rfl, bgM, pk_un (by omega), pk_us]
  · rw [if_neg e, bgM, pk_un (by omega), pk_un (by omega)]
theorem Rl_beg {st : St} {sa : Nat → Int32} {B r : Nat} (hr : r < 4) (h : Rl st sa B) : Rl (begU st r) (bgM sa r) (B + 1) := by
  obtain ⟨⟨hs, hc, hm⟩, hC, hE⟩ := Rl_m h (Nat.le_succ B)
  have hs0 := h.1.1
  have hc0 := h.1.2.1
  refine ⟨⟨fun i hi => ?_, fun j hj => ?_, fun j hj => ?_⟩, fun r' w c k h1 h2 h3 h4 => ?_, fun r' w e k h1 h2 h3 h4 => ?_⟩
  · rw [bgM_s hr hi]
    show (if i = r * 4 + r then st.2.2.2.1 (r * 4 + r) + nI 1 else st.2.2.2.1 i) = _ ∧ _
    by_cases e : i = r * 4 + r
    · obtain ⟨g1, n, g2, g3⟩ := hs0 i hi
      rw [if_pos e, if_pos e, ← e, g1, g3, nI_add]
      exact ⟨rfl, n + 1, by omega, rfl⟩
    · rw [if_neg e, if_neg e]; exact hs i hi
  · rw [bgM_c hr hj]
    show (if j = r then st.2.2.2.2.1 r + nI 1 else st.2.2.2.2.1 j) = _ ∧ _
    by_cases e : j = r
    · obtain ⟨g1, n, g2, g3⟩ := hc0 j hj
      rw [if_pos e, if_pos e, ← e, g1, g3, nI_add]
      exact ⟨rfl, n + 1, by omega, rfl⟩
    · rw [if_neg e, if_neg e]; exact hc j hj
  · rw [bgM_o hr (by omega)]; exact hm j hj
  · rw [bgM_o hr (show 20 ≤ 24 + (4 * (4 * (6 * r' + w) + c) + k) by omega), bgM_o hr (show 20 ≤ 408 + (4 * (4 * (6 * r' + w) + c) + k) by omega), bgM_o hr (show 20 ≤ 792 + 4 * (6 * r' + w) + k by omega)]; exact hC r' w c k h1 h2 h3 h4
  · rw [bgM_o hr (show 20 ≤ 888 + 4 * (16 * (6 * r' + w) + e) + k by omega)]; exact hE r' w e k h1 h2 h3 h4
-- entries removed
theorem Rl_clr {st : St} {sa : Nat → Int32} {B r w c : Nat} (hr : r < 4) (hw : w < 6) (hc : c < 4) (h : Rl st sa B) : Rl (clrS st (r * 480 + w * 80 + c * 4) 4) (clrE sa (24 + 4 * (4 * (6 * r + w) + c)) 4) B := by
  obtain ⟨⟨hs, hk, hm⟩, hC, hE⟩ := h
  refine ⟨⟨fun i hi => ?_, fun j hj => ?_, fun j hj => ?_⟩, fun r' w' c' k' h1 h2 h3 h4 => ?_, fun r' w' e' k' h1 h2 h3 h4 => ?_⟩
  · rw [clrE_out (Or.inl (by omega))]; exact hs i hi
  · rw [clrE_out (Or.inl (by omega))]; exact hk j hj
  · rw [clrE_out (Or.inl (by omega))]; exact hm j hj
  · obtain ⟨⟨a1, a2⟩, a3, a4⟩ := hC r' w' c' k' h1 h2 h3 h4
    by_cases e : r' = r ∧ w' = w ∧ c' = c
    · obtain ⟨rfl, rfl, rfl⟩ := e
      have z1 : clrE st.1 (r' * 480 + w' * 80 + c' * 4) 4 (r' * 480 + w' * 80 + c' * 4 + k') = 0 := clrE_in (by omega) (by omega)
      have z2 : clrE sa (24 + 4 * (4 * (6 * r' + w') + c')) 4 (24 + (4 * (4 * (6 * r' + w') + c') + k')) = 0 := clrE_in (by omega) (by omega)
      exact ⟨⟨z1.trans z2.symm, by rw [z2]; exact smN_0 B⟩, fun z => absurd z2 z, fun _ z => absurd z2 z⟩
    · have z1 : clrE st.1 (r * 480 + w * 80 + c * 4) 4 (r' * 480 + w' * 80 + c' * 4 + k') = st.1 (r' * 480 + w' * 80 + c' * 4 + k') := clrE_o2 (fun z => e (in4 hw (by omega) h2 (by omega) h4 z.1 z.2))
      have z2 : clrE sa (24 + 4 * (4 * (6 * r + w) + c)) 4 (24 + (4 * (4 * (6 * r' + w') + c') + k')) = sa (24 + (4 * (4 * (6 * r' + w') + c') + k')) := clrE_o2 (fun z => e (inM hw hc h2 h3 h4 z.1 z.2))
      have z3 : clrE sa (24 + 4 * (4 * (6 * r + w) + c)) 4 (408 + (4 * (4 * (6 * r' + w') + c') + k')) = sa (408 + (4 * (4 * (6 * r' + w') + c') + k')) := clrE_out (Or.inr (by omega))
      have z4 : clrE sa (24 + 4 * (4 * (6 * r + w) + c)) 4 (792 + 4 * (6 * r' + w') + k') = sa (792 + 4 * (6 * r' + w') + k') := clrE_out (Or.inr (by omega))
      exact ⟨⟨z1.trans (a1.trans z2.symm), by rw [z2]; exact a2⟩, fun z => (a3 (fun y => z (z2.trans y))).trans z3.symm, fun q z => ⟨(a4 q (fun y => z (z2.trans y))).1.trans z4.symm, by rw [z4]; exact (a4 q (fun y => z (z2.trans y))).2⟩⟩
  · obtain ⟨⟨a1, a2⟩, a3⟩ := hE r' w' e' k' h1 h2 h3 h4
    have z1 : clrE st.1 (r * 480 + w * 80 + c * 4) 4 (r' * 480 + w' * 80 + (4 + e') * 4 + k') = st.1 (r' * 480 + w' * 80 + (4 + e') * 4 + k') := clrE_o2 (fun z => by have := in4 hw (by omega) h2 (by omega) h4 z.1 z.2; omega)
    have z2 : clrE sa (24 + 4 * (4 * (6 * r + w) + c)) 4 (888 + 4 * (16 * (6 * r' + w') + e') + k') = sa (888 + 4 * (16 * (6 * r' + w') + e') + k') := clrE_out (Or.inr (by omega))
    exact ⟨⟨z1.trans (a1.trans z2.symm), by rw [z2]; exact a2⟩, fun z => a3 (fun y => z (z2.trans y))⟩
theorem Rl_clrE {st : St} {sa : Nat → Int32} {B r w e : Nat} (hr : r < 4) (hw : w < 6) (he : e < 16) (h : Rl st sa B) : Rl (clrS st (r * 480 + w * 80 + (4 + e) * 4) 4) (clrE sa (888 + 4 * (16 * (6 * r + w) + e)) 4) B := by
  obtain ⟨⟨hs, hk, hm⟩, hC, hE⟩ := h
  refine ⟨⟨fun i hi => ?_, fun j hj => ?_, fun j hj => ?_⟩, fun r' w' c' k' h1 h2 h3 h4 => ?_, fun r' w' e' k' h1 h2 h3 h4 => ?_⟩
  · rw [clrE_out (Or.inl (by omega))]; exact hs i hi
  · rw [clrE_out (Or.inl (by omega))]; exact hk j hj
  · rw [clrE_out (Or.inl (by omega))]; exact hm j hj
  · obtain ⟨⟨a1, a2⟩, a3, a4⟩ := hC r' w' c' k' h1 h2 h3 h4
    have z1 : clrE st.1 (r * 480 + w * 80 + (4 + e) * 4) 4 (r' * 480 + w' * 80 + c' * 4 + k') = st.1 (r' * 480 + w' * 80 + c' * 4 + k') := clrE_o2 (fun z => by have := in4 hw (by omega) h2 (by omega) h4 z.1 z.2; omega)
    have z2 : clrE sa (888 + 4 * (16 * (6 * r + w) + e)) 4 (24 + (4 * (4 * (6 * r' + w') + c') + k')) = sa (24 + (4 * (4 * (6 * r' + w') + c') + k')) := clrE_out (Or.inl (by omega))
    have z3 : clrE sa (888 + 4 * (16 * (6 * r + w) + e)) 4 (408 + (4 * (4 * (6 * r' + w') + c') + k')) = sa (408 + (4 * (4 * (6 * r' + w') + c') + k')) := clrE_out (Or.inl (by omega))
    have z4 : clrE sa (888 + 4 * (16 * (6 * r + w) + e)) 4 (792 + 4 * (6 * r' + w') + k') = sa (792 + 4 * (6 * r' + w') + k') := clrE_out (Or.inl (by omega))
    exact ⟨⟨z1.trans (a1.trans z2.symm), by rw [z2]; exact a2⟩, fun z => (a3 (fun y => z (z2.trans y))).trans z3.symm, fun q z => ⟨(a4 q (fun y => z (z2.trans y))).1.trans z4.symm, by rw [z4]; exact (a4 q (fun y => z (z2.trans y))).2⟩⟩
  · obtain ⟨⟨a1, a2⟩, a3⟩ := hE r' w' e' k' h1 h2 h3 h4
    by_cases e9 : r' = r ∧ w' = w ∧ e' = e
    · obtain ⟨rfl, rfl, rfl⟩ := e9
      have z1 : clrE st.1 (r' * 480 + w' * 80 + (4 + e') * 4) 4 (r' * 480 + w' * 80 + (4 + e') * 4 + k') = 0 := clrE_in (by omega) (by omega)
      have z2 : clrE sa (888 + 4 * (16 * (6 * r' + w') + e')) 4 (888 + 4 * (16 * (6 * r' + w') + e') + k') = 0 := clrE_in (by omega) (by omega)
      exact ⟨⟨z1.trans z2.symm, by rw [z2]; exact smN_0 B⟩, fun z => absurd z2 z⟩
    · have z1 : clrE st.1 (r * 480 + w * 80 + (4 + e) * 4) 4 (r' * 480 + w' * 80 + (4 + e') * 4 + k') = st.1 (r' * 480 + w' * 80 + (4 + e') * 4 + k') := clrE_o2 (fun z => e9 (by have := in4 hw (by omega) h2 (by omega) h4 z.1 z.2; omega))
      have z2 : clrE sa (888 + 4 * (16 * (6 * r + w) + e)) 4 (888 + 4 * (16 * (6 * r' + w') + e') + k') = sa (888 + 4 * (16 * (6 * r' + w') + e') + k') := clrE_o2 (fun z => e9 (inE hw he h2 h3 h4 z.1 z.2))
      exact ⟨⟨z1.trans (a1.trans z2.symm), by rw [z2]; exact a2⟩, fun z => a3 (fun y => z (z2.trans y))⟩
-- an entry made
theorem mkM_at {sa : Nat → Int32} {r w c p : Nat} {v : Int32} (hr : r < 4) : mkM sa r w c v p = if c = 0 ∧ p = 792 + 4 * (6 * r + w) + r then sa (16 + r) else if p = 408 + (4 * (4 * (6 * r + w) + c) + r) then v else if p = 24 + (4 * (4 * (6 * r + w) + c) + r) then sa (0 + 4 * r + r) else sa p := by
  have h2 : ∀ j, upd (upd sa (24 + (4 * (4 * (6 * r + w) + c) + r)) (sa (0 + 4 * r + r))) (408 + (4 * (4 * (6 * r + w) + c) + r)) v j = if j = 408 + (4 * (4 * (6 * r + w) + c) + r) then v else if j = 24 + (4 * (4 * (6 * r + w) + c) + r) then sa (0 + 4 * r + r) else sa j := fun _ => rfl
  by_cases hc : c = 0
  · have h1 : mkM sa r w c v p = upd (upd (upd sa (24 + (4 * (4 * (6 * r + w) + c) + r)) (sa (0 + 4 * r + r))) (408 + (4 * (4 * (6 * r + w) + c) + r)) v) (792 + 4 * (6 * r + w) + r) ((upd (upd sa (24 + (4 * (4 * (6 * r + w) + c) + r)) (sa (0 + 4 * r + r))) (408 + (4 * (4 * (6 * r + w) + c) + r)) v) (16 + r)) p := by rw [mkM]; exact congrFun (if_pos hc) p
    rw [h1]
    by_cases hp : p = 792 + 4 * (6 * r + w) + r
    · rw [if_pos ⟨hc, hp⟩, hp, pk_us, pk_un (by omega), pk_un (by omega)]
    · rw [if_neg (fun z => hp z.2), pk_un hp, h2]
  · have h1 : mkM sa r w c v p = upd (upd sa (24 + (4 * (4 * (6 * r + w) + c) + r)) (sa (0 + 4 * r + r))) (408 + (4 * (4 * (6 * r + w) + c) + r)) v p := by rw [mkM]; exact congrFun (if_neg hc) p
    rw [h1, if_neg (fun z => hc z.1), h2]
theorem Rl_mk {st : St} {sa : Nat → Int32} {B r w c : Nat} {v : Int32} (hr : r < 4) (hw : w < 6) (hc : c < 4) (h : Rl st sa B) : Rl (mkE st r w c v) (mkM sa r w c v) B := by
  obtain ⟨⟨hs, hk, hm⟩, hC, hE⟩ := h
  refine ⟨⟨fun i hi => ?_, fun j hj => ?_, fun j hj => ?_⟩, fun r' w' c' k' h1 h2 h3 h4 => ?_, fun r' w' e' k' h1 h2 h3 h4 => ?_⟩
  · rw [mkM_at hr, if_neg (by omega), if_neg (by omega), if_neg (by omega)]; exact hs i hi
  · rw [mkM_at hr, if_neg (by omega), if_neg (by omega), if_neg (by omega)]; exact hk j hj
  · rw [mkM_at hr, if_neg (by omega), if_neg (by omega), if_neg (by omega)]; exact hm j hj
  · obtain ⟨⟨a1, a2⟩, a3, a4⟩ := hC r' w' c' k' h1 h2 h3 h4
    by_cases e : r' = r ∧ w' = w ∧ c' = c ∧ k' = r
    · obtain ⟨e1, e2, e3, e4⟩ := e
      subst e1; subst e2; subst e3; subst e4
      have z2 : mkM sa k' w' c' v (24 + (4 * (4 * (6 * k' + w') + c') + k')) = sa (0 + 4 * k' + k') := by rw [mkM_at hr, if_neg (by omega), if_neg (by omega), if_pos rfl]
      have z3 : mkM sa k' w' c' v (408 + (4 * (4 * (6 * k' + w') + c') + k')) = v := by rw [mkM_at hr, if_neg (by omega), if_pos rfl]
      have y1 : upd st.1 (k' * 480 + w' * 80 + c' * 4 + k') (st.2.2.2.1 (k' * 4 + k')) (k' * 480 + w' * 80 + c' * 4 + k') = st.2.2.2.1 (k' * 4 + k') := pk_us
      have y2 : upd st.2.2.1 (k' * 480 + w' * 80 + c' * 4 + k') v (k' * 480 + w' * 80 + c' * 4 + k') = v := pk_us
      have y3 : upd st.2.1 (k' * 480 + w' * 80 + c' * 4 + k') (st.2.2.2.2.1 k') (k' * 480 + w' * 80 + c' * 4 + k') = st.2.2.2.2.1 k' := pk_us
      have g1 := hs (k' * 4 + k') (by omega)
      have g2 := hk k' hr
      rw [show k' * 4 + k' = 0 + 4 * k' + k' by omega] at g1
      have g3 : st.2.2.2.1 (k' * 4 + k') = sa (0 + 4 * k' + k') := by rw [show k' * 4 + k' = 0 + 4 * k' + k' by omega]; exact g1.1
      refine ⟨⟨y1.trans (g3.trans z2.symm), by rw [z2]; exact g1.2⟩, fun _ => y2.trans z3.symm, fun q _ => ?_⟩
      have z4 : mkM sa k' w' c' v (792 + 4 * (6 * k' + w') + k') = sa (16 + k') := by rw [mkM_at hr, if_pos ⟨q, rfl⟩]
      exact ⟨y3.trans (g2.1.trans z4.symm), by rw [z4]; exact g2.2⟩
    · have ni : r' * 480 + w' * 80 + c' * 4 + k' ≠ r * 480 + w * 80 + c * 4 + r := fun z => e (ixC hw (by omega) h2 (by omega) hr h4 z)
      have z2 : mkM sa r w c v (24 + (4 * (4 * (6 * r' + w') + c') + k')) = sa (24 + (4 * (4 * (6 * r' + w') + c') + k')) := by rw [mkM_at hr, if_neg (by omega), if_neg (by omega), if_neg (fun z => e (ixM hw hc h2 h3 hr h4 z))]
      have z3 : mkM sa r w c v (408 + (4 * (4 * (6 * r' + w') + c') + k')) = sa (408 + (4 * (4 * (6 * r' + w') + c') + k')) := by rw [mkM_at hr, if_neg (by omega), if_neg (fun z => e (ixM hw hc h2 h3 hr h4 (by omega))), if_neg (by omega)]
      have y1 : upd st.1 (r * 480 + w * 80 + c * 4 + r) (st.2.2.2.1 (r * 4 + r)) (r' * 480 + w' * 80 + c' * 4 + k') = st.1 (r' * 480 + w' * 80 + c' * 4 + k') := pk_un ni
      have y2 : upd st.2.2.1 (r * 480 + w * 80 + c * 4 + r) v (r' * 480 + w' * 80 + c' * 4 + k') = st.2.2.1 (r' * 480 + w' * 80 + c' * 4 + k') := pk_un ni
      have y3 : upd st.2.1 (r * 480 + w * 80 + c * 4 + r) (st.2.2.2.2.1 r) (r' * 480 + w' * 80 + c' * 4 + k') = st.2.1 (r' * 480 + w' * 80 + c' * 4 + k') := pk_un ni
      refine ⟨⟨y1.trans (a1.trans z2.symm), by rw [z2]; exact a2⟩, fun z => y2.trans ((a3 (fun y => z (z2.trans y))).trans z3.symm), fun q z => ?_⟩
      have z4 : mkM sa r w c v (792 + 4 * (6 * r' + w') + k') = sa (792 + 4 * (6 * r' + w') + k') := by
        rw [mkM_at hr, if_neg (fun z9 => e (by have := inT h2 hw h4 hr z9.2; omega)), if_neg (by omega), if_neg (by omega)]
      exact ⟨y3.trans ((a4 q (fun y => z (z2.trans y))).1.trans z4.symm), by rw [z4]; exact (a4 q (fun y => z (z2.trans y))).2⟩
  · obtain ⟨⟨a1, a2⟩, a3⟩ := hE r' w' e' k' h1 h2 h3 h4
    have ni : r' * 480 + w' * 80 + (4 + e') * 4 + k' ≠ r * 480 + w * 80 + c * 4 + r := fun z => by have := ixC hw (by omega) h2 (by omega) hr h4 z; omega
    have z2 : mkM sa r w c v (888 + 4 * (16 * (6 * r' + w') + e') + k') = sa (888 + 4 * (16 * (6 * r' + w') + e') + k') := by rw [mkM_at hr, if_neg (by omega), if_neg (by omega), if_neg (by omega)]
    have y1 : upd st.1 (r * 480 + w * 80 + c * 4 + r) (st.2.2.2.1 (r * 4 + r)) (r' * 480 + w' * 80 + (4 + e') * 4 + k') = st.1 (r' * 480 + w' * 80 + (4 + e') * 4 + k') := pk_un ni
    have y2 : upd st.2.2.1 (r * 480 + w * 80 + c * 4 + r) v (r' * 480 + w' * 80 + (4 + e') * 4 + k') = st.2.2.1 (r' * 480 + w' * 80 + (4 + e') * 4 + k') := pk_un ni
    exact ⟨⟨y1.trans (a1.trans z2.symm), by rw [z2]; exact a2⟩, fun z => y2.trans (a3 (fun y => z (z2.trans y)))⟩
theorem Rl_mkE {st : St} {sa : Nat → Int32} {B r w e : Nat} (hr : r < 4) (hw : w < 6) (he : e < 16) (h : Rl st sa B) : Rl (mkE st r w (4 + e) (nI e)) (upd sa (888 + 4 * (16 * (6 * r + w) + e) + r) (sa (0 + 4 * r + r))) B := by
  obtain ⟨⟨hs, hk, hm⟩, hC, hE⟩ := h
  refine ⟨⟨fun i hi => ?_, fun j hj => ?_, fun j hj => ?_⟩, fun r' w' c' k' h1 h2 h3 h4 => ?_, fun r' w' e' k' h1 h2 h3 h4 => ?_⟩
  · rw [pk_un (by omega)]; exact hs i hi
  · rw [pk_un (by omega)]; exact hk j hj
  · rw [pk_un (by omega)]; exact hm j hj
  · obtain ⟨⟨a1, a2⟩, a3, a4⟩ := hC r' w' c' k' h1 h2 h3 h4
    have ni : r' * 480 + w' * 80 + c' * 4 + k' ≠ r * 480 + w * 80 + (4 + e) * 4 + r := fun z => by have := ixC hw (by omega) h2 (by omega) hr h4 z; omega
    have z2 : upd sa (888 + 4 * (16 * (6 * r + w) + e) + r) (sa (0 + 4 * r + r)) (24 + (4 * (4 * (6 * r' + w') + c') + k')) = sa (24 + (4 * (4 * (6 * r' + w') + c') + k')) := pk_un (by omega)
    have z3 : upd sa (888 + 4 * (16 * (6 * r + w) + e) + r) (sa (0 + 4 * r + r)) (408 + (4 * (4 * (6 * r' + w') + c') + k')) = sa (408 + (4 * (4 * (6 * r' + w') + c') + k')) := pk_un (by omega)
    have z4 : upd sa (888 + 4 * (16 * (6 * r + w) + e) + r) (sa (0 + 4 * r + r)) (792 + 4 * (6 * r' + w') + k') = sa (792 + 4 * (6 * r' + w') + k') := pk_un (by omega)
    have y1 : upd st.1 (r * 480 + w * 80 + (4 + e) * 4 + r) (st.2.2.2.1 (r * 4 + r)) (r' * 480 + w' * 80 + c' * 4 + k') = st.1 (r' * 480 + w' * 80 + c' * 4 + k') := pk_un ni
    have y2 : upd st.2.2.1 (r * 480 + w * 80 + (4 + e) * 4 + r) (nI e) (r' * 480 + w' * 80 + c' * 4 + k') = st.2.2.1 (r' * 480 + w' * 80 + c' * 4 + k') := pk_un ni
    have y3 : upd st.2.1 (r * 480 + w * 80 + (4 + e) * 4 + r) (st.2.2.2.2.1 r) (r' * 480 + w' * 80 + c' * 4 + k') = st.2.1 (r' * 480 + w' * 80 + c' * 4 + k') := pk_un ni
    exact ⟨⟨y1.trans (a1.trans z2.symm), by rw [z2]; exact a2⟩, fun z => y2.trans ((a3 (fun y => z (z2.trans y))).trans z3.symm), fun q z => ⟨y3.trans ((a4 q (fun y => z (z2.trans y))).1.trans z4.symm), by rw [z4]; exact (a4 q (fun y => z (z2.trans y))).2⟩⟩
  · obtain ⟨⟨a1, a2⟩, a3⟩ := hE r' w' e' k' h1 h2 h3 h4
    by_cases e9 : r' = r ∧ w' = w ∧ e' = e ∧ k' = r
    · obtain ⟨e1, e2, e3, e4⟩ := e9
      subst e1; subst e2; subst e3; subst e4
      have z2 : upd sa (888 + 4 * (16 * (6 * k' + w') + e') + k') (sa (0 + 4 * k' + k')) (888 + 4 * (16 * (6 * k' + w') + e') + k') = sa (0 + 4 * k' + k') := pk_us
      have y1 : upd st.1 (k' * 480 + w' * 80 + (4 + e') * 4 + k') (st.2.2.2.1 (k' * 4 + k')) (k' * 480 + w' * 80 + (4 + e') * 4 + k') = st.2.2.2.1 (k' * 4 + k') := pk_us
      have y2 : upd st.2.2.1 (k' * 480 + w' * 80 + (4 + e') * 4 + k') (nI e') (k' * 480 + w' * 80 + (4 + e') * 4 + k') = nI e' := pk_us
      have g1 := hs (k' * 4 + k') (by omega)
      rw [show k' * 4 + k' = 0 + 4 * k' + k' by omega] at g1
      have g3 : st.2.2.2.1 (k' * 4 + k') = sa (0 + 4 * k' + k') := by rw [show k' * 4 + k' = 0 + 4 * k' + k' by omega]; exact g1.1
      exact ⟨⟨y1.trans (g3.trans z2.symm), by rw [z2]; exact g1.2⟩, fun _ => y2⟩
    · have ni : r' * 480 + w' * 80 + (4 + e') * 4 + k' ≠ r * 480 + w * 80 + (4 + e) * 4 + r := fun z => e9 (by have := ixC hw (by omega) h2 (by omega) hr h4 z; omega)
      have z2 : upd sa (888 + 4 * (16 * (6 * r + w) + e) + r) (sa (0 + 4 * r + r)) (888 + 4 * (16 * (6 * r' + w') + e') + k') = sa (888 + 4 * (16 * (6 * r' + w') + e') + k') := pk_un (fun z => e9 (ixE hw he h2 h3 hr h4 z))
      have y1 : upd st.1 (r * 480 + w * 80 + (4 + e) * 4 + r) (st.2.2.2.1 (r * 4 + r)) (r' * 480 + w' * 80 + (4 + e') * 4 + k') = st.1 (r' * 480 + w' * 80 + (4 + e') * 4 + k') := pk_un ni
      have y2 : upd st.2.2.1 (r * 480 + w * 80 + (4 + e) * 4 + r) (nI e) (r' * 480 + w' * 80 + (4 + e') * 4 + k') = st.2.2.1 (r' * 480 + w' * 80 + (4 + e') * 4 + k') := pk_un ni
      exact ⟨⟨y1.trans (a1.trans z2.symm), by rw [z2]; exact a2⟩, fun z => y2.trans (a3 (fun y => z (z2.trans y)))⟩
-- what a cell tells
theorem RlC.z {st : St} {sa : Nat → Int32} {B r w c k : Nat} (hB : B < 2 ^ 31) (h : Rl st sa B) (h1 : r < 4) (h2 : w < 6) (h3 : c < 4) (h4 : k < 4) : st.1 (r * 480 + w * 80 + c * 4 + k) = 0 ↔ sa (24 + (4 * (4 * (6 * r + w) + c) + k)) ≤ 0 := by
  obtain ⟨⟨a1, a2⟩, -⟩ := h.2.1 r w c k h1 h2 h3 h4
  rw [a1]; exact (sm_le0 a2 hB).symm
theorem RlE.z {st : St} {sa : Nat → Int32} {B r w e k : Nat} (hB : B < 2 ^ 31) (h : Rl st sa B) (h1 : r < 4) (h2 : w < 6) (h3 : e < 16) (h4 : k < 4) : st.1 (r * 480 + w * 80 + (4 + e) * 4 + k) = 0 ↔ sa (888 + 4 * (16 * (6 * r + w) + e) + k) ≤ 0 := by
  obtain ⟨⟨a1, a2⟩, -⟩ := h.2.2 r w e k h1 h2 h3 h4
  rw [a1]; exact (sm_le0 a2 hB).symm
theorem RlC.v {st : St} {sa : Nat → Int32} {B r w c k : Nat} (h : Rl st sa B) (h1 : r < 4) (h2 : w < 6) (h3 : c < 4) (h4 : k < 4) (hz : ¬ st.1 (r * 480 + w * 80 + c * 4 + k) = 0) : st.2.2.1 (r * 480 + w * 80 + c * 4 + k) = sa (408 + (4 * (4 * (6 * r + w) + c) + k)) := by
  obtain ⟨⟨a1, a2⟩, a3, -⟩ := h.2.1 r w c k h1 h2 h3 h4
  exact a3 (fun z => hz (a1.trans z))
theorem gr_eq {st : St} {sa : Nat → Int32} {B r w : Nat} (hB : B < 2 ^ 31) (h : Rl st sa B) (h1 : r < 4) (h2 : w < 6) : ∀ k, k ≤ 4 → grE st (r * 480 + w * 80 + 2 * 4) k = goM sa r w k
  | 0, _ => rfl
  | k + 1, hk => by
    have ih := gr_eq hB h h1 h2 k (by omega)
    have hz := RlC.z hB h h1 h2 (show 2 < 4 by omega) (show k < 4 by omega)
    show (if st.1 (r * 480 + w * 80 + 2 * 4 + k) = 0 then grE st (r * 480 + w * 80 + 2 * 4) k else mx (grE st (r * 480 + w * 80 + 2 * 4) k) (st.2.2.1 (r * 480 + w * 80 + 2 * 4 + k))) = (if ¬ sa (24 + (4 * (4 * (6 * r + w) + 2) + k)) ≤ 0 ∧ ¬ sa (408 + (4 * (4 * (6 * r + w) + 2) + k)) ≤ goM sa r w k then sa (408 + (4 * (4 * (6 * r + w) + 2) + k)) else goM sa r w k)
    rw [ih]
    by_cases e : st.1 (r * 480 + w * 80 + 2 * 4 + k) = 0
    · rw [if_pos e, if_neg (fun z => z.1 (hz.mp e))]
    · rw [if_neg e, RlC.v h h1 h2 (show 2 < 4 by omega) (show k < 4 by omega) e]
      show (if goM sa r w k < sa (408 + (4 * (4 * (6 * r + w) + 2) + k)) then sa (408 + (4 * (4 * (6 * r + w) + 2) + k)) else goM sa r w k) = _
      by_cases e2 : goM sa r w k < sa (408 + (4 * (4 * (6 * r + w) + 2) + k))
      · rw [if_pos e2, if_pos ⟨fun z => e (hz.mpr z), Int32.not_le.mpr e2⟩]
      · rw [if_neg e2, if_neg (fun z => e2 (Int32.not_le.mp z.2))]
theorem sm_eq {st : St} {sa : Nat → Int32} {B r w c : Nat} (hB : B < 2 ^ 31) (h : Rl st sa B) (h1 : r < 4) (h2 : w < 6) (h3 : c < 4) : ∀ k, k ≤ 4 → smE st (r * 480 + w * 80 + c * 4) k = smM sa r w c k
  | 0, _ => rfl
  | k + 1, hk => by
    have ih := sm_eq hB h h1 h2 h3 k (by omega)
    have hz := RlC.z hB h h1 h2 h3 (show k < 4 by omega)
    show (if st.1 (r * 480 + w * 80 + c * 4 + k) = 0 then smE st (r * 480 + w * 80 + c * 4) k else smE st (r * 480 + w * 80 + c * 4) k + st.2.2.1 (r * 480 + w * 80 + c * 4 + k)) = smM sa r w c k + (if sa (24 + (4 * (4 * (6 * r + w) + c) + k)) ≤ 0 then nI 0 else sa (408 + (4 * (4 * (6 * r + w) + c) + k)))
    rw [ih]
    by_cases e : st.1 (r * 480 + w * 80 + c * 4 + k) = 0
    · rw [if_pos e, if_pos (hz.mp e), nI_0, Int32.add_zero]
    · rw [if_neg e, if_neg (fun z => e (hz.mpr z)), RlC.v h h1 h2 h3 (show k < 4 by omega) e]
theorem cn_eq {st : St} {sa : Nat → Int32} {B r w c : Nat} (hB : B < 2 ^ 31) (h : Rl st sa B) (h1 : r < 4) (h2 : w < 6) (h3 : c < 4) : ∀ k, k ≤ 4 → cntE st.1 (r * 480 + w * 80 + c * 4) k = cntG (fun j => sa (24 + (4 * (4 * (6 * r + w) + c) + j))) k
  | 0, _ => rfl
  | k + 1, hk => by
    have ih := cn_eq hB h h1 h2 h3 k (by omega)
    have hz := RlC.z hB h h1 h2 h3 (show k < 4 by omega)
    show cntE st.1 (r * 480 + w * 80 + c * 4) k + (if st.1 (r * 480 + w * 80 + c * 4 + k) = 0 then 0 else 1) = cntG (fun j => sa (24 + (4 * (4 * (6 * r + w) + c) + j))) k + (if sa (24 + (4 * (4 * (6 * r + w) + c) + k)) ≤ 0 then 0 else 1)
    rw [ih]
    by_cases e : st.1 (r * 480 + w * 80 + c * 4 + k) = 0
    · rw [if_pos e, if_pos (hz.mp e)]
    · rw [if_neg e, if_neg (fun z => e (hz.mpr z))]
theorem ce_eq {st : St} {sa : Nat → Int32} {B r w e : Nat} (hB : B < 2 ^ 31) (h : Rl st sa B) (h1 : r < 4) (h2 : w < 6) (h3 : e < 16) : ∀ k, k ≤ 4 → cntE st.1 (r * 480 + w * 80 + (4 + e) * 4) k = cntG (fun j => sa (888 + 4 * (16 * (6 * r + w) + e) + j)) k
  | 0, _ => rfl
  | k + 1, hk => by
    have ih := ce_eq hB h h1 h2 h3 k (by omega)
    have hz := RlE.z hB h h1 h2 h3 (show k < 4 by omega)
    show cntE st.1 (r * 480 + w * 80 + (4 + e) * 4) k + (if st.1 (r * 480 + w * 80 + (4 + e) * 4 + k) = 0 then 0 else 1) = cntG (fun j => sa (888 + 4 * (16 * (6 * r + w) + e) + j)) k + (if sa (888 + 4 * (16 * (6 * r + w) + e) + k) ≤ 0 then 0 else 1)
    rw [ih]
    by_cases e : st.1 (r * 480 + w * 80 + (4 + e) * 4 + k) = 0
    · rw [if_pos e, if_pos (hz.mp e)]
    · rw [if_neg e, if_neg (fun z => e (hz.mpr z))]
-- updates
abbrev hiE (sa sb : Nat → Int32) : Prop := ∀ p, 2424 ≤ p → sb p = sa p
theorem Rl_put {st : St} {sa : Nat → Int32} {B r w c : Nat} {v : Int32} (hB : B + 1 < 2 ^ 31) (hr : r < 4) (hw : w < 6) (hc : c < 4) (h : Rl st sa B) : Rl (putS st r w c v) (putM sa r w c v) (B + 1) ∧ hiE sa (putM sa r w c v) := by
  have h1 := Rl_beg hr h
  have hv : (if c = 2 then mx v (grE (begU st r) (r * 480 + w * 80 + 2 * 4) 4) else v) = (if c = 2 ∧ ¬ goM (bgM sa r) r w 4 ≤ v then goM (bgM sa r) r w 4 else v) := by
    rw [gr_eq hB h1 hr hw 4 (Nat.le_refl 4)]
    by_cases e : c = 2
    · rw [if_pos e]
      show (if v < goM (bgM sa r) r w 4 then goM (bgM sa r) r w 4 else v) = _
      by_cases e2 : v < goM (bgM sa r) r w 4
      · rw [if_pos e2, if_pos ⟨e, Int32.not_le.mpr e2⟩]
      · rw [if_neg e2, if_neg (fun z => e2 (Int32.not_le.mp z.2))]
    · rw [if_neg e, if_neg (fun z => e z.1)]
  constructor
  · have h2 := Rl_mk (v := (if c = 2 ∧ ¬ goM (bgM sa r) r w 4 ≤ v then goM (bgM sa r) r w 4 else v)) hr hw hc (Rl_clr hr hw hc h1)
    rw [← hv] at h2
    have e3 : putM sa r w c v = mkM (clrE (bgM sa r) (24 + 4 * (4 * (6 * r + w) + c)) 4) r w c (if c = 2 then mx v (grE (begU st r) (r * 480 + w * 80 + 2 * 4) 4) else v) := by rw [hv]; rfl
    rw [e3]
    exact h2
  · intro p hp
    show mkM (clrE (bgM sa r) (24 + 4 * (4 * (6 * r + w) + c)) 4) r w c _ p = sa p
    rw [mkM_at hr, if_neg (by omega), if_neg (by omega), if_neg (by omega), clrE_out (Or.inr (by omega)), bgM_o hr (by omega)]
theorem Rl_add {st : St} {sa : Nat → Int32} {B r w : Nat} {v : Int32} (hB : B + 1 < 2 ^ 31) (hr : r < 4) (hw : w < 6) (h : Rl st sa B) : Rl (addS st r w v) (addM sa r w v) (B + 1) ∧ hiE sa (addM sa r w v) := by
  have h1 := Rl_beg hr h
  have hz := RlC.z hB h1 hr hw (show 3 < 4 by omega) hr
  have hv : (if (begU st r).1 (r * 480 + w * 80 + 3 * 4 + r) = 0 then nI 0 else (begU st r).2.2.1 (r * 480 + w * 80 + 3 * 4 + r)) = (if bgM sa r (24 + (4 * (4 * (6 * r + w) + 3) + r)) ≤ 0 then nI 0 else bgM sa r (408 + (4 * (4 * (6 * r + w) + 3) + r))) := by
    by_cases e : (begU st r).1 (r * 480 + w * 80 + 3 * 4 + r) = 0
    · rw [if_pos e, if_pos (hz.mp e)]
    · rw [if_neg e, if_neg (fun z => e (hz.mpr z)), RlC.v h1 hr hw (show 3 < 4 by omega) hr e]
  constructor
  · have h2 := Rl_mk (c := 3) (v := (if bgM sa r (24 + (4 * (4 * (6 * r + w) + 3) + r)) ≤ 0 then nI 0 else bgM sa r (408 + (4 * (4 * (6 * r + w) + 3) + r))) + v) hr hw (by omega) h1
    have e3 : addS st r w v = mkE (begU st r) r w 3 ((if bgM sa r (24 + (4 * (4 * (6 * r + w) + 3) + r)) ≤ 0 then nI 0 else bgM sa r (408 + (4 * (4 * (6 * r + w) + 3) + r))) + v) := by rw [← hv]; rfl
    rw [e3]
    exact h2
  · intro p hp
    show mkM (bgM sa r) r w 3 _ p = sa p
    rw [mkM_at hr, if_neg (by omega), if_neg (by omega), if_neg (by omega), bgM_o hr (by omega)]
theorem Rl_exc {st : St} {sa : Nat → Int32} {B r w e : Nat} (hr : r < 4) (hw : w < 6) (he : e < 16) (h : Rl st sa B) : Rl (excS st r w e) (excM sa r w e) (B + 1) ∧ hiE sa (excM sa r w e) := by
  refine ⟨Rl_clrE hr hw he (Rl_beg hr h), fun p hp => ?_⟩
  rw [excM, clrE_out (Or.inr (by omega)), bgM_o hr (by omega)]
theorem Rl_inc {st : St} {sa : Nat → Int32} {B r w e : Nat} (hr : r < 4) (hw : w < 6) (he : e < 16) (h : Rl st sa B) : Rl (incS st r w e) (incM sa r w e) (B + 1) ∧ hiE sa (incM sa r w e) := by
  refine ⟨Rl_mkE hr hw he (Rl_clrE hr hw he (Rl_beg hr h)), fun p hp => ?_⟩
  show upd (clrE (bgM sa r) (888 + 4 * (16 * (6 * r + w) + e)) 4) (888 + 4 * (16 * (6 * r + w) + e) + r) _ p = sa p
  rw [pk_un (by omega), clrE_out (Or.inr (by omega)), bgM_o hr (by omega)]
