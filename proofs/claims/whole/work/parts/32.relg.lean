/-! the merge as a whole, side by side -/
set_option maxRecDepth 8192 in
theorem way_C {st : St} {sa : Nat → Int32} {B f t w c k : Nat} (hB : B < 2 ^ 31) (hf : f < 4) (ht : t < 4) (h2 : w < 6) (h3 : c < 4) (h4 : k < 4) (h : Rl st sa B) :
    waM sa t k (sa (24 + (4 * (4 * (6 * f + w) + c) + k))) (sa (24 + (4 * (4 * (6 * t + w) + c) + k))) = (if addP st f t (w * 80 + c * 4 + k) then 1 else 0) ∧ wrM sa f k (sa (24 + (4 * (4 * (6 * f + w) + c) + k))) (sa (24 + (4 * (4 * (6 * t + w) + c) + k))) = (if remP st f t (w * 80 + c * 4 + k) then 1 else 0) ∧
    ((addP st f t (w * 80 + c * 4 + k) ∧ wyM sa f t k (sa (24 + (4 * (4 * (6 * f + w) + c) + k))) (sa (24 + (4 * (4 * (6 * t + w) + c) + k))) = nI 1) ∨ (¬ addP st f t (w * 80 + c * 4 + k) ∧ remP st f t (w * 80 + c * 4 + k) ∧ wyM sa f t k (sa (24 + (4 * (4 * (6 * f + w) + c) + k))) (sa (24 + (4 * (4 * (6 * t + w) + c) + k))) = -1) ∨ (¬ addP st f t (w * 80 + c * 4 + k) ∧ ¬ remP st f t (w * 80 + c * 4 + k) ∧ wyM sa f t k (sa (24 + (4 * (4 * (6 * f + w) + c) + k))) (sa (24 + (4 * (4 * (6 * t + w) + c) + k))) = nI 0)) := by
  have gf := (h.2.1 f w c k hf h2 h3 h4).1
  have gt := (h.2.1 t w c k ht h2 h3 h4).1
  have st9 := (h.1.1 (t * 4 + k) (by omega)).1
  have sf9 := (h.1.1 (f * 4 + k) (by omega)).1
  have n1 : f * 480 + (w * 80 + c * 4 + k) = f * 480 + w * 80 + c * 4 + k := by omega
  have n2 : t * 480 + (w * 80 + c * 4 + k) = t * 480 + w * 80 + c * 4 + k := by omega
  have n3 : (w * 80 + c * 4 + k) % 4 = k := by omega
  refine way_c hB gf.2 gt.2 (xt := sa (0 + 4 * t + k)) (xf := sa (0 + 4 * f + k)) rfl rfl ?_ ?_
  · show (¬ st.1 (f * 480 + (w * 80 + c * 4 + k)) = 0 ∧ ¬ st.1 (f * 480 + (w * 80 + c * 4 + k)) = st.1 (t * 480 + (w * 80 + c * 4 + k)) ∧ st.2.2.2.1 (t * 4 + (w * 80 + c * 4 + k) % 4) < st.1 (f * 480 + (w * 80 + c * 4 + k))) ↔ _
    rw [n1, n2, n3, gf.1, gt.1, st9, show t * 4 + k = 0 + 4 * t + k by omega]
  · show (¬ st.1 (t * 480 + (w * 80 + c * 4 + k)) = 0 ∧ ¬ st.1 (t * 480 + (w * 80 + c * 4 + k)) = st.1 (f * 480 + (w * 80 + c * 4 + k)) ∧ st.1 (t * 480 + (w * 80 + c * 4 + k)) ≤ st.2.2.2.1 (f * 4 + (w * 80 + c * 4 + k) % 4)) ↔ _
    rw [n1, n2, n3, gf.1, gt.1, sf9, show f * 4 + k = 0 + 4 * f + k by omega]
set_option maxRecDepth 8192 in
theorem way_E {st : St} {sa : Nat → Int32} {B f t w e k : Nat} (hB : B < 2 ^ 31) (hf : f < 4) (ht : t < 4) (h2 : w < 6) (h3 : e < 16) (h4 : k < 4) (h : Rl st sa B) :
    waM sa t k (sa (888 + 4 * (16 * (6 * f + w) + e) + k)) (sa (888 + 4 * (16 * (6 * t + w) + e) + k)) = (if addP st f t (w * 80 + (4 + e) * 4 + k) then 1 else 0) ∧ wrM sa f k (sa (888 + 4 * (16 * (6 * f + w) + e) + k)) (sa (888 + 4 * (16 * (6 * t + w) + e) + k)) = (if remP st f t (w * 80 + (4 + e) * 4 + k) then 1 else 0) ∧
    ((addP st f t (w * 80 + (4 + e) * 4 + k) ∧ wyM sa f t k (sa (888 + 4 * (16 * (6 * f + w) + e) + k)) (sa (888 + 4 * (16 * (6 * t + w) + e) + k)) = nI 1) ∨ (¬ addP st f t (w * 80 + (4 + e) * 4 + k) ∧ remP st f t (w * 80 + (4 + e) * 4 + k) ∧ wyM sa f t k (sa (888 + 4 * (16 * (6 * f + w) + e) + k)) (sa (888 + 4 * (16 * (6 * t + w) + e) + k)) = -1) ∨ (¬ addP st f t (w * 80 + (4 + e) * 4 + k) ∧ ¬ remP st f t (w * 80 + (4 + e) * 4 + k) ∧ wyM sa f t k (sa (888 + 4 * (16 * (6 * f + w) + e) + k)) (sa (888 + 4 * (16 * (6 * t + w) + e) + k)) = nI 0)) := by
  have gf := (h.2.2 f w e k hf h2 h3 h4).1
  have gt := (h.2.2 t w e k ht h2 h3 h4).1
  have st9 := (h.1.1 (t * 4 + k) (by omega)).1
  have sf9 := (h.1.1 (f * 4 + k) (by omega)).1
  have n1 : f * 480 + (w * 80 + (4 + e) * 4 + k) = f * 480 + w * 80 + (4 + e) * 4 + k := by omega
  have n2 : t * 480 + (w * 80 + (4 + e) * 4 + k) = t * 480 + w * 80 + (4 + e) * 4 + k := by omega
  have n3 : (w * 80 + (4 + e) * 4 + k) % 4 = k := by omega
  refine way_c hB gf.2 gt.2 (xt := sa (0 + 4 * t + k)) (xf := sa (0 + 4 * f + k)) rfl rfl ?_ ?_
  · show (¬ st.1 (f * 480 + (w * 80 + (4 + e) * 4 + k)) = 0 ∧ ¬ st.1 (f * 480 + (w * 80 + (4 + e) * 4 + k)) = st.1 (t * 480 + (w * 80 + (4 + e) * 4 + k)) ∧ st.2.2.2.1 (t * 4 + (w * 80 + (4 + e) * 4 + k) % 4) < st.1 (f * 480 + (w * 80 + (4 + e) * 4 + k))) ↔ _
    rw [n1, n2, n3, gf.1, gt.1, st9, show t * 4 + k = 0 + 4 * t + k by omega]
  · show (¬ st.1 (t * 480 + (w * 80 + (4 + e) * 4 + k)) = 0 ∧ ¬ st.1 (t * 480 + (w * 80 + (4 + e) * 4 + k)) = st.1 (f * 480 + (w * 80 + (4 + e) * 4 + k)) ∧ st.1 (t * 480 + (w * 80 + (4 + e) * 4 + k)) ≤ st.2.2.2.1 (f * 4 + (w * 80 + (4 + e) * 4 + k) % 4)) ↔ _
    rw [n1, n2, n3, gf.1, gt.1, sf9, show f * 4 + k = 0 + 4 * f + k by omega]
set_option maxRecDepth 8192 in
theorem lkM_n {sa : Nat → Int32} {f t : Nat} (d : Bool) (hf : f < 4) (ht : t < 4) (hne : f ≠ t) : (lkM d sa f t).2.1 = sm9 (fun k => waM sa t (k % 4) (sa (24 + (96 * f + k))) (sa (24 + (96 * t + k)))) 96 + sm9 (fun k => waM sa t (k % 4) (sa (888 + 384 * f + k)) (sa (888 + 384 * t + k))) 384 ∧ (lkM d sa f t).2.2 = sm9 (fun k => wrM sa f (k % 4) (sa (24 + (96 * f + k))) (sa (24 + (96 * t + k)))) 96 + sm9 (fun k => wrM sa f (k % 4) (sa (888 + 384 * f + k)) (sa (888 + 384 * t + k))) 384 := by
  cases d
  · have h1 := mcM_f9 (sa := sa) (f := f) (t := t) (z := (0, 0)) 96
    have h2 := meM_f9 (sa := (mcM false f t (sa, 0, 0) 96).1) (f := f) (t := t) (z := ((mcM false f t (sa, 0, 0) 96).2.1, (mcM false f t (sa, 0, 0) 96).2.2)) 384
    rw [show meM false f t ((mcM false f t (sa, 0, 0) 96).1, ((mcM false f t (sa, 0, 0) 96).2.1, (mcM false f t (sa, 0, 0) 96).2.2)) 384 = lkM false sa f t from by rw [lkM]] at h2
    rw [h1.1, h1.2, mcM_f, Nat.zero_add, Nat.zero_add] at h2
    exact h2
  · have h1 := mcM_at (sa := sa) (z := (0, 0)) hf ht hne 96 (Nat.le_refl 96)
    have h2 := (meM_at (sa := (mcM true f t (sa, 0, 0) 96).1) (z := ((mcM true f t (sa, 0, 0) 96).2.1, (mcM true f t (sa, 0, 0) 96).2.2)) hf ht hne 384 (Nat.le_refl 384)).2.2
    have e1 : sm9 (fun k => waM (mcM true f t (sa, 0, 0) 96).1 t (k % 4) ((mcM true f t (sa, 0, 0) 96).1 (888 + 384 * f + k)) ((mcM true f t (sa, 0, 0) 96).1 (888 + 384 * t + k))) 384 = sm9 (fun k => waM sa t (k % 4) (sa (888 + 384 * f + k)) (sa (888 + 384 * t + k))) 384 := sm9_cg 384 (fun k hk => by
      rw [h1.1 (888 + 384 * f + k) (by omega) (by omega) (by omega), h1.1 (888 + 384 * t + k) (by omega) (by omega) (by omega)]
      exact (wyM_cg (h1.1 (0 + 4 * t + k % 4) (by omega) (by omega) (by omega)) (h1.1 (0 + 4 * f + k % 4) (by omega) (by omega) (by omega)) _ _).2.1)
    have e2 : sm9 (fun k => wrM (mcM true f t (sa, 0, 0) 96).1 f (k % 4) ((mcM true f t (sa, 0, 0) 96).1 (888 + 384 * f + k)) ((mcM true f t (sa, 0, 0) 96).1 (888 + 384 * t + k))) 384 = sm9 (fun k => wrM sa f (k % 4) (sa (888 + 384 * f + k)) (sa (888 + 384 * t + k))) 384 := sm9_cg 384 (fun k hk => by
      rw [h1.1 (888 + 384 * f + k) (by omega) (by omega) (by omega), h1.1 (888 + 384 * t + k) (by omega) (by omega) (by omega)]
      exact (wyM_cg (h1.1 (0 + 4 * t + k % 4) (by omega) (by omega) (by omega)) (h1.1 (0 + 4 * f + k % 4) (by omega) (by omega) (by omega)) _ _).2.2)
    rw [show meM true f t ((mcM true f t (sa, 0, 0) 96).1, ((mcM true f t (sa, 0, 0) 96).2.1, (mcM true f t (sa, 0, 0) 96).2.2)) 384 = lkM true sa f t from by rw [lkM]] at h2
    rw [e1, e2, h1.2.2.2.2.1, h1.2.2.2.2.2, Nat.zero_add, Nat.zero_add] at h2
    exact h2
set_option maxRecDepth 8192 in
theorem mg_cnt {st : St} {sa : Nat → Int32} {B f t : Nat} (d : Bool) (hB : B < 2 ^ 31) (hf : f < 4) (ht : t < 4) (hne : f ≠ t) (h : Rl st sa B) : cntP (fun o => addP st f t o) 480 = (lkM d sa f t).2.1 ∧ cntP (fun o => remP st f t o) 480 = (lkM d sa f t).2.2 := by
  have hn := lkM_n (sa := sa) d hf ht hne
  have q1 : ∀ k, k < 96 → waM sa t (k % 4) (sa (24 + (96 * f + k))) (sa (24 + (96 * t + k))) = (if addP st f t (80 * (k / 16) + k % 16) then 1 else 0) ∧ wrM sa f (k % 4) (sa (24 + (96 * f + k))) (sa (24 + (96 * t + k))) = (if remP st f t (80 * (k / 16) + k % 16) then 1 else 0) := fun k hk => by
    have g := way_C (w := k / 16) (c := k % 16 / 4) (k := k % 4) hB hf ht (by omega) (by omega) (by omega) h
    rw [show 24 + (4 * (4 * (6 * f + k / 16) + k % 16 / 4) + k % 4) = 24 + (96 * f + k) by omega, show 24 + (4 * (4 * (6 * t + k / 16) + k % 16 / 4) + k % 4) = 24 + (96 * t + k) by omega, show k / 16 * 80 + k % 16 / 4 * 4 + k % 4 = 80 * (k / 16) + k % 16 by omega] at g
    exact ⟨g.1, g.2.1⟩
  have q2 : ∀ k, k < 384 → waM sa t (k % 4) (sa (888 + 384 * f + k)) (sa (888 + 384 * t + k)) = (if addP st f t (80 * (k / 64) + 16 + k % 64) then 1 else 0) ∧ wrM sa f (k % 4) (sa (888 + 384 * f + k)) (sa (888 + 384 * t + k)) = (if remP st f t (80 * (k / 64) + 16 + k % 64) then 1 else 0) := fun k hk => by
    have g := way_E (w := k / 64) (e := k % 64 / 4) (k := k % 4) hB hf ht (by omega) (by omega) (by omega) h
    rw [show 888 + 4 * (16 * (6 * f + k / 64) + k % 64 / 4) + k % 4 = 888 + 384 * f + k by omega, show 888 + 4 * (16 * (6 * t + k / 64) + k % 64 / 4) + k % 4 = 888 + 384 * t + k by omega, show k / 64 * 80 + (4 + k % 64 / 4) * 4 + k % 4 = 80 * (k / 64) + 16 + k % 64 by omega] at g
    exact ⟨g.1, g.2.1⟩
  rw [hn.1, hn.2, cntP_9, cntP_9]
  constructor
  · refine (sm9_rows (fun k => if addP st f t k then 1 else 0) 6).trans ?_
    rw [sm9_cg (16 * 6) (fun k hk => (q1 k hk).1.symm), sm9_cg (64 * 6) (fun k hk => (q2 k hk).1.symm)]
  · refine (sm9_rows (fun k => if remP st f t k then 1 else 0) 6).trans ?_
    rw [sm9_cg (16 * 6) (fun k hk => (q1 k hk).2.symm), sm9_cg (64 * 6) (fun k hk => (q2 k hk).2.symm)]
set_option maxRecDepth 8192 in
theorem lkM_at {sa : Nat → Int32} {f t : Nat} (hf : f < 4) (ht : t < 4) (hne : f ≠ t) :
    (∀ p, p < 24 ∨ 2424 ≤ p → (lkM true sa f t).1 p = sa p) ∧
    (∀ r w c k, r < 4 → w < 6 → c < 4 → k < 4 → r ≠ t → (lkM true sa f t).1 (24 + (4 * (4 * (6 * r + w) + c) + k)) = sa (24 + (4 * (4 * (6 * r + w) + c) + k)) ∧ (lkM true sa f t).1 (408 + (4 * (4 * (6 * r + w) + c) + k)) = sa (408 + (4 * (4 * (6 * r + w) + c) + k)) ∧ (lkM true sa f t).1 (792 + 4 * (6 * r + w) + k) = sa (792 + 4 * (6 * r + w) + k)) ∧
    (∀ w c k, w < 6 → c < 4 → k < 4 → (lkM true sa f t).1 (24 + (4 * (4 * (6 * t + w) + c) + k)) = (if wyM sa f t k (sa (24 + (4 * (4 * (6 * f + w) + c) + k))) (sa (24 + (4 * (4 * (6 * t + w) + c) + k))) = 0 then sa (24 + (4 * (4 * (6 * t + w) + c) + k)) else if wyM sa f t k (sa (24 + (4 * (4 * (6 * f + w) + c) + k))) (sa (24 + (4 * (4 * (6 * t + w) + c) + k))) ≤ 0 then nI 0 else sa (24 + (4 * (4 * (6 * f + w) + c) + k))) ∧ (lkM true sa f t).1 (408 + (4 * (4 * (6 * t + w) + c) + k)) = (if wyM sa f t k (sa (24 + (4 * (4 * (6 * f + w) + c) + k))) (sa (24 + (4 * (4 * (6 * t + w) + c) + k))) = 0 then sa (408 + (4 * (4 * (6 * t + w) + c) + k)) else sa (408 + (4 * (4 * (6 * f + w) + c) + k))) ∧ (c = 0 → (lkM true sa f t).1 (792 + 4 * (6 * t + w) + k) = (if wyM sa f t k (sa (24 + (4 * (4 * (6 * f + w) + c) + k))) (sa (24 + (4 * (4 * (6 * t + w) + c) + k))) = 0 then sa (792 + 4 * (6 * t + w) + k) else sa (792 + 4 * (6 * f + w) + k)))) ∧
    (∀ r w e k, r < 4 → w < 6 → e < 16 → k < 4 → r ≠ t → (lkM true sa f t).1 (888 + 4 * (16 * (6 * r + w) + e) + k) = sa (888 + 4 * (16 * (6 * r + w) + e) + k)) ∧
    (∀ w e k, w < 6 → e < 16 → k < 4 → (lkM true sa f t).1 (888 + 4 * (16 * (6 * t + w) + e) + k) = (if wyM sa f t k (sa (888 + 4 * (16 * (6 * f + w) + e) + k)) (sa (888 + 4 * (16 * (6 * t + w) + e) + k)) ≤ 0 then (if 0 ≤ wyM sa f t k (sa (888 + 4 * (16 * (6 * f + w) + e) + k)) (sa (888 + 4 * (16 * (6 * t + w) + e) + k)) then sa (888 + 4 * (16 * (6 * t + w) + e) + k) else nI 0) else sa (888 + 4 * (16 * (6 * f + w) + e) + k))) := by
  obtain ⟨i1, i2, i3, i4, -, -⟩ := mcM_at (sa := sa) (z := (0, 0)) hf ht hne 96 (Nat.le_refl 96)
  obtain ⟨j1, j2, -, -⟩ := meM_at (sa := (mcM true f t (sa, 0, 0) 96).1) (z := ((mcM true f t (sa, 0, 0) 96).2.1, (mcM true f t (sa, 0, 0) 96).2.2)) hf ht hne 384 (Nat.le_refl 384)
  refine ⟨fun p hp => (j1 p (by omega)).trans (i1 p (by omega) (by omega) (by omega)), fun r w c k h1 h2 h3 h4 h5 => ⟨(j1 _ (by omega)).trans (i1 _ (by omega) (by omega) (by omega)), (j1 _ (by omega)).trans (i1 _ (by omega) (by omega) (by omega)), (j1 _ (by omega)).trans (i1 _ (by omega) (by omega) (by omega))⟩, fun w c k h2 h3 h4 => ?_, fun r w e k h1 h2 h3 h4 h5 => (j1 _ (by omega)).trans (i1 _ (by omega) (by omega) (by omega)), fun w e k h2 h3 h4 => ?_⟩
  · have a2 := i2 (16 * w + 4 * c + k) (by omega)
    have a3 := i3 (16 * w + 4 * c + k) (by omega)
    rw [show (16 * w + 4 * c + k) % 4 = k by omega, show 24 + (96 * t + (16 * w + 4 * c + k)) = 24 + (4 * (4 * (6 * t + w) + c) + k) by omega, show 24 + (96 * f + (16 * w + 4 * c + k)) = 24 + (4 * (4 * (6 * f + w) + c) + k) by omega] at a2 a3
    rw [show 408 + (96 * t + (16 * w + 4 * c + k)) = 408 + (4 * (4 * (6 * t + w) + c) + k) by omega, show 408 + (96 * f + (16 * w + 4 * c + k)) = 408 + (4 * (4 * (6 * f + w) + c) + k) by omega] at a3
    refine ⟨(j1 _ (by omega)).trans a2, (j1 _ (by omega)).trans a3, fun hc => (j1 _ (by omega)).trans ?_⟩
    subst hc
    have a4 := i4 w k h2 h4
    rw [show 24 + (96 * t + (16 * w + k)) = 24 + (4 * (4 * (6 * t + w) + 0) + k) by omega, show 24 + (96 * f + (16 * w + k)) = 24 + (4 * (4 * (6 * f + w) + 0) + k) by omega] at a4
    rw [a4]
    by_cases c9 : wyM sa f t k (sa (24 + (4 * (4 * (6 * f + w) + 0) + k))) (sa (24 + (4 * (4 * (6 * t + w) + 0) + k))) = 0
    · rw [if_neg (fun q => q.2 c9), if_pos c9]
    · rw [if_pos ⟨by omega, c9⟩, if_neg c9]
  · have a2 := j2 (64 * w + 4 * e + k) (by omega)
    rw [show (64 * w + 4 * e + k) % 4 = k by omega, show 888 + 384 * t + (64 * w + 4 * e + k) = 888 + 4 * (16 * (6 * t + w) + e) + k by omega, show 888 + 384 * f + (64 * w + 4 * e + k) = 888 + 4 * (16 * (6 * f + w) + e) + k by omega] at a2
    have b1 : (mcM true f t (sa, 0, 0) 96).1 (888 + 4 * (16 * (6 * t + w) + e) + k) = sa (888 + 4 * (16 * (6 * t + w) + e) + k) := i1 _ (by omega) (by omega) (by omega)
    have b2 : (mcM true f t (sa, 0, 0) 96).1 (888 + 4 * (16 * (6 * f + w) + e) + k) = sa (888 + 4 * (16 * (6 * f + w) + e) + k) := i1 _ (by omega) (by omega) (by omega)
    have b3 := (wyM_cg (sa := (mcM true f t (sa, 0, 0) 96).1) (sb := sa) (f := f) (t := t) (k := k) (i1 _ (by omega) (by omega) (by omega)) (i1 _ (by omega) (by omega) (by omega)) (sa (888 + 4 * (16 * (6 * f + w) + e) + k)) (sa (888 + 4 * (16 * (6 * t + w) + e) + k))).1
    rw [b1, b2, b3] at a2
    exact a2
set_option maxRecDepth 8192 in
theorem mgM_at {sa : Nat → Int32} {f t : Nat} (hf : f < 4) (ht : t < 4) (hne : f ≠ t) :
    (∀ p, 24 ≤ p → mgM sa f t p = (lkM true sa f t).1 p) ∧ (∀ j, j < 4 → mgM sa f t (20 + j) = mRes (fun _ => 0) (nI f) (nI t) (nI (lkM true sa f t).2.1) (nI (lkM true sa f t).2.2) j) ∧
    (∀ j, j < 4 → mgM sa f t (16 + j) = if j = t then mx (sa (16 + f)) (sa (16 + t)) else sa (16 + j)) ∧
    (∀ i, i < 16 → ¬ (4 * t ≤ i ∧ i < 4 * t + 4) → mgM sa f t i = sa i) ∧ (∀ o, o < 4 → mgM sa f t (0 + 4 * t + o) = mx (sa (0 + 4 * f + o)) (sa (0 + 4 * t + o))) := by
  have l1 := (lkM_at (sa := sa) hf ht hne).1
  obtain ⟨k1, k2⟩ := skM_at (sa := (lkM true sa f t).1) hf ht hne 4 (Nat.le_refl 4)
  have hm : mgM sa f t = upd (upd (upd (upd (upd (skM (lkM true sa f t).1 f t 4) (16 + t) (if skM (lkM true sa f t).1 f t 4 (16 + f) ≤ skM (lkM true sa f t).1 f t 4 (16 + t) then skM (lkM true sa f t).1 f t 4 (16 + t) else skM (lkM true sa f t).1 f t 4 (16 + f))) 20 (nI f)) 21 (nI t)) 22 (nI (lkM true sa f t).2.1)) 23 (nI (lkM true sa f t).2.2) := by rw [mgM]
  rw [k1 (16 + f) (by omega), k1 (16 + t) (by omega), l1 (16 + f) (by omega), l1 (16 + t) (by omega), mx_le] at hm
  rw [hm]
  refine ⟨fun p hp => ?_, fun j hj => ?_, fun j hj => ?_, fun i hi hn => ?_, fun o ho => ?_⟩
  · rw [pk_un (by omega), pk_un (by omega), pk_un (by omega), pk_un (by omega), pk_un (by omega)]; exact k1 p (by omega)
  · have hj4 : j = 0 ∨ j = 1 ∨ j = 2 ∨ j = 3 := by omega
    rcases hj4 with rfl | rfl | rfl | rfl
    · rw [pk_un (by omega), pk_un (by omega), pk_un (by omega), show 20 + 0 = 20 from rfl, pk_us]; rfl
    · rw [pk_un (by omega), pk_un (by omega), show 20 + 1 = 21 from rfl, pk_us]; rfl
    · rw [pk_un (by omega), show 20 + 2 = 22 from rfl, pk_us]; rfl
    · rw [show 20 + 3 = 23 from rfl, pk_us]; rfl
  · rw [pk_un (by omega), pk_un (by omega), pk_un (by omega), pk_un (by omega)]
    by_cases e : j = t
    · rw [e, pk_us, if_pos rfl]
    · rw [pk_un (by omega), if_neg e]; exact (k1 _ (by omega)).trans (l1 _ (by omega))
  · rw [pk_un (by omega), pk_un (by omega), pk_un (by omega), pk_un (by omega), pk_un (by omega)]; exact (k1 _ (by omega)).trans (l1 _ (by omega))
  · rw [pk_un (by omega), pk_un (by omega), pk_un (by omega), pk_un (by omega), pk_un (by omega), k2 o ho, l1 _ (by omega), l1 _ (by omega)]
set_option maxRecDepth 8192 in
theorem smN_mx {B : Nat} {a b : Int32} (ha : smN B a) (hb : smN B b) : smN B (mx a b) := by
  show smN B (if a < b then b else a)
  by_cases e : a < b
  · rw [if_pos e]; exact hb
  · rw [if_neg e]; exact ha
set_option maxRecDepth 8192 in
theorem mKn_1 (X : St) (f t : Nat) : (mKn X f t).1 = X.1 ∧ (mKn X f t).2.1 = X.2.1 ∧ (mKn X f t).2.2.1 = X.2.2.1 := ⟨rfl, rfl, rfl⟩
set_option maxRecDepth 8192 in
theorem mgS_eq (st : St) (f t : Nat) : mgS st f t = ((mKn (mIt st f t 480) f t).1, (mKn (mIt st f t 480) f t).2.1, (mKn (mIt st f t 480) f t).2.2.1, (mKn (mIt st f t 480) f t).2.2.2.1, (mKn (mIt st f t 480) f t).2.2.2.2.1, mRes (mKn (mIt st f t 480) f t).2.2.2.2.2 (nI f) (nI t) (nI (cntP (fun o => addP st f t o) 480)) (nI (cntP (fun o => remP st f t o) 480))) := by unfold mgS; rfl
set_option maxRecDepth 8192 in
theorem st_p1 (a b c d e g : Nat → Int32) : ((a, b, c, d, e, g) : St).1 = a := rfl
set_option maxRecDepth 8192 in
theorem st_p2 (a b c d e g : Nat → Int32) : ((a, b, c, d, e, g) : St).2.1 = b := rfl
set_option maxRecDepth 8192 in
theorem st_p3 (a b c d e g : Nat → Int32) : ((a, b, c, d, e, g) : St).2.2.1 = c := rfl
set_option maxRecDepth 8192 in
theorem mgS_1 (st : St) (f t : Nat) : (mgS st f t).1 = (mIt st f t 480).1 := by rw [mgS_eq]; exact (st_p1 _ _ _ _ _ _).trans (mKn_1 _ f t).1
set_option maxRecDepth 8192 in
theorem mgS_2 (st : St) (f t : Nat) : (mgS st f t).2.1 = (mIt st f t 480).2.1 := by rw [mgS_eq]; exact (st_p2 _ _ _ _ _ _).trans (mKn_1 _ f t).2.1
set_option maxRecDepth 8192 in
theorem mgS_3 (st : St) (f t : Nat) : (mgS st f t).2.2.1 = (mIt st f t 480).2.2.1 := by rw [mgS_eq]; exact (st_p3 _ _ _ _ _ _).trans (mKn_1 _ f t).2.2
set_option maxRecDepth 8192 in
theorem mRes_any (f g : Nat → Int32) (a b c d : Int32) {j : Nat} (hj : j < 4) : mRes f a b c d j = mRes g a b c d j := by
  have hj4 : j = 0 ∨ j = 1 ∨ j = 2 ∨ j = 3 := by omega
  rcases hj4 with rfl | rfl | rfl | rfl <;> rfl
set_option maxRecDepth 8192 in
set_option maxHeartbeats 4000000 in
theorem Rl_mg {st : St} {sa : Nat → Int32} {B f t : Nat} (hB : B < 2 ^ 31) (hf : f < 4) (ht : t < 4) (hne : f ≠ t) (h : Rl st sa B) : Rl (mgS st f t) (mgM sa f t) B ∧ hiE sa (mgM sa f t) := by
  obtain ⟨a1, a2, a3⟩ := mIt_at (st := st) hf ht hne 480 (Nat.le_refl 480)
  obtain ⟨b1, b2⟩ := knE_at (se := st.2.2.2.1) hf ht hne 4 (Nat.le_refl 4)
  obtain ⟨c1, c2, c3, c4, c5⟩ := lkM_at (sa := sa) hf ht hne
  obtain ⟨d1, d2, d3, d4, d5⟩ := mgM_at (sa := sa) hf ht hne
  have hcn := mg_cnt true hB hf ht hne h
  have hse : (mgS st f t).2.2.2.1 = knE st.2.2.2.1 f t 4 := congrArg (fun z : (Nat → Int32) × (Nat → Int32) × (Nat → Int32) => knE z.1 f t 4) a1
  have hck : (mgS st f t).2.2.2.2.1 = upd st.2.2.2.2.1 t (mx (st.2.2.2.2.1 f) (st.2.2.2.2.1 t)) := congrArg (fun z : (Nat → Int32) × (Nat → Int32) × (Nat → Int32) => upd z.2.1 t (mx (z.2.1 f) (z.2.1 t))) a1
  refine ⟨⟨⟨fun i hi => ?_, fun j hj => ?_, fun j hj => ?_⟩, fun r w c k h1 h2 h3 h4 => ?_, fun r w e k h1 h2 h3 h4 => ?_⟩, fun p hp => ?_⟩
  · rw [hse]
    by_cases e : 4 * t ≤ i ∧ i < 4 * t + 4
    · have g1 := b2 (i - 4 * t) (by omega)
      have g2 := d5 (i - 4 * t) (by omega)
      have s1 := h.1.1 (f * 4 + (i - 4 * t)) (by omega)
      have s2 := h.1.1 (t * 4 + (i - 4 * t)) (by omega)
      rw [s1.1, s2.1, show t * 4 + (i - 4 * t) = i by omega] at g1
      rw [show 0 + 4 * t + (i - 4 * t) = i by omega, show 0 + 4 * f + (i - 4 * t) = f * 4 + (i - 4 * t) by omega] at g2
      rw [show t * 4 + (i - 4 * t) = i by omega] at s2
      rw [g1, g2]
      exact ⟨rfl, smN_mx s1.2 s2.2⟩
    · rw [b1 i (by omega), d4 i hi e]; exact h.1.1 i hi
  · rw [hck, d3 j hj]
    by_cases e : j = t
    · rw [e, pk_us, if_pos rfl, (h.1.2.1 f hf).1, (h.1.2.1 t ht).1]
      exact ⟨rfl, smN_mx (h.1.2.1 f hf).2 (h.1.2.1 t ht).2⟩
    · rw [pk_un e, if_neg e]; exact h.1.2.1 j hj
  · rw [d2 j hj]
    show mRes _ (nI f) (nI t) (nI (cntP (fun o => addP st f t o) 480)) (nI (cntP (fun o => remP st f t o) 480)) j = _
    rw [hcn.1, hcn.2]
    exact mRes_any _ _ _ _ _ _ hj
  · rw [mgS_1, mgS_2, mgS_3]
    by_cases e : r = t
    · subst e
      obtain ⟨g1, g2, g3⟩ := a3 (w * 80 + c * 4 + k) (by omega)
      simp only [show r * 480 + (w * 80 + c * 4 + k) = r * 480 + w * 80 + c * 4 + k by omega, show f * 480 + (w * 80 + c * 4 + k) = f * 480 + w * 80 + c * 4 + k by omega] at g1 g2 g3
      obtain ⟨l1, l2, l3⟩ := c3 w c k h2 h3 h4
      have l1 := (d1 (24 + (4 * (4 * (6 * r + w) + c) + k)) (by omega)).trans l1
      have l2 := (d1 (408 + (4 * (4 * (6 * r + w) + c) + k)) (by omega)).trans l2
      have l3 := fun q : c = 0 => (d1 (792 + 4 * (6 * r + w) + k) (by omega)).trans (l3 q)
      have kf := h.2.1 f w c k hf h2 h3 h4
      have kt := h.2.1 r w c k h1 h2 h3 h4
      rcases (way_C hB hf h1 h2 h3 h4 h).2.2 with ⟨p9, v9⟩ | ⟨p9, q9, v9⟩ | ⟨p9, q9, v9⟩
      · rw [if_pos p9] at g1 g2 g3
        rw [v9, if_neg (by decide), if_neg (by decide)] at l1
        rw [v9, if_neg (by decide)] at l2
        have l3 : c = 0 → mgM sa f r (792 + 4 * (6 * r + w) + k) = sa (792 + 4 * (6 * f + w) + k) := fun q => by have := l3 q; rw [v9, if_neg (by decide)] at this; exact this
        exact ⟨⟨g1.trans (kf.1.1.trans l1.symm), by rw [l1]; exact kf.1.2⟩, fun z => g3.trans ((kf.2.1 (fun y => z (l1.trans y))).trans l2.symm), fun q z => ⟨g2.trans ((kf.2.2 q (fun y => z (l1.trans y))).1.trans (l3 q).symm), by rw [l3 q]; exact (kf.2.2 q (fun y => z (l1.trans y))).2⟩⟩
      · rw [if_neg p9, if_pos q9] at g1
        rw [v9, if_neg (by decide), if_pos (by decide)] at l1
        exact ⟨⟨g1.trans l1.symm, by rw [l1]; exact ⟨0, Nat.zero_le _, rfl⟩⟩, fun z => absurd (l1.trans nI_0) z, fun _ z => absurd (l1.trans nI_0) z⟩
      · rw [if_neg p9, if_neg q9] at g1
        rw [if_neg p9] at g2 g3
        rw [v9, if_pos (by decide)] at l1 l2
        have l3 : c = 0 → mgM sa f r (792 + 4 * (6 * r + w) + k) = sa (792 + 4 * (6 * r + w) + k) := fun q => by have := l3 q; rw [v9, if_pos (by decide)] at this; exact this
        exact ⟨⟨g1.trans (kt.1.1.trans l1.symm), by rw [l1]; exact kt.1.2⟩, fun z => g3.trans ((kt.2.1 (fun y => z (l1.trans y))).trans l2.symm), fun q z => ⟨g2.trans ((kt.2.2 q (fun y => z (l1.trans y))).1.trans (l3 q).symm), by rw [l3 q]; exact (kt.2.2 q (fun y => z (l1.trans y))).2⟩⟩
    · obtain ⟨g1, g2, g3⟩ := a2 (r * 480 + w * 80 + c * 4 + k) (by omega)
      obtain ⟨l1, l2, l3⟩ := c2 r w c k h1 h2 h3 h4 e
      have l1 := (d1 (24 + (4 * (4 * (6 * r + w) + c) + k)) (by omega)).trans l1
      have l2 := (d1 (408 + (4 * (4 * (6 * r + w) + c) + k)) (by omega)).trans l2
      have l3 := fun _ : c = 0 => (d1 (792 + 4 * (6 * r + w) + k) (by omega)).trans l3
      have kr := h.2.1 r w c k h1 h2 h3 h4
      exact ⟨⟨g1.trans (kr.1.1.trans l1.symm), by rw [l1]; exact kr.1.2⟩, fun z => g3.trans ((kr.2.1 (fun y => z (l1.trans y))).trans l2.symm), fun q z => ⟨g2.trans ((kr.2.2 q (fun y => z (l1.trans y))).1.trans (l3 q).symm), by rw [l3 q]; exact (kr.2.2 q (fun y => z (l1.trans y))).2⟩⟩
  · rw [mgS_1, mgS_3]
    by_cases e9 : r = t
    · subst e9
      obtain ⟨g1, g2, g3⟩ := a3 (w * 80 + (4 + e) * 4 + k) (by omega)
      simp only [show r * 480 + (w * 80 + (4 + e) * 4 + k) = r * 480 + w * 80 + (4 + e) * 4 + k by omega, show f * 480 + (w * 80 + (4 + e) * 4 + k) = f * 480 + w * 80 + (4 + e) * 4 + k by omega] at g1 g2 g3
      have l1 := (d1 (888 + 4 * (16 * (6 * r + w) + e) + k) (by omega)).trans (c5 w e k h2 h3 h4)
      have kf := h.2.2 f w e k hf h2 h3 h4
      have kt := h.2.2 r w e k h1 h2 h3 h4
      rcases (way_E hB hf h1 h2 h3 h4 h).2.2 with ⟨p9, v9⟩ | ⟨p9, q9, v9⟩ | ⟨p9, q9, v9⟩
      · rw [if_pos p9] at g1 g3
        rw [v9, if_neg (by decide)] at l1
        exact ⟨⟨g1.trans (kf.1.1.trans l1.symm), by rw [l1]; exact kf.1.2⟩, fun z => g3.trans (kf.2 (fun y => z (l1.trans y)))⟩
      · rw [if_neg p9, if_pos q9] at g1
        rw [v9, if_pos (by decide), if_neg (by decide)] at l1
        exact ⟨⟨g1.trans l1.symm, by rw [l1]; exact ⟨0, Nat.zero_le _, rfl⟩⟩, fun z => absurd (l1.trans nI_0) z⟩
      · rw [if_neg p9, if_neg q9] at g1
        rw [if_neg p9] at g3
        rw [v9, if_pos (by decide), if_pos (by decide)] at l1
        exact ⟨⟨g1.trans (kt.1.1.trans l1.symm), by rw [l1]; exact kt.1.2⟩, fun z => g3.trans (kt.2 (fun y => z (l1.trans y)))⟩
    · obtain ⟨g1, g2, g3⟩ := a2 (r * 480 + w * 80 + (4 + e) * 4 + k) (by omega)
      have l1 := (d1 (888 + 4 * (16 * (6 * r + w) + e) + k) (by omega)).trans (c4 r w e k h1 h2 h3 h4 e9)
      have kr := h.2.2 r w e k h1 h2 h3 h4
      exact ⟨⟨g1.trans (kr.1.1.trans l1.symm), by rw [l1]; exact kr.1.2⟩, fun z => g3.trans (kr.2 (fun y => z (l1.trans y)))⟩
  · exact (d1 p (by omega)).trans (c1 p (by omega))
