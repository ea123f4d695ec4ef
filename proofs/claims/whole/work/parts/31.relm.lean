/-! merges, side by side -/
theorem mx_le {a b : Int32} : (if a ≤ b then b else a) = mx a b := by
  show _ = (if a < b then b else a)
  by_cases e : a < b
  · rw [if_pos e, if_pos (Int32.le_of_lt e)]
  · rw [if_neg e]
    by_cases e2 : a ≤ b
    · rw [if_pos e2]; exact Int32.le_antisymm (Int32.not_lt.mp e) e2
    · rw [if_neg e2]
theorem mIt_at {st : St} {f t : Nat} (hf : f < 4) (ht : t < 4) (hne : f ≠ t) : ∀ n, n ≤ 480 →
    (mIt st f t n).2.2.2 = st.2.2.2 ∧
    (∀ i, ¬ (t * 480 ≤ i ∧ i < t * 480 + n) → (mIt st f t n).1 i = st.1 i ∧ (mIt st f t n).2.1 i = st.2.1 i ∧ (mIt st f t n).2.2.1 i = st.2.2.1 i) ∧
    (∀ o, o < n → (mIt st f t n).1 (t * 480 + o) = (if addP st f t o then st.1 (f * 480 + o) else if remP st f t o then nI 0 else st.1 (t * 480 + o)) ∧ (mIt st f t n).2.1 (t * 480 + o) = (if addP st f t o then st.2.1 (f * 480 + o) else st.2.1 (t * 480 + o)) ∧ (mIt st f t n).2.2.1 (t * 480 + o) = (if addP st f t o then st.2.2.1 (f * 480 + o) else st.2.2.1 (t * 480 + o)))
  | 0, _ => ⟨rfl, fun _ _ => ⟨rfl, rfl, rfl⟩, fun o h => absurd h (Nat.not_lt_zero o)⟩
  | n + 1, hn => by
    obtain ⟨i1, i2, i3⟩ := mIt_at (st := st) hf ht hne n (by omega)
    have a1 := i2 (f * 480 + n) (by omega)
    have a2 := i2 (t * 480 + n) (by omega)
    have e3 : (mIt st f t n).2.2.2.1 = st.2.2.2.1 := congrArg (fun z => z.1) i1
    have ea : addP (mIt st f t n) f t n ↔ addP st f t n := by
      show (¬ (mIt st f t n).1 (f * 480 + n) = 0 ∧ ¬ (mIt st f t n).1 (f * 480 + n) = (mIt st f t n).1 (t * 480 + n) ∧ (mIt st f t n).2.2.2.1 (t * 4 + n % 4) < (mIt st f t n).1 (f * 480 + n)) ↔ _
      rw [a1.1, a2.1, e3]
    have er : remP (mIt st f t n) f t n ↔ remP st f t n := by
      show (¬ (mIt st f t n).1 (t * 480 + n) = 0 ∧ ¬ (mIt st f t n).1 (t * 480 + n) = (mIt st f t n).1 (f * 480 + n) ∧ (mIt st f t n).1 (t * 480 + n) ≤ (mIt st f t n).2.2.2.1 (f * 4 + n % 4)) ↔ _
      rw [a1.1, a2.1, e3]
    have hs : mIt st f t (n + 1) = mSlot (mIt st f t n) f t n := by rw [mIt]
    rw [hs]
    by_cases c1 : addP st f t n
    · rw [mSlot, if_pos (ea.mpr c1)]
      refine ⟨i1, fun i hi => ?_, fun o ho => ?_⟩
      · have hi2 := i2 i (by omega)
        exact ⟨(pk_un (by omega)).trans hi2.1, (pk_un (by omega)).trans hi2.2.1, (pk_un (by omega)).trans hi2.2.2⟩
      · by_cases eo : o = n
        · subst eo
          rw [if_pos c1, if_pos c1, if_pos c1]
          exact ⟨pk_us.trans a1.1, pk_us.trans a1.2.1, pk_us.trans a1.2.2⟩
        · have hi2 := i3 o (by omega)
          exact ⟨(pk_un (by omega)).trans hi2.1, (pk_un (by omega)).trans hi2.2.1, (pk_un (by omega)).trans hi2.2.2⟩
    · by_cases c2 : remP st f t n
      · rw [mSlot, if_neg (fun z => c1 (ea.mp z)), if_pos (er.mpr c2)]
        refine ⟨i1, fun i hi => ?_, fun o ho => ?_⟩
        · have hi2 := i2 i (by omega)
          exact ⟨(pk_un (by omega)).trans hi2.1, hi2.2.1, hi2.2.2⟩
        · by_cases eo : o = n
          · subst eo
            rw [if_neg c1, if_neg c1, if_neg c1, if_pos c2]
            exact ⟨pk_us, a2.2.1, a2.2.2⟩
          · have hi2 := i3 o (by omega)
            exact ⟨(pk_un (by omega)).trans hi2.1, hi2.2.1, hi2.2.2⟩
      · rw [mSlot, if_neg (fun z => c1 (ea.mp z)), if_neg (fun z => c2 (er.mp z))]
        refine ⟨i1, fun i hi => i2 i (by omega), fun o ho => ?_⟩
        by_cases eo : o = n
        · subst eo
          rw [if_neg c1, if_neg c1, if_neg c1, if_neg c2]
          exact a2
        · exact i3 o (by omega)
theorem knE_at {se : Nat → Int32} {f t : Nat} (hf : f < 4) (ht : t < 4) (hne : f ≠ t) : ∀ n, n ≤ 4 →
    (∀ i, ¬ (t * 4 ≤ i ∧ i < t * 4 + n) → knE se f t n i = se i) ∧ (∀ o, o < n → knE se f t n (t * 4 + o) = mx (se (f * 4 + o)) (se (t * 4 + o)))
  | 0, _ => ⟨fun _ _ => rfl, fun o h => absurd h (Nat.not_lt_zero o)⟩
  | n + 1, hn => by
    obtain ⟨i2, i3⟩ := knE_at (se := se) hf ht hne n (by omega)
    rw [knE, i2 (f * 4 + n) (by omega), i2 (t * 4 + n) (by omega)]
    refine ⟨fun i hi => ?_, fun o ho => ?_⟩
    · rw [pk_un (by omega)]; exact i2 i (by omega)
    · by_cases eo : o = n
      · rw [eo, pk_us]
      · rw [pk_un (by omega)]; exact i3 o (by omega)
theorem skM_at {sa : Nat → Int32} {f t : Nat} (hf : f < 4) (ht : t < 4) (hne : f ≠ t) : ∀ n, n ≤ 4 →
    (∀ i, ¬ (4 * t ≤ i ∧ i < 4 * t + n) → skM sa f t n i = sa i) ∧ (∀ o, o < n → skM sa f t n (0 + 4 * t + o) = mx (sa (0 + 4 * f + o)) (sa (0 + 4 * t + o)))
  | 0, _ => ⟨fun _ _ => rfl, fun o h => absurd h (Nat.not_lt_zero o)⟩
  | n + 1, hn => by
    obtain ⟨i2, i3⟩ := skM_at (sa := sa) hf ht hne n (by omega)
    rw [skM, i2 (0 + 4 * f + n) (by omega), i2 (0 + 4 * t + n) (by omega), mx_le]
    refine ⟨fun i hi => ?_, fun o ho => ?_⟩
    · rw [pk_un (by omega)]; exact i2 i (by omega)
    · by_cases eo : o = n
      · rw [eo, pk_us]
      · rw [pk_un (by omega)]; exact i3 o (by omega)
-- sums
def sm9 (g : Nat → Nat) : Nat → Nat
  | 0 => 0
  | k + 1 => sm9 g k + g k
theorem sm9_cg {g h : Nat → Nat} : ∀ n, (∀ k, k < n → g k = h k) → sm9 g n = sm9 h n
  | 0, _ => rfl
  | n + 1, e => by rw [sm9, sm9, sm9_cg n (fun k hk => e k (by omega)), e n (by omega)]
theorem sm9_add (g : Nat → Nat) (a : Nat) : ∀ b, sm9 g (a + b) = sm9 g a + sm9 (fun k => g (a + k)) b
  | 0 => rfl
  | b + 1 => by
    show sm9 g (a + b) + g (a + b) = sm9 g a + (sm9 (fun k => g (a + k)) b + g (a + b))
    rw [sm9_add g a b, Nat.add_assoc]
theorem cntP_9 (P : Nat → Prop) [DecidablePred P] : ∀ n, cntP P n = sm9 (fun k => if P k then 1 else 0) n
  | 0 => rfl
  | n + 1 => by rw [cntP, sm9, cntP_9 P n]
/-- the 480 places of a replica: for each row the 16 of its columns, then the 64 of its elements -/
theorem sm9_rows (g : Nat → Nat) : ∀ w, sm9 g (80 * w) = sm9 (fun k => g (80 * (k / 16) + k % 16)) (16 * w) + sm9 (fun k => g (80 * (k / 64) + 16 + k % 64)) (64 * w)
  | 0 => rfl
  | w + 1 => by
    rw [show 80 * (w + 1) = 80 * w + (16 + 64) by omega, show 16 * (w + 1) = 16 * w + 16 by omega, show 64 * (w + 1) = 64 * w + 64 by omega, sm9_add, sm9_add, sm9_add (fun k => g (80 * (k / 16) + k % 16)), sm9_add (fun k => g (80 * (k / 64) + 16 + k % 64)), sm9_rows g w]
    have h1 : sm9 (fun k => g (80 * ((16 * w + k) / 16) + (16 * w + k) % 16)) 16 = sm9 (fun k => g (80 * w + k)) 16 := sm9_cg 16 (fun k hk => by rw [show 80 * ((16 * w + k) / 16) + (16 * w + k) % 16 = 80 * w + k by omega])
    have h2 : sm9 (fun k => g (80 * ((64 * w + k) / 64) + 16 + (64 * w + k) % 64)) 64 = sm9 (fun k => g (80 * w + (16 + k))) 64 := sm9_cg 64 (fun k hk => by rw [show 80 * ((64 * w + k) / 64) + 16 + (64 * w + k) % 64 = 80 * w + (16 + k) by omega])
    rw [h1, h2]
    omega
-- a step of the reference's merge
theorem wyM_cg {sa sb : Nat → Int32} {f t k : Nat} (h1 : sa (0 + 4 * t + k) = sb (0 + 4 * t + k)) (h2 : sa (0 + 4 * f + k) = sb (0 + 4 * f + k)) (th ow : Int32) : wyM sa f t k th ow = wyM sb f t k th ow ∧ waM sa t k th ow = waM sb t k th ow ∧ wrM sa f k th ow = wrM sb f k th ow := by
  unfold wyM waM wrM
  show (if th = ow then nI 0 else if (¬ th ≤ 0 ∧ ¬ th ≤ sa (0 + 4 * t + k)) then nI 1 else if (¬ ow ≤ 0 ∧ ¬ sa (0 + 4 * f + k) < ow) then -1 else nI 0) = _ ∧ (if th = ow then 0 else if (¬ th ≤ 0 ∧ ¬ th ≤ sa (0 + 4 * t + k)) then 1 else 0) = _ ∧ (if th = ow then 0 else if (¬ ow ≤ 0 ∧ ¬ sa (0 + 4 * f + k) < ow) then 1 else 0) = _
  rw [h1, h2]
  exact ⟨rfl, rfl, rfl⟩
def mcS (y : Nat → Int32) (f t k : Nat) : Nat → Int32 :=
  let v := wyM y f t (k % 4) (y (24 + (96 * f + k))) (y (24 + (96 * t + k)))
  let s1 := upd y (24 + (96 * t + k)) (if v ≤ 0 then nI 0 else y (24 + (96 * f + k)))
  let s2 := upd s1 (408 + (96 * t + k)) (s1 (408 + (96 * f + k)))
  if v = 0 then y else if 0 < k / 4 % 4 then s2 else upd s2 (792 + 4 * (6 * t + k / 16) + k % 4) (s2 (792 + 4 * (6 * f + k / 16) + k % 4))
theorem mcM_s (f t k : Nat) (x : (Nat → Int32) × Nat × Nat) : (mcM true f t x (k + 1)).1 = mcS (mcM true f t x k).1 f t k := by rw [mcM, mcS]; rfl
theorem mcM_n1 (d : Bool) (f t k : Nat) (x : (Nat → Int32) × Nat × Nat) : (mcM d f t x (k + 1)).2.1 = (mcM d f t x k).2.1 + waM (mcM d f t x k).1 t (k % 4) ((mcM d f t x k).1 (24 + (96 * f + k))) ((mcM d f t x k).1 (24 + (96 * t + k))) := by rw [mcM]
theorem mcM_n2 (d : Bool) (f t k : Nat) (x : (Nat → Int32) × Nat × Nat) : (mcM d f t x (k + 1)).2.2 = (mcM d f t x k).2.2 + wrM (mcM d f t x k).1 f (k % 4) ((mcM d f t x k).1 (24 + (96 * f + k))) ((mcM d f t x k).1 (24 + (96 * t + k))) := by rw [mcM]
theorem mcS_at {y : Nat → Int32} {f t k : Nat} (hf : f < 4) (ht : t < 4) (hk : k < 96) (p : Nat) : mcS y f t k p = if wyM y f t (k % 4) (y (24 + (96 * f + k))) (y (24 + (96 * t + k))) = 0 then y p else if k / 4 % 4 = 0 ∧ p = 792 + 4 * (6 * t + k / 16) + k % 4 then y (792 + 4 * (6 * f + k / 16) + k % 4) else if p = 408 + (96 * t + k) then y (408 + (96 * f + k)) else if p = 24 + (96 * t + k) then (if wyM y f t (k % 4) (y (24 + (96 * f + k))) (y (24 + (96 * t + k))) ≤ 0 then nI 0 else y (24 + (96 * f + k))) else y p := by
  rw [mcS]
  by_cases c1 : wyM y f t (k % 4) (y (24 + (96 * f + k))) (y (24 + (96 * t + k))) = 0
  · rw [if_pos c1, if_pos c1]
  · rw [if_neg c1, if_neg c1]
    by_cases c2 : 0 < k / 4 % 4
    · rw [if_neg (show ¬ (k / 4 % 4 = 0 ∧ p = 792 + 4 * (6 * t + k / 16) + k % 4) from fun z => by omega)]
      refine (congrFun (if_pos c2) p).trans ?_
      by_cases c3 : p = 408 + (96 * t + k)
      · rw [if_pos c3, c3, pk_us, pk_un (by omega)]
      · rw [if_neg c3, pk_un c3]; rfl
    · refine (congrFun (if_neg c2) p).trans ?_
      by_cases c4 : p = 792 + 4 * (6 * t + k / 16) + k % 4
      · rw [if_pos (show k / 4 % 4 = 0 ∧ p = 792 + 4 * (6 * t + k / 16) + k % 4 from ⟨by omega, c4⟩), c4, pk_us, pk_un (by omega), pk_un (by omega)]
      · rw [if_neg (show ¬ (k / 4 % 4 = 0 ∧ p = 792 + 4 * (6 * t + k / 16) + k % 4) from fun z => c4 z.2), pk_un c4]
        by_cases c3 : p = 408 + (96 * t + k)
        · rw [if_pos c3, c3, pk_us, pk_un (by omega)]
        · rw [if_neg c3, pk_un c3]; rfl
theorem mcM_at {sa : Nat → Int32} {f t : Nat} {z : Nat × Nat} (hf : f < 4) (ht : t < 4) (hne : f ≠ t) : ∀ n, n ≤ 96 →
    (∀ p, ¬ (24 + 96 * t ≤ p ∧ p < 24 + 96 * t + n) → ¬ (408 + 96 * t ≤ p ∧ p < 408 + 96 * t + n) → ¬ (792 + 24 * t ≤ p ∧ p < 792 + 24 * t + 24) → (mcM true f t (sa, z) n).1 p = sa p) ∧
    (∀ k, k < n → (mcM true f t (sa, z) n).1 (24 + (96 * t + k)) = (if wyM sa f t (k % 4) (sa (24 + (96 * f + k))) (sa (24 + (96 * t + k))) = 0 then sa (24 + (96 * t + k)) else if wyM sa f t (k % 4) (sa (24 + (96 * f + k))) (sa (24 + (96 * t + k))) ≤ 0 then nI 0 else sa (24 + (96 * f + k)))) ∧
    (∀ k, k < n → (mcM true f t (sa, z) n).1 (408 + (96 * t + k)) = (if wyM sa f t (k % 4) (sa (24 + (96 * f + k))) (sa (24 + (96 * t + k))) = 0 then sa (408 + (96 * t + k)) else sa (408 + (96 * f + k)))) ∧
    (∀ w j, w < 6 → j < 4 → (mcM true f t (sa, z) n).1 (792 + 4 * (6 * t + w) + j) = (if 16 * w + j < n ∧ ¬ wyM sa f t j (sa (24 + (96 * f + (16 * w + j)))) (sa (24 + (96 * t + (16 * w + j)))) = 0 then sa (792 + 4 * (6 * f + w) + j) else sa (792 + 4 * (6 * t + w) + j))) ∧
    (mcM true f t (sa, z) n).2.1 = z.1 + sm9 (fun k => waM sa t (k % 4) (sa (24 + (96 * f + k))) (sa (24 + (96 * t + k)))) n ∧
    (mcM true f t (sa, z) n).2.2 = z.2 + sm9 (fun k => wrM sa f (k % 4) (sa (24 + (96 * f + k))) (sa (24 + (96 * t + k)))) n
  | 0, _ => ⟨fun _ _ _ _ => rfl, fun o h => absurd h (Nat.not_lt_zero o), fun o h => absurd h (Nat.not_lt_zero o), fun w j _ _ => by rw [if_neg (fun q => Nat.not_lt_zero _ q.1)]; rfl, rfl, rfl⟩
  | n + 1, hn => by
    obtain ⟨i1, i2, i3, i4, i5, i6⟩ := mcM_at (sa := sa) (z := z) hf ht hne n (by omega)
    have hth := i1 (24 + (96 * f + n)) (by omega) (by omega) (by omega)
    have how := i1 (24 + (96 * t + n)) (by omega) (by omega) (by omega)
    have hv := i1 (408 + (96 * f + n)) (by omega) (by omega) (by omega)
    have hst := i1 (792 + 4 * (6 * f + n / 16) + n % 4) (by omega) (by omega) (by omega)
    have hw := wyM_cg (sa := (mcM true f t (sa, z) n).1) (sb := sa) (f := f) (t := t) (k := n % 4) (i1 _ (by omega) (by omega) (by omega)) (i1 _ (by omega) (by omega) (by omega)) (sa (24 + (96 * f + n))) (sa (24 + (96 * t + n)))
    have hs : ∀ p, (mcM true f t (sa, z) (n + 1)).1 p = if wyM sa f t (n % 4) (sa (24 + (96 * f + n))) (sa (24 + (96 * t + n))) = 0 then (mcM true f t (sa, z) n).1 p else if n / 4 % 4 = 0 ∧ p = 792 + 4 * (6 * t + n / 16) + n % 4 then sa (792 + 4 * (6 * f + n / 16) + n % 4) else if p = 408 + (96 * t + n) then sa (408 + (96 * f + n)) else if p = 24 + (96 * t + n) then (if wyM sa f t (n % 4) (sa (24 + (96 * f + n))) (sa (24 + (96 * t + n))) ≤ 0 then nI 0 else sa (24 + (96 * f + n))) else (mcM true f t (sa, z) n).1 p := fun p => by
      rw [mcM_s, mcS_at hf ht (by omega), hth, how, hw.1, hv, hst]
    refine ⟨fun p h1 h2 h3 => ?_, fun k hk => ?_, fun k hk => ?_, fun w j h1 h2 => ?_, ?_, ?_⟩
    · rw [hs]
      by_cases c : wyM sa f t (n % 4) (sa (24 + (96 * f + n))) (sa (24 + (96 * t + n))) = 0
      · rw [if_pos c]; exact i1 p (by omega) (by omega) h3
      · rw [if_neg c, if_neg (by omega), if_neg (by omega), if_neg (by omega)]; exact i1 p (by omega) (by omega) h3
    · rw [hs]
      by_cases e : k = n
      · subst e
        by_cases c : wyM sa f t (k % 4) (sa (24 + (96 * f + k))) (sa (24 + (96 * t + k))) = 0
        · rw [if_pos c, if_pos c]; exact how
        · rw [if_neg c, if_neg c, if_neg (by omega), if_neg (by omega), if_pos rfl]
      · by_cases c : wyM sa f t (n % 4) (sa (24 + (96 * f + n))) (sa (24 + (96 * t + n))) = 0
        · rw [if_pos c]; exact i2 k (by omega)
        · rw [if_neg c, if_neg (by omega), if_neg (by omega), if_neg (by omega)]; exact i2 k (by omega)
    · rw [hs]
      by_cases e : k = n
      · subst e
        by_cases c : wyM sa f t (k % 4) (sa (24 + (96 * f + k))) (sa (24 + (96 * t + k))) = 0
        · rw [if_pos c, if_pos c]; exact i1 _ (by omega) (by omega) (by omega)
        · rw [if_neg c, if_neg c, if_neg (by omega), if_pos rfl]
      · by_cases c : wyM sa f t (n % 4) (sa (24 + (96 * f + n))) (sa (24 + (96 * t + n))) = 0
        · rw [if_pos c]; exact i3 k (by omega)
        · rw [if_neg c, if_neg (by omega), if_neg (by omega), if_neg (by omega)]; exact i3 k (by omega)
    · rw [hs]
      have i4 := i4 w j h1 h2
      by_cases e : n = 16 * w + j
      · have e1 : n % 4 = j := by omega
        have e2 : n / 16 = w := by omega
        have e3 : n / 4 % 4 = 0 := by omega
        rw [← e] at i4 ⊢
        rw [e1, e2]
        by_cases c : wyM sa f t j (sa (24 + (96 * f + n))) (sa (24 + (96 * t + n))) = 0
        · rw [if_pos c, if_neg (fun q => q.2 c)]
          rw [if_neg (fun q => q.2 c)] at i4
          exact i4
        · rw [if_neg c, if_pos ⟨e3, rfl⟩, if_pos ⟨Nat.lt_succ_self n, c⟩]
      · have hq : (16 * w + j < n + 1 ∧ ¬ wyM sa f t j (sa (24 + (96 * f + (16 * w + j)))) (sa (24 + (96 * t + (16 * w + j)))) = 0) ↔ (16 * w + j < n ∧ ¬ wyM sa f t j (sa (24 + (96 * f + (16 * w + j)))) (sa (24 + (96 * t + (16 * w + j)))) = 0) := ⟨fun q => ⟨by omega, q.2⟩, fun q => ⟨by omega, q.2⟩⟩
        have hr : (if 16 * w + j < n + 1 ∧ ¬ wyM sa f t j (sa (24 + (96 * f + (16 * w + j)))) (sa (24 + (96 * t + (16 * w + j)))) = 0 then sa (792 + 4 * (6 * f + w) + j) else sa (792 + 4 * (6 * t + w) + j)) = (mcM true f t (sa, z) n).1 (792 + 4 * (6 * t + w) + j) := by
          rw [i4]
          by_cases c9 : 16 * w + j < n ∧ ¬ wyM sa f t j (sa (24 + (96 * f + (16 * w + j)))) (sa (24 + (96 * t + (16 * w + j)))) = 0
          · rw [if_pos c9, if_pos (hq.mpr c9)]
          · rw [if_neg c9, if_neg (fun q => c9 (hq.mp q))]
        rw [hr]
        by_cases c : wyM sa f t (n % 4) (sa (24 + (96 * f + n))) (sa (24 + (96 * t + n))) = 0
        · rw [if_pos c]
        · rw [if_neg c, if_neg (by omega), if_neg (by omega), if_neg (by omega)]
    · rw [mcM_n1, hth, how, hw.2.1, i5, sm9, Nat.add_assoc]
    · rw [mcM_n2, hth, how, hw.2.2, i6, sm9, Nat.add_assoc]
theorem mcM_f9 {sa : Nat → Int32} {f t : Nat} {z : Nat × Nat} : ∀ n,
    (mcM false f t (sa, z) n).2.1 = z.1 + sm9 (fun k => waM sa t (k % 4) (sa (24 + (96 * f + k))) (sa (24 + (96 * t + k)))) n ∧
    (mcM false f t (sa, z) n).2.2 = z.2 + sm9 (fun k => wrM sa f (k % 4) (sa (24 + (96 * f + k))) (sa (24 + (96 * t + k)))) n
  | 0 => ⟨rfl, rfl⟩
  | n + 1 => by
    obtain ⟨i1, i2⟩ := mcM_f9 (sa := sa) (f := f) (t := t) (z := z) n
    rw [mcM_n1, mcM_n2, mcM_f, i1, i2, sm9, sm9, Nat.add_assoc, Nat.add_assoc]
    exact ⟨rfl, rfl⟩
theorem meM_s (f t k : Nat) (x : (Nat → Int32) × Nat × Nat) : (meM true f t x (k + 1)).1 = upd (meM true f t x k).1 (888 + 384 * t + k) (if wyM (meM true f t x k).1 f t (k % 4) ((meM true f t x k).1 (888 + 384 * f + k)) ((meM true f t x k).1 (888 + 384 * t + k)) ≤ 0 then (if 0 ≤ wyM (meM true f t x k).1 f t (k % 4) ((meM true f t x k).1 (888 + 384 * f + k)) ((meM true f t x k).1 (888 + 384 * t + k)) then (meM true f t x k).1 (888 + 384 * t + k) else nI 0) else (meM true f t x k).1 (888 + 384 * f + k)) := by rw [meM]; rfl
theorem meM_n1 (d : Bool) (f t k : Nat) (x : (Nat → Int32) × Nat × Nat) : (meM d f t x (k + 1)).2.1 = (meM d f t x k).2.1 + waM (meM d f t x k).1 t (k % 4) ((meM d f t x k).1 (888 + 384 * f + k)) ((meM d f t x k).1 (888 + 384 * t + k)) := by rw [meM]
theorem meM_n2 (d : Bool) (f t k : Nat) (x : (Nat → Int32) × Nat × Nat) : (meM d f t x (k + 1)).2.2 = (meM d f t x k).2.2 + wrM (meM d f t x k).1 f (k % 4) ((meM d f t x k).1 (888 + 384 * f + k)) ((meM d f t x k).1 (888 + 384 * t + k)) := by rw [meM]
theorem meM_at {sa : Nat → Int32} {f t : Nat} {z : Nat × Nat} (hf : f < 4) (ht : t < 4) (hne : f ≠ t) : ∀ n, n ≤ 384 →
    (∀ p, ¬ (888 + 384 * t ≤ p ∧ p < 888 + 384 * t + n) → (meM true f t (sa, z) n).1 p = sa p) ∧
    (∀ k, k < n → (meM true f t (sa, z) n).1 (888 + 384 * t + k) = (if wyM sa f t (k % 4) (sa (888 + 384 * f + k)) (sa (888 + 384 * t + k)) ≤ 0 then (if 0 ≤ wyM sa f t (k % 4) (sa (888 + 384 * f + k)) (sa (888 + 384 * t + k)) then sa (888 + 384 * t + k) else nI 0) else sa (888 + 384 * f + k))) ∧
    (meM true f t (sa, z) n).2.1 = z.1 + sm9 (fun k => waM sa t (k % 4) (sa (888 + 384 * f + k)) (sa (888 + 384 * t + k))) n ∧
    (meM true f t (sa, z) n).2.2 = z.2 + sm9 (fun k => wrM sa f (k % 4) (sa (888 + 384 * f + k)) (sa (888 + 384 * t + k))) n
  | 0, _ => ⟨fun _ _ => rfl, fun o h => absurd h (Nat.not_lt_zero o), rfl, rfl⟩
  | n + 1, hn => by
    obtain ⟨i1, i2, i5, i6⟩ := meM_at (sa := sa) (z := z) hf ht hne n (by omega)
    have hth := i1 (888 + 384 * f + n) (by omega)
    have how := i1 (888 + 384 * t + n) (by omega)
    have hw := wyM_cg (sa := (meM true f t (sa, z) n).1) (sb := sa) (f := f) (t := t) (k := n % 4) (i1 _ (by omega)) (i1 _ (by omega)) (sa (888 + 384 * f + n)) (sa (888 + 384 * t + n))
    have hs := meM_s f t n (sa, z)
    rw [hth, how, hw.1] at hs
    rw [hs]
    refine ⟨fun p h1 => ?_, fun k hk => ?_, ?_, ?_⟩
    · rw [pk_un (by omega)]; exact i1 p (by omega)
    · by_cases e : k = n
      · rw [e, pk_us]
      · rw [pk_un (by omega)]; exact i2 k (by omega)
    · rw [meM_n1, hth, how, hw.2.1, i5, sm9, Nat.add_assoc]
    · rw [meM_n2, hth, how, hw.2.2, i6, sm9, Nat.add_assoc]
theorem meM_f9 {sa : Nat → Int32} {f t : Nat} {z : Nat × Nat} : ∀ n,
    (meM false f t (sa, z) n).2.1 = z.1 + sm9 (fun k => waM sa t (k % 4) (sa (888 + 384 * f + k)) (sa (888 + 384 * t + k))) n ∧
    (meM false f t (sa, z) n).2.2 = z.2 + sm9 (fun k => wrM sa f (k % 4) (sa (888 + 384 * f + k)) (sa (888 + 384 * t + k))) n
  | 0 => ⟨rfl, rfl⟩
  | n + 1 => by
    obtain ⟨i1, i2⟩ := meM_f9 (sa := sa) (f := f) (t := t) (z := z) n
    rw [meM_n1, meM_n2, meM_f, i1, i2, sm9, sm9]
    exact ⟨Nat.add_assoc _ _ _, Nat.add_assoc _ _ _⟩
-- both sides' ways
theorem way_c {B : Nat} (hB : B < 2 ^ 31) {sa : Nat → Int32} {f t k : Nat} {nf nt xf xt : Int32} (h1 : smN B nf) (h2 : smN B nt) (h3 : xt = sa (0 + 4 * t + k)) (h4 : xf = sa (0 + 4 * f + k)) {P Q : Prop} [Decidable P] [Decidable Q] (hP : P ↔ (¬ nf = 0 ∧ ¬ nf = nt ∧ xt < nf)) (hQ : Q ↔ (¬ nt = 0 ∧ ¬ nt = nf ∧ nt ≤ xf)) :
    waM sa t k nf nt = (if P then 1 else 0) ∧ wrM sa f k nf nt = (if Q then 1 else 0) ∧ ((P ∧ wyM sa f t k nf nt = nI 1) ∨ (¬ P ∧ Q ∧ wyM sa f t k nf nt = -1) ∨ (¬ P ∧ ¬ Q ∧ wyM sa f t k nf nt = nI 0)) := by
  subst h3; subst h4
  have ha : coP sa t k nf ↔ (¬ nf = 0 ∧ sa (0 + 4 * t + k) < nf) := by
    show (¬ nf ≤ 0 ∧ ¬ nf ≤ sa (0 + 4 * t + k)) ↔ _
    rw [sm_le0 h1 hB, Int32.not_le]
  have hr : goP sa f k nt ↔ (¬ nt = 0 ∧ nt ≤ sa (0 + 4 * f + k)) := by
    show (¬ nt ≤ 0 ∧ ¬ sa (0 + 4 * f + k) < nt) ↔ _
    rw [sm_le0 h2 hB, Int32.not_lt]
  unfold waM wrM wyM
  by_cases e : nf = nt
  · have np : ¬ P := fun z => (hP.mp z).2.1 e
    have nq : ¬ Q := fun z => (hQ.mp z).2.1 e.symm
    rw [if_pos e, if_pos e, if_pos e, if_neg np, if_neg nq]
    exact ⟨rfl, rfl, Or.inr (Or.inr ⟨np, nq, rfl⟩)⟩
  · have hp : P ↔ coP sa t k nf := hP.trans ⟨fun z => ha.mpr ⟨z.1, z.2.2⟩, fun z => ⟨(ha.mp z).1, e, (ha.mp z).2⟩⟩
    have hq : Q ↔ goP sa f k nt := hQ.trans ⟨fun z => hr.mpr ⟨z.1, z.2.2⟩, fun z => ⟨(hr.mp z).1, fun y => e y.symm, (hr.mp z).2⟩⟩
    rw [if_neg e, if_neg e, if_neg e]
    by_cases p9 : P
    · rw [if_pos (hp.mp p9), if_pos p9, if_pos (hp.mp p9)]
      by_cases q9 : Q
      · rw [if_pos (hq.mp q9), if_pos q9]; exact ⟨rfl, rfl, Or.inl ⟨p9, rfl⟩⟩
      · rw [if_neg (fun z => q9 (hq.mpr z)), if_neg q9]; exact ⟨rfl, rfl, Or.inl ⟨p9, rfl⟩⟩
    · rw [if_neg (fun z => p9 (hp.mpr z)), if_neg p9, if_neg (fun z => p9 (hp.mpr z))]
      by_cases q9 : Q
      · rw [if_pos (hq.mp q9), if_pos q9, if_pos (hq.mp q9)]; exact ⟨rfl, rfl, Or.inr (Or.inl ⟨p9, q9, rfl⟩)⟩
      · rw [if_neg (fun z => q9 (hq.mpr z)), if_neg q9, if_neg (fun z => q9 (hq.mpr z))]; exact ⟨rfl, rfl, Or.inr (Or.inr ⟨p9, q9, rfl⟩)⟩
