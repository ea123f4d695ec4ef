/-! the class's state as a value, and what its methods do to it -/
/-- numbers, stamps, values, seen numbers, clocks, result of the latest merge -/
abbrev St : Type := (Nat → Int32) × (Nat → Int32) × (Nat → Int32) × (Nat → Int32) × (Nat → Int32) × (Nat → Int32)
/-- a state's seven cells: the object at q 0, its arrays at q 1 to q 6 -/
abbrev wS (cI : ClassId) (q : Nat → Nat) (st : St) : va_W := [(q 0, .inr (1, [.ref (q 1), .ref (q 2), .ref (q 3), .ref (q 4), .ref (q 5), .ref (q 6)])), (q 1, .inl (cI, 1920, .inl st.1)), (q 2, .inl (cI, 1920, .inl st.2.1)), (q 3, .inl (cI, 1920, .inl st.2.2.1)), (q 4, .inl (cI, 16, .inl st.2.2.2.1)), (q 5, .inl (cI, 4, .inl st.2.2.2.2.1)), (q 6, .inl (cI, 4, .inl st.2.2.2.2.2))]
theorem lv_rep {ls : Array Slot} {nL : Nat} {l : List (Nat × Value)} (h : lv_has ls nL l) (k : Nat) {i : Nat} {v w : Value} (hk : l[k]? = some (i, v)) (e : v = w) : lv_has ls nL (l.set k (i, w)) := by
  subst e
  have : l.set k (i, v) = l := by
    apply List.ext_getElem?
    intro j
    by_cases hj : j = k
    · subst hj
      have hl := (List.getElem?_eq_some_iff.mp hk).1
      rw [List.getElem?_set_self hl, hk]
    · rw [List.getElem?_set_ne (Ne.symm hj)]
  rw [this]; exact h
theorem ret1 {P : Prop} [Decidable P] (h : P) : nI 1 = b2 P := (b2_t h).symm
theorem ret0 {P : Prop} [Decidable P] (h : ¬ P) : nI 0 = b2 P := (b2_f h).symm
theorem pk_subm {a b : Nat} (h : b ≤ a) : nI a + -nI b = nI (a - b) := by
  rw [← pk_sub h, Int32.sub_eq_add_neg]
def mx (x y : Int32) : Int32 := if x < y then y else x
/-- how many of the n places from a on aren't 0 -/
def cntE (f : Nat → Int32) (a : Nat) : Nat → Nat
  | 0 => 0
  | k + 1 => cntE f a k + if f (a + k) = 0 then 0 else 1
theorem cntE_le (f : Nat → Int32) (a : Nat) : ∀ n, cntE f a n ≤ n
  | 0 => Nat.le_refl 0
  | n + 1 => by
    have := cntE_le f a n
    unfold cntE; split <;> omega
/-- how many of the first n places hold P -/
def cntP (P : Nat → Prop) [DecidablePred P] : Nat → Nat
  | 0 => 0
  | k + 1 => cntP P k + if P k then 1 else 0
theorem cntP_le (P : Nat → Prop) [DecidablePred P] : ∀ n, cntP P n ≤ n
  | 0 => Nat.le_refl 0
  | n + 1 => by
    have := cntP_le P n
    unfold cntP; split <;> omega
/-- the places from a on, as many as n, made 0 -/
def clrE (f : Nat → Int32) (a n : Nat) : Nat → Int32 := fun i => if a ≤ i ∧ i < a + n then 0 else f i
theorem clrE_0 (f : Nat → Int32) (a : Nat) : clrE f a 0 = f := by
  funext i; unfold clrE; rw [if_neg (by omega)]
theorem clrE_s (f : Nat → Int32) (a n : Nat) : upd (clrE f a n) (a + n) 0 = clrE f a (n + 1) := by
  funext i
  show (if i = a + n then 0 else if a ≤ i ∧ i < a + n then 0 else f i) = if a ≤ i ∧ i < a + (n + 1) then 0 else f i
  by_cases h : i = a + n
  · rw [if_pos h, if_pos (by omega)]
  · rw [if_neg h]
    by_cases h2 : a ≤ i ∧ i < a + n
    · rw [if_pos h2, if_pos (by omega)]
    · rw [if_neg h2, if_neg (by omega)]
/-- the group behind a column's last one -/
def cE (g : Nat) : Nat := if g = 4 then 20 else g + 1
theorem cE_b (g : Nat) (h : g < 5) : g + 1 ≤ cE g ∧ cE g ≤ 20 ∧ cE g - g ≤ 16 := by unfold cE; split <;> omega
abbrev sl (r w g : Nat) : Nat := r * 480 + w * 80 + g * 4
def begU (st : St) (r : Nat) : St := (st.1, st.2.1, st.2.2.1, upd st.2.2.2.1 (r * 4 + r) (st.2.2.2.1 (r * 4 + r) + nI 1), upd st.2.2.2.2.1 r (st.2.2.2.2.1 r + nI 1), st.2.2.2.2.2)
def mkE (st : St) (r w g : Nat) (v : Int32) : St := (upd st.1 (r * 480 + w * 80 + g * 4 + r) (st.2.2.2.1 (r * 4 + r)), upd st.2.1 (r * 480 + w * 80 + g * 4 + r) (st.2.2.2.2.1 r), upd st.2.2.1 (r * 480 + w * 80 + g * 4 + r) v, st.2.2.2.1, st.2.2.2.2.1, st.2.2.2.2.2)
def clrS (st : St) (a n : Nat) : St := (clrE st.1 a n, st.2.1, st.2.2.1, st.2.2.2.1, st.2.2.2.2.1, st.2.2.2.2.2)
/-- the greatest value among n entries -/
def grE (st : St) (a : Nat) : Nat → Int32
  | 0 => -1
  | k + 1 => if st.1 (a + k) = 0 then grE st a k else mx (grE st a k) (st.2.2.1 (a + k))
def smE (st : St) (a : Nat) : Nat → Int32
  | 0 => nI 0
  | k + 1 => if st.1 (a + k) = 0 then smE st a k else smE st a k + st.2.2.1 (a + k)
def ebE (st : St) (a : Nat) : Nat → Int32
  | 0 => nI 0
  | k + 1 => if st.1 (a + k) = 0 then ebE st a k else ebE st a k ||| (nI 1 <<< (st.2.2.1 (a + k) &&& 31))
/-- the greatest stamp so far, and its value -/
def ltE (st : St) (a : Nat) : Nat → Int32 × Int32
  | 0 => (nI 0, -1)
  | k + 1 => if st.1 (a + k) = 0 then ltE st a k else if st.2.1 (a + k) < (ltE st a k).1 then ltE st a k else (st.2.1 (a + k), st.2.2.1 (a + k))
abbrev befP (st : St) (i j : Nat) : Prop := st.2.2.1 i < st.2.2.1 j ∨ (st.2.2.1 i = st.2.2.1 j ∧ i < j)
def rkE (st : St) (a j : Nat) : Nat → Nat
  | 0 => 0
  | k + 1 => rkE st a j k + if ¬ st.1 (a + k) = 0 ∧ befP st (a + k) j then 1 else 0
theorem rkE_le (st : St) (a j : Nat) : ∀ n, rkE st a j n ≤ n
  | 0 => Nat.le_refl 0
  | n + 1 => by
    have := rkE_le st a j n
    unfold rkE; split <;> omega
/-- the first of the n entries from the i-th on that stands at the place x of the order -/
def sbE (st : St) (a m : Nat) (x : Int32) : Nat → Nat → Int32
  | 0, _ => -1
  | n + 1, i => if ¬ st.1 (a + i) = 0 ∧ nI (rkE st a (a + i) m) = x then st.2.2.1 (a + i) else sbE st a m x n (i + 1)
abbrev addP (st : St) (f t o : Nat) : Prop := ¬ st.1 (f * 480 + o) = 0 ∧ ¬ st.1 (f * 480 + o) = st.1 (t * 480 + o) ∧ st.2.2.2.1 (t * 4 + o % 4) < st.1 (f * 480 + o)
abbrev remP (st : St) (f t o : Nat) : Prop := ¬ st.1 (t * 480 + o) = 0 ∧ ¬ st.1 (t * 480 + o) = st.1 (f * 480 + o) ∧ st.1 (t * 480 + o) ≤ st.2.2.2.1 (f * 4 + o % 4)
def mSlot (st : St) (f t o : Nat) : St :=
  if addP st f t o then (upd st.1 (t * 480 + o) (st.1 (f * 480 + o)), upd st.2.1 (t * 480 + o) (st.2.1 (f * 480 + o)), upd st.2.2.1 (t * 480 + o) (st.2.2.1 (f * 480 + o)), st.2.2.2.1, st.2.2.2.2.1, st.2.2.2.2.2)
  else if remP st f t o then (upd st.1 (t * 480 + o) (nI 0), st.2.1, st.2.2.1, st.2.2.2.1, st.2.2.2.2.1, st.2.2.2.2.2)
  else st
def mIt (st : St) (f t : Nat) : Nat → St
  | 0 => st
  | k + 1 => mSlot (mIt st f t k) f t k
def knE (se : Nat → Int32) (f t : Nat) : Nat → Nat → Int32
  | 0 => se
  | k + 1 => upd (knE se f t k) (t * 4 + k) (mx (knE se f t k (f * 4 + k)) (knE se f t k (t * 4 + k)))
def mKn (st : St) (f t : Nat) : St := (st.1, st.2.1, st.2.2.1, knE st.2.2.2.1 f t 4, upd st.2.2.2.2.1 t (mx (st.2.2.2.2.1 f) (st.2.2.2.2.1 t)), st.2.2.2.2.2)
def mRes (f : Nat → Int32) (a b c d : Int32) : Nat → Int32 := upd (upd (upd (upd f 0 a) 1 b) 2 c) 3 d
def mgS (st : St) (f t : Nat) : St :=
  let s1 := mKn (mIt st f t 480) f t
  (s1.1, s1.2.1, s1.2.2.1, s1.2.2.2.1, s1.2.2.2.2.1, mRes s1.2.2.2.2.2 (nI f) (nI t) (nI (cntP (fun o => addP st f t o) 480)) (nI (cntP (fun o => remP st f t o) 480)))
abbrev knP (st : St) (a b : Nat) : Prop := ∀ o, o < 4 → ¬ st.2.2.2.1 (a * 4 + o) < st.2.2.2.1 (b * 4 + o)
abbrev agP (st : St) (w g : Nat) : Prop := ∀ k, k < cE g * 4 - g * 4 → ∀ r, r < 4 → st.1 (0 * 480 + w * 80 + g * 4 + k) = st.1 (r * 480 + (0 * 480 + w * 80 + g * 4 + k))
def putS (st : St) (r w g : Nat) (v : Int32) : St :=
  let s1 := begU st r
  let x := if g = 2 then mx v (grE s1 (r * 480 + w * 80 + 2 * 4) 4) else v
  mkE (clrS s1 (r * 480 + w * 80 + g * 4) 4) r w g x
def addS (st : St) (r w : Nat) (v : Int32) : St :=
  let s1 := begU st r
  mkE s1 r w 3 ((if s1.1 (r * 480 + w * 80 + 3 * 4 + r) = 0 then nI 0 else s1.2.2.1 (r * 480 + w * 80 + 3 * 4 + r)) + v)
def incS (st : St) (r w e : Nat) : St := mkE (clrS (begU st r) (r * 480 + w * 80 + (4 + e) * 4) 4) r w (4 + e) (nI e)
def excS (st : St) (r w e : Nat) : St := clrS (begU st r) (r * 480 + w * 80 + (4 + e) * 4) 4
def delS (st : St) (r w : Nat) : St := clrS (begU st r) (r * 480 + w * 80 + 0 * 4) 80
theorem rkE_p {st : St} {a j k : Nat} (h : ¬ st.1 (a + k) = 0) (h2 : befP st (a + k) j) : rkE st a j k + 1 = rkE st a j (k + 1) := by
  simp only [rkE]; rw [if_pos ⟨h, h2⟩]
theorem rkE_n1 {st : St} {a j k : Nat} (h : st.1 (a + k) = 0) : rkE st a j k = rkE st a j (k + 1) := by
  simp only [rkE]; rw [if_neg (fun z => z.1 h), Nat.add_zero]
theorem rkE_n2 {st : St} {a j k : Nat} (h : ¬ befP st (a + k) j) : rkE st a j k = rkE st a j (k + 1) := by
  simp only [rkE]; rw [if_neg (fun z => h z.2), Nat.add_zero]
theorem kc_bipush_m99 : (Int8.ofInt (-99)).toInt32 = (-99) := by decide +kernel
theorem kc_bipush_6 : (Int8.ofInt (6)).toInt32 = nI 6 := by decide +kernel
theorem kc_bipush_9 : (Int8.ofInt (9)).toInt32 = nI 9 := by decide +kernel
theorem kc_bipush_10 : (Int8.ofInt (10)).toInt32 = nI 10 := by decide +kernel
theorem kc_bipush_15 : (Int8.ofInt (15)).toInt32 = nI 15 := by decide +kernel
theorem kc_bipush_16 : (Int8.ofInt (16)).toInt32 = nI 16 := by decide +kernel
theorem kc_bipush_20 : (Int8.ofInt (20)).toInt32 = nI 20 := by decide +kernel
theorem kc_bipush_21 : (Int8.ofInt (21)).toInt32 = nI 21 := by decide +kernel
theorem kc_bipush_22 : (Int8.ofInt (22)).toInt32 = nI 22 := by decide +kernel
theorem kc_bipush_23 : (Int8.ofInt (23)).toInt32 = nI 23 := by decide +kernel
theorem kc_bipush_24 : (Int8.ofInt (24)).toInt32 = nI 24 := by decide +kernel
theorem kc_bipush_30 : (Int8.ofInt (30)).toInt32 = nI 30 := by decide +kernel
theorem kc_bipush_31 : (Int8.ofInt (31)).toInt32 = nI 31 := by decide +kernel
theorem kc_bipush_32 : (Int8.ofInt (32)).toInt32 = nI 32 := by decide +kernel
theorem kc_bipush_44 : (Int8.ofInt (44)).toInt32 = nI 44 := by decide +kernel
theorem kc_bipush_45 : (Int8.ofInt (45)).toInt32 = nI 45 := by decide +kernel
theorem kc_bipush_48 : (Int8.ofInt (48)).toInt32 = nI 48 := by decide +kernel
theorem kc_bipush_57 : (Int8.ofInt (57)).toInt32 = nI 57 := by decide +kernel
theorem kc_bipush_59 : (Int8.ofInt (59)).toInt32 = nI 59 := by decide +kernel
theorem kc_bipush_64 : (Int8.ofInt (64)).toInt32 = nI 64 := by decide +kernel
theorem kc_bipush_80 : (Int8.ofInt (80)).toInt32 = nI 80 := by decide +kernel
theorem kc_bipush_96 : (Int8.ofInt (96)).toInt32 = nI 96 := by decide +kernel
theorem kc_bipush_97 : (Int8.ofInt (97)).toInt32 = nI 97 := by decide +kernel
theorem kc_bipush_99 : (Int8.ofInt (99)).toInt32 = nI 99 := by decide +kernel
theorem kc_bipush_100 : (Int8.ofInt (100)).toInt32 = nI 100 := by decide +kernel
theorem kc_bipush_101 : (Int8.ofInt (101)).toInt32 = nI 101 := by decide +kernel
theorem kc_bipush_105 : (Int8.ofInt (105)).toInt32 = nI 105 := by decide +kernel
theorem kc_bipush_109 : (Int8.ofInt (109)).toInt32 = nI 109 := by decide +kernel
theorem kc_bipush_126 : (Int8.ofInt (126)).toInt32 = nI 126 := by decide +kernel
theorem kc_iconst_m1 : Int32.ofInt (-1) = (-1) := by decide +kernel
theorem kc_iconst_0 : Int32.ofInt (0) = nI 0 := by decide +kernel
theorem kc_iconst_1 : Int32.ofInt (1) = nI 1 := by decide +kernel
theorem kc_iconst_2 : Int32.ofInt (2) = nI 2 := by decide +kernel
theorem kc_iconst_3 : Int32.ofInt (3) = nI 3 := by decide +kernel
theorem kc_iconst_4 : Int32.ofInt (4) = nI 4 := by decide +kernel
theorem kc_iconst_5 : Int32.ofInt (5) = nI 5 := by decide +kernel
theorem kc_sipush_384 : (Int16.ofInt (384)).toInt32 = nI 384 := by decide +kernel
theorem kc_sipush_408 : (Int16.ofInt (408)).toInt32 = nI 408 := by decide +kernel
theorem kc_sipush_480 : (Int16.ofInt (480)).toInt32 = nI 480 := by decide +kernel
theorem kc_sipush_792 : (Int16.ofInt (792)).toInt32 = nI 792 := by decide +kernel
theorem kc_sipush_888 : (Int16.ofInt (888)).toInt32 = nI 888 := by decide +kernel
theorem kc_sipush_999 : (Int16.ofInt (999)).toInt32 = nI 999 := by decide +kernel
theorem kc_sipush_1920 : (Int16.ofInt (1920)).toInt32 = nI 1920 := by decide +kernel
theorem kc_sipush_2424 : (Int16.ofInt (2424)).toInt32 = nI 2424 := by decide +kernel
theorem kc_sipush_16968 : (Int16.ofInt (16968)).toInt32 = nI 16968 := by decide +kernel
