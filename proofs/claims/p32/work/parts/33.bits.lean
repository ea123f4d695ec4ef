/-! bits -/
def bt (x : Int32) (i : Nat) : Bool := x.toBitVec.getLsbD i
theorem bt_ext {x y : Int32} (h : ∀ i, i < 32 → bt x i = bt y i) : x = y := Int32.toBitVec_inj.mp (BitVec.eq_of_getLsbD_eq fun i hi => h i hi)
theorem bt_or (x y : Int32) (i : Nat) : bt (x ||| y) i = (bt x i || bt y i) := by
  unfold bt; rw [Int32.toBitVec_or, BitVec.getLsbD_or]
theorem bt_and (x y : Int32) (i : Nat) : bt (x &&& y) i = (bt x i && bt y i) := by
  unfold bt; rw [Int32.toBitVec_and, BitVec.getLsbD_and]
theorem bt_xor (x y : Int32) (i : Nat) : bt (x ^^^ y) i = (bt x i ^^ bt y i) := by
  unfold bt; rw [Int32.toBitVec_xor, BitVec.getLsbD_xor]
theorem bt_0 : ∀ i, i < 32 → bt (nI 0) i = false := by decide +kernel
theorem bt_m1 : ∀ i, i < 32 → bt (-1) i = true := by decide +kernel
theorem bt_one : ∀ e, e < 16 → ∀ i, i < 32 → bt (nI 1 <<< (nI e &&& 31)) i = decide (i = e) := by decide +kernel
theorem sh_31 : ∀ e, e < 16 → ((nI e &&& 31).toBitVec.smod 32).toNat = e := by decide +kernel
theorem bt_shr (x : Int32) {e : Nat} (he : e < 16) {i : Nat} (hi : i + e < 32) : bt (x >>> (nI e &&& 31)) i = bt x (i + e) := by
  unfold bt
  rw [Int32.toBitVec_shiftRight]
  show (BitVec.sshiftRight x.toBitVec ((nI e &&& 31).toBitVec.smod 32).toNat).getLsbD i = _
  rw [sh_31 e he, BitVec.getLsbD_sshiftRight, if_pos (by omega), Nat.add_comm e i, decide_eq_false (by omega)]
  rfl
theorem bt_1 : ∀ i, i < 32 → bt (nI 1) i = decide (i = 0) := by decide +kernel
/-- the bit e of x -/
theorem bit_at (x : Int32) {e : Nat} (he : e < 16) : (x >>> (nI e &&& 31)) &&& nI 1 = if bt x e = true then nI 1 else nI 0 := by
  apply bt_ext
  intro i hi
  rw [bt_and, bt_1 i hi]
  by_cases h0 : i = 0
  · subst h0
    rw [bt_shr x he (by omega), Nat.zero_add]
    by_cases c : bt x e = true
    · rw [if_pos c, c, bt_1 0 (by decide)]; rfl
    · rw [if_neg c, bt_0 0 (by decide), Bool.eq_false_iff.mpr c]; rfl
  · rw [decide_eq_false h0, Bool.and_false]
    by_cases c : bt x e = true
    · rw [if_pos c, bt_1 i hi, decide_eq_false h0]
    · rw [if_neg c, bt_0 i hi]
/-- the bits of a set: the groups that hold something -/
theorem ebE_bt {st : St} {a : Nat} : ∀ n, n ≤ 64 → (∀ k, k < n → ¬ st.1 (a + k) = 0 → st.2.2.1 (a + k) = nI (k / 4)) → ∀ i, i < 32 → (bt (ebE st a n) i = true ↔ ∃ k, k < n ∧ k / 4 = i ∧ ¬ st.1 (a + k) = 0)
  | 0, _, _ => fun i hi => by
    show bt (nI 0) i = true ↔ _
    rw [bt_0 i hi]
    exact ⟨fun z => absurd z (by decide), fun ⟨k, hk, _⟩ => absurd hk (Nat.not_lt_zero k)⟩
  | n + 1, hn, hv => fun i hi => by
    have ih := ebE_bt (st := st) (a := a) n (by omega) (fun k hk => hv k (by omega)) i hi
    rw [ebE]
    by_cases z : st.1 (a + n) = 0
    · rw [if_pos z, ih]
      constructor
      · rintro ⟨k, hk, h2, h3⟩
        exact ⟨k, by omega, h2, h3⟩
      · rintro ⟨k, hk, h2, h3⟩
        by_cases e : k = n
        · rw [e] at h3; exact absurd z h3
        · exact ⟨k, by omega, h2, h3⟩
    · rw [if_neg z, hv n (by omega) z, bt_or, bt_one (n / 4) (by omega) i hi, Bool.or_eq_true, ih, decide_eq_true_eq]
      constructor
      · rintro (⟨k, hk, h2, h3⟩ | h)
        · exact ⟨k, by omega, h2, h3⟩
        · exact ⟨n, by omega, h.symm, z⟩
      · rintro ⟨k, hk, h2, h3⟩
        by_cases e : k = n
        · rw [e] at h2; exact Or.inr h2.symm
        · exact Or.inl ⟨k, by omega, h2, h3⟩
theorem bt_or1 {x y : Int32} {e : Nat} (he : e < 16) (h : ∀ i, i < 32 → (bt y i = true ↔ (bt x i = true ∨ i = e))) : y = x ||| (nI 1 <<< (nI e &&& 31)) := by
  apply bt_ext
  intro i hi
  rw [bt_or, bt_one e he i hi]
  have := h i hi
  by_cases c : i = e
  · rw [decide_eq_true c, Bool.or_true]; exact this.mpr (Or.inr c)
  · rw [decide_eq_false c, Bool.or_false]
    cases hx : bt x i
    · exact Bool.eq_false_iff.mpr fun z => (this.mp z).elim (fun y => by rw [hx] at y; exact absurd y (by decide)) c
    · exact this.mpr (Or.inl hx)
theorem bt_an1 {x y : Int32} {e : Nat} (he : e < 16) (h : ∀ i, i < 32 → (bt y i = true ↔ (bt x i = true ∧ ¬ i = e))) : y = x &&& ((nI 1 <<< (nI e &&& 31)) ^^^ (-1)) := by
  apply bt_ext
  intro i hi
  rw [bt_and, bt_xor, bt_one e he i hi, bt_m1 i hi]
  have := h i hi
  by_cases c : i = e
  · rw [decide_eq_true c, Bool.xor_self, Bool.and_false]
    exact Bool.eq_false_iff.mpr fun z => (this.mp z).2 c
  · rw [decide_eq_false c, Bool.false_xor, Bool.and_true]
    cases hx : bt x i
    · exact Bool.eq_false_iff.mpr fun z => by have := (this.mp z).1; rw [hx] at this; exact absurd this (by decide)
    · exact this.mpr ⟨hx, c⟩
