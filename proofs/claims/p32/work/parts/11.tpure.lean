/-! texts: what the readers of both sides do -/
abbrev wT (cC : ClassId) (t9 : Nat → Nat) (tx : Nat → Nat) (ln po : Nat) (ki rp tg nu : Int32) : va_W := [(t9 0, .inr (2, [.ref (t9 1), .int (nI ln), .int (nI po), .int ki, .int rp, .int tg, .int nu])), (t9 1, .inl (cC, 80, .inl (fun i => nI (tx i))))]
abbrev inP (x lo hi : Int32) : Prop := lo ≤ x ∧ x ≤ hi
theorem inP_n {a lo hi : Nat} (h1 : lo ≤ a) (h2 : a ≤ hi) (h3 : hi < 2 ^ 31) : inP (nI a) (nI lo) (nI hi) := ⟨nI_le h1 (by omega), nI_le h2 h3⟩
