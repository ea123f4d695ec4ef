/-! texts: what the readers of both sides do -/
abbrev wT (cC : ClassId) (t9 : Nat → Nat) (tx : Nat → Nat) (ln po : Nat) (ki rp tg nu : Int32) : va_W := [(t9 0, .inr (2, [.ref (t9 1), .int (nI ln), .int (nI po), .int ki, .int rp, .int tg, .int nu])), (t9 1, .inl (cC, 80, .inl (fun i => nI (tx i))))]
def sgN (tx : Nat → Nat) (ln p : Nat) : Nat := if p < ln then tx p else 0
def ncI (tx : Nat → Nat) (ln p : Nat) : Int32 := if p < ln then nI (tx p) else -1
def dgB (tx : Nat → Nat) (ln p d : Nat) : Bool := decide (48 ≤ sgN tx ln p ∧ sgN tx ln p ≤ 48 + d)
def dgI (tx : Nat → Nat) (ln p d : Nat) : Int32 := if dgB tx ln p d = true then nI (sgN tx ln p - 48) else -1
def nmB (tx : Nat → Nat) (ln p a : Nat) : Bool := decide (48 + a ≤ sgN tx ln p ∧ sgN tx ln p ≤ 57)
def kdB (c : Nat) : Bool := decide (c = 97 ∨ c = 100 ∨ c = 101 ∨ c = 103 ∨ c = 105 ∨ c = 108 ∨ c = 109 ∨ c = 118)
theorem sgN_lt {tx : Nat → Nat} (h : ∀ i, tx i < 127) (ln p : Nat) : sgN tx ln p < 127 := by
  unfold sgN; split
  · exact h p
  · omega
theorem sgN_in {tx : Nat → Nat} {ln p : Nat} (h : p < ln) : sgN tx ln p = tx p := if_pos h
theorem sgN_out {tx : Nat → Nat} {ln p : Nat} (h : ln ≤ p) : sgN tx ln p = 0 := if_neg (Nat.not_lt.mpr h)
theorem dgB_iff {tx : Nat → Nat} {ln p d : Nat} : dgB tx ln p d = true ↔ 48 ≤ sgN tx ln p ∧ sgN tx ln p ≤ 48 + d := by unfold dgB; exact decide_eq_true_iff
theorem nmB_iff {tx : Nat → Nat} {ln p a : Nat} : nmB tx ln p a = true ↔ 48 + a ≤ sgN tx ln p ∧ sgN tx ln p ≤ 57 := by unfold nmB; exact decide_eq_true_iff
theorem dgI_t {tx : Nat → Nat} {ln p d : Nat} (h : dgB tx ln p d = true) : dgI tx ln p d = nI (sgN tx ln p - 48) := if_pos h
theorem dgI_f {tx : Nat → Nat} {ln p d : Nat} (h : ¬ dgB tx ln p d = true) : dgI tx ln p d = -1 := if_neg h
theorem nc_eq {tx : Nat → Nat} {ln p c : Nat} (ht : ∀ i, tx i < 127) (h0 : 0 < c) (h1 : c < 2 ^ 31) : ncI tx ln p = nI c ↔ sgN tx ln p = c := by
  unfold ncI sgN
  split
  · exact nI_eq (by have := ht p; omega) h1
  · constructor
    · intro z; exact absurd z.symm (nI_m1 h1)
    · intro z; omega
theorem dec_in {a lo hi : Nat} (h0 : a < 2 ^ 31) (h1 : lo < 2 ^ 31) (h2 : hi < 2 ^ 31) {b : Bool} (h : b = true ↔ lo ≤ a ∧ a ≤ hi) (hb : b = true) : inP (nI a) (nI lo) (nI hi) := (inP_iff h0 h1 h2).mpr (h.mp hb)
theorem dec_no {a lo hi : Nat} (h0 : a < 2 ^ 31) (h1 : lo < 2 ^ 31) (h2 : hi < 2 ^ 31) {b : Bool} (h : b = true ↔ lo ≤ a ∧ a ≤ hi) (hb : ¬ b = true) : ¬ inP (nI a) (nI lo) (nI hi) := fun z => hb (h.mpr ((inP_iff h0 h1 h2).mp z))
def nmF (tx : Nat → Nat) (ln m : Nat) : Nat → Nat → Nat → Nat × Nat
  | 0, p, n => (p, n)
  | f + 1, p, n => if 0 < n ∧ dgB tx ln p 9 = true ∧ n * 10 + (sgN tx ln p - 48) ≤ m then nmF tx ln m f (p + 1) (n * 10 + (sgN tx ln p - 48)) else (p, n)
abbrev nmR (tx : Nat → Nat) (ln p m : Nat) : Nat × Nat := nmF tx ln m 3 (p + 1) (sgN tx ln p - 48)
def nmV (tx : Nat → Nat) (ln p : Nat) : Nat → Nat
  | 0 => sgN tx ln p - 48
  | k + 1 => nmV tx ln p k * 10 + (sgN tx ln (p + 1 + k) - 48)
theorem nmF_s {tx : Nat → Nat} {ln m f f' p n : Nat} (hf : f = f' + 1) (h1 : 0 < n) (h2 : dgB tx ln p 9 = true) (h3 : n * 10 + (sgN tx ln p - 48) ≤ m) : nmF tx ln m f p n = nmF tx ln m f' (p + 1) (n * 10 + (sgN tx ln p - 48)) := by
  subst hf
  rw [nmF, if_pos ⟨h1, h2, h3⟩]
theorem nmF_x {tx : Nat → Nat} {ln m f p n : Nat} (h : ¬ (0 < n ∧ dgB tx ln p 9 = true ∧ n * 10 + (sgN tx ln p - 48) ≤ m)) : nmF tx ln m f p n = (p, n) := by
  cases f with
  | zero => rfl
  | succ f => rw [nmF, if_neg h]
theorem nmF_z {tx : Nat → Nat} {ln m f p n : Nat} (h : n = 0) : nmF tx ln m f p n = (p, n) := nmF_x (fun z => by omega)
theorem nmF_d {tx : Nat → Nat} {ln m f p n : Nat} (h : ¬ dgB tx ln p 9 = true) : nmF tx ln m f p n = (p, n) := nmF_x (fun z => h z.2.1)
theorem nmF_m {tx : Nat → Nat} {ln m f p n : Nat} (h : m < n * 10 + (sgN tx ln p - 48)) : nmF tx ln m f p n = (p, n) := nmF_x (fun z => by omega)
def mfN (c : Nat) : Nat := if c = 105 ∨ c = 101 then 15 else 999
theorem mfN_b (c : Nat) : mfN c ≤ 999 := by unfold mfN; split <;> omega
abbrev p1N (tx : Nat → Nat) (ln p : Nat) : Nat := p + (if sgN tx ln p = 45 then 1 else 0)
/-- an amount: read or not, to where, what -/
def arA (tx : Nat → Nat) (ln p : Nat) : Bool × Nat × Int32 := (nmB tx ln (p1N tx ln p) 1, if nmB tx ln (p1N tx ln p) 1 = true then (nmR tx ln (p1N tx ln p) 99).1 else p1N tx ln p, if sgN tx ln p = 45 then -nI (nmR tx ln (p1N tx ln p) 99).2 else nI (nmR tx ln (p1N tx ln p) 99).2)
def arN (tx : Nat → Nat) (ln p m : Nat) : Bool × Nat × Int32 := (nmB tx ln p 0, if nmB tx ln p 0 = true then (nmR tx ln p m).1 else p, nI (nmR tx ln p m).2)
def agR (tx : Nat → Nat) (ln p kc : Nat) : Bool × Nat × Int32 := if kc = 97 then arA tx ln p else arN tx ln p (mfN kc)
/-- the second replica of a merge -/
def roR (tx : Nat → Nat) (ln p fd : Nat) : Bool × Nat × Int32 := if dgB tx ln p 3 = true ∧ ¬ sgN tx ln p - 48 = fd then (true, p + 1, nI (sgN tx ln p - 48)) else (false, p, 0)
theorem roR_v {tx : Nat → Nat} {ln p fd : Nat} (h : (roR tx ln p fd).1 = true) : (roR tx ln p fd).2.2 = nI (sgN tx ln p - 48) := by
  unfold roR at h ⊢
  by_cases c : dgB tx ln p 3 = true ∧ ¬ sgN tx ln p - 48 = fd
  · rw [if_pos c]
  · rw [if_neg c] at h; exact absurd h Bool.false_ne_true
/-- what follows the letter kc: read or not, to where, the number -/
def rnC (tx : Nat → Nat) (ln p kc : Nat) : Bool × Nat × Int32 :=
  if dgB tx ln p 3 = true then
    if kc = 109 then roR tx ln (p + 1) (sgN tx ln p - 48)
    else if dgB tx ln (p + 1) 5 = true then
      if kc = 100 then (true, p + 1 + 1, 0)
      else if sgN tx ln (p + 1 + 1) = 44 then agR tx ln (p + 1 + 1 + 1) kc
      else (false, p + 1 + 1, 0)
    else (false, p + 1, 0)
  else (false, p, 0)
def rcC (tx : Nat → Nat) (ln p : Nat) : Bool × Nat × Int32 := if kdB (sgN tx ln p) = true then rnC tx ln (p + 1) (sgN tx ln p) else (false, p, 0)
def offK : Array Int := #[104, 119, 119, 104, 104, 119, 104, 119, 104, 119, 119, 104, 104, 119, 119, 119, 119, 119, 119, 119, 119, 104]
theorem offK_ok : ∀ i, i < 22 → offK[i]? = some (if kdB (97 + i) = true then 104 else 119) := by decide +kernel
def offK2 : Array Int := #[104, 116, 116, 104, 104, 116, 104, 116, 104, 116, 116, 104, 104, 116, 116, 116, 116, 116, 116, 116, 116, 104]
theorem offK2_ok : ∀ i, i < 22 → offK2[i]? = some (if kdB (97 + i) = true then 104 else 116) := by decide +kernel
theorem kdB_rng {c : Nat} (h : kdB c = true) : 97 ≤ c ∧ c ≤ 118 := by
  have := of_decide_eq_true h; omega
theorem sw_lo {c lo : Nat} (h : c < lo) (hc : c < 2 ^ 31) (hl : lo < 2 ^ 31) : (nI c).toInt < (lo : Int) := by rw [nI_toInt hc]; omega
theorem sw_at (of : Array Int) (n : Nat) {c : Nat} (hc : c < 2 ^ 31) (h : 97 ≤ c) {v : Int} (ho : of[c - 97]? = some v) : of[((nI c).toInt - 97).toNat]? = some v := by
  rw [nI_toInt hc, show ((c : Int) - 97).toNat = c - 97 by omega]; exact ho
theorem p1N_t {tx : Nat → Nat} {ln p : Nat} (h : sgN tx ln p = 45) : p1N tx ln p = p + 1 := by show p + _ = _; rw [if_pos h]
theorem p1N_f {tx : Nat → Nat} {ln p : Nat} (h : ¬ sgN tx ln p = 45) : p1N tx ln p = p := by show p + _ = _; rw [if_neg h]; rfl
theorem b2_bool {a b : Bool} (h : a = b) : b2 (a = true) = b2 (b = true) := by rw [h]
theorem kdB_pos {tx : Nat → Nat} {ln p : Nat} (h : kdB (sgN tx ln p) = true) : p < ln := by
  have h1 := (kdB_rng h).1
  unfold sgN at h1
  split at h1
  · assumption
  · omega
theorem nc_k {tx : Nat → Nat} {ln p : Nat} (h : kdB (sgN tx ln p) = true) : ncI tx ln p = nI (sgN tx ln p) := by
  have h1 := kdB_pos h
  rw [ncI, if_pos h1, sgN_in h1]
/-- the next command, and the semicolon before it -/
def rxC (tx : Nat → Nat) (ln p : Nat) : Bool × Nat × Int32 := if p = 0 then rcC tx ln p else if sgN tx ln p = 59 then rcC tx ln (p + 1) else (false, p, 0)
/-- where the next command begins -/
abbrev rxQ (p : Nat) : Nat := if p = 0 then p else p + 1
/-- the class's check of a text: valid or not, and where it ends -/
def vdC (tx : Nat → Nat) (ln : Nat) : Nat → Nat → Bool × Nat
  | 0, p => (false, p)
  | f + 1, p => if (rxC tx ln p).1 = true then (if (rxC tx ln p).2.1 = ln then (true, (rxC tx ln p).2.1) else vdC tx ln f (rxC tx ln p).2.1) else (false, (rxC tx ln p).2.1)
abbrev cmP (tx : Nat → Nat) (ln q : Nat) (ki rp tg nu : Int32) (c : Bool × Nat × Int32) : Prop := c.1 = true → ki = nI (sgN tx ln q) ∧ rp = nI (sgN tx ln (q + 1) - 48) ∧ tg = nI (sgN tx ln (q + 1 + 1) - 48) ∧ (sgN tx ln q ≠ 109 → sgN tx ln q ≠ 100 → nu = c.2.2)
/-- where the readers may stop -/
theorem nmF_le {tx : Nat → Nat} {ln m : Nat} (hl : ln ≤ 80) : ∀ f p n, p ≤ ln → (nmF tx ln m f p n).1 ≤ ln ∧ p ≤ (nmF tx ln m f p n).1
  | 0, p, n, h => ⟨h, Nat.le_refl _⟩
  | f + 1, p, n, h => by
    rw [nmF]
    by_cases c : 0 < n ∧ dgB tx ln p 9 = true ∧ n * 10 + (sgN tx ln p - 48) ≤ m
    · rw [if_pos c]
      have h2 : p < ln := by
        have h1 := (dgB_iff.mp c.2.1).1
        unfold sgN at h1; split at h1
        · assumption
        · omega
      have h3 := nmF_le (tx := tx) (ln := ln) (m := m) hl f (p + 1) (n * 10 + (sgN tx ln p - 48)) h2
      exact ⟨h3.1, Nat.le_of_succ_le h3.2⟩
    · rw [if_neg c]; exact ⟨h, Nat.le_refl _⟩
theorem sg_pos {tx : Nat → Nat} {ln p c : Nat} (h : sgN tx ln p = c) (hc : 0 < c) : p < ln := by
  unfold sgN at h; split at h
  · assumption
  · omega
theorem dg_pos {tx : Nat → Nat} {ln p d : Nat} (h : dgB tx ln p d = true) : p < ln := sg_pos (c := sgN tx ln p) rfl (by have := (dgB_iff.mp h).1; omega)
theorem nm_pos {tx : Nat → Nat} {ln p a : Nat} (h : nmB tx ln p a = true) : p < ln := sg_pos (c := sgN tx ln p) rfl (by have := (nmB_iff.mp h).1; omega)
/-- how far a reading goes -/
theorem agR_le {tx : Nat → Nat} {ln p kc : Nat} (hl : ln ≤ 80) (hp : p ≤ ln) : p ≤ (agR tx ln p kc).2.1 ∧ (agR tx ln p kc).2.1 ≤ ln := by
  unfold agR
  split
  · unfold arA
    have h0 : p ≤ p1N tx ln p ∧ p1N tx ln p ≤ ln := by
      by_cases c : sgN tx ln p = 45
      · have := sg_pos c (by omega); rw [p1N_t c]; omega
      · rw [p1N_f c]; omega
    show p ≤ (if nmB tx ln (p1N tx ln p) 1 = true then (nmR tx ln (p1N tx ln p) 99).1 else p1N tx ln p) ∧ (if nmB tx ln (p1N tx ln p) 1 = true then (nmR tx ln (p1N tx ln p) 99).1 else p1N tx ln p) ≤ ln
    by_cases c : nmB tx ln (p1N tx ln p) 1 = true
    · rw [if_pos c]
      have h1 := nm_pos c
      have h2 := nmF_le (tx := tx) (m := 99) hl 3 (p1N tx ln p + 1) (sgN tx ln (p1N tx ln p) - 48) h1
      exact ⟨Nat.le_trans h0.1 (Nat.le_of_succ_le h2.2), h2.1⟩
    · rw [if_neg c]; exact h0
  · unfold arN
    show p ≤ (if nmB tx ln p 0 = true then (nmR tx ln p (mfN kc)).1 else p) ∧ (if nmB tx ln p 0 = true then (nmR tx ln p (mfN kc)).1 else p) ≤ ln
    by_cases c : nmB tx ln p 0 = true
    · rw [if_pos c]
      have h1 := nm_pos c
      have h2 := nmF_le (tx := tx) (m := mfN kc) hl 3 (p + 1) (sgN tx ln p - 48) h1
      exact ⟨Nat.le_of_succ_le h2.2, h2.1⟩
    · rw [if_neg c]; omega
theorem rcC_le {tx : Nat → Nat} {ln p : Nat} (hl : ln ≤ 80) (hp : p ≤ ln) : p ≤ (rcC tx ln p).2.1 ∧ (rcC tx ln p).2.1 ≤ ln ∧ ((rcC tx ln p).1 = true → p + 3 ≤ (rcC tx ln p).2.1) := by
  unfold rcC
  by_cases hk : kdB (sgN tx ln p) = true
  · have h1 := kdB_pos hk
    rw [if_pos hk, rnC]
    by_cases h0 : dgB tx ln (p + 1) 3 = true
    · have h2 := dg_pos h0
      rw [if_pos h0]
      by_cases hm : sgN tx ln p = 109
      · rw [if_pos hm, roR]
        by_cases hr : dgB tx ln (p + 1 + 1) 3 = true ∧ ¬ sgN tx ln (p + 1 + 1) - 48 = sgN tx ln (p + 1) - 48
        · have h3 := dg_pos hr.1
          rw [if_pos hr]; refine ⟨?_, ?_, fun _ => ?_⟩ <;> show _ ≤ _ <;> dsimp only <;> omega
        · rw [if_neg hr]; refine ⟨?_, ?_, fun z => absurd z Bool.false_ne_true⟩ <;> dsimp only <;> omega
      · rw [if_neg hm]
        by_cases h5 : dgB tx ln (p + 1 + 1) 5 = true
        · have h3 := dg_pos h5
          rw [if_pos h5]
          by_cases hd : sgN tx ln p = 100
          · rw [if_pos hd]; refine ⟨?_, ?_, fun _ => ?_⟩ <;> dsimp only <;> omega
          · rw [if_neg hd]
            by_cases hc : sgN tx ln (p + 1 + 1 + 1) = 44
            · have h4 := sg_pos hc (by omega)
              rw [if_pos hc]
              have h6 := agR_le (tx := tx) (kc := sgN tx ln p) hl (show p + 1 + 1 + 1 + 1 ≤ ln by omega)
              refine ⟨?_, ?_, fun _ => ?_⟩ <;> omega
            · rw [if_neg hc]; refine ⟨?_, ?_, fun z => absurd z Bool.false_ne_true⟩ <;> dsimp only <;> omega
        · rw [if_neg h5]; refine ⟨?_, ?_, fun z => absurd z Bool.false_ne_true⟩ <;> dsimp only <;> omega
    · rw [if_neg h0]; refine ⟨?_, ?_, fun z => absurd z Bool.false_ne_true⟩ <;> dsimp only <;> omega
  · rw [if_neg hk]; refine ⟨?_, ?_, fun z => absurd z Bool.false_ne_true⟩ <;> dsimp only <;> omega
theorem rxC_le {tx : Nat → Nat} {ln p : Nat} (hl : ln ≤ 80) (hp : p ≤ ln) : p ≤ (rxC tx ln p).2.1 ∧ (rxC tx ln p).2.1 ≤ ln ∧ ((rxC tx ln p).1 = true → p + 3 ≤ (rxC tx ln p).2.1) := by
  unfold rxC
  by_cases h0 : p = 0
  · rw [if_pos h0]; exact rcC_le hl hp
  · rw [if_neg h0]
    by_cases h1 : sgN tx ln p = 59
    · have h2 := sg_pos h1 (by omega)
      rw [if_pos h1]
      have := rcC_le (tx := tx) hl (show p + 1 ≤ ln by omega)
      refine ⟨by omega, by omega, fun z => ?_⟩
      have := this.2.2 z; omega
    · rw [if_neg h1]; refine ⟨?_, ?_, fun z => absurd z Bool.false_ne_true⟩ <;> dsimp only <;> omega
theorem fb_chr : ∀ c, c < 127 → (nI c).toUInt32.toUInt16.toUInt32.toInt32 = nI c := by decide +kernel
theorem pk_chr {c : Nat} (h : c < 127) : vp_nar .char (nI c) = nI c := by rw [vp_nar_char]; exact fb_chr c h
theorem wT_tx {cC : ClassId} {t9 : Nat → Nat} {tx : Nat → Nat} {ln po c : Nat} {ki rp tg nu : Int32} : (wT cC t9 tx ln po ki rp tg nu).set 1 (t9 1, .inl (cC, 80, .inl (upd (fun i => nI (tx i)) ln (nI c)))) = wT cC t9 (updN tx ln c) ln po ki rp tg nu := by
  rw [updN_eq]; rfl
