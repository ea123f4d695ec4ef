/-! what a replica tells, as a value; the same entries tell the same -/
/-- entries, sibling of one row, over the first k columns -/
def ceK (st : St) (r w : Nat) (h : Int64) : Nat → Int64
  | 0 => h
  | k + 1 => 31 * (31 * ceK st r w h k + (nI (cntE st.1 (r * 480 + w * 80 + k * 4) (cE k * 4 - k * 4))).toInt64) + (sbE st (r * 480 + w * 80 + 1 * 4) 4 (nI k) 4 0).toInt64
def ceW (st : St) (r : Nat) : Nat → Int64
  | 0 => 67
  | w + 1 => ceK st r w (31 * (31 * (31 * (31 * ceW st r w + ((ltE st (r * 480 + w * 80 + 0 * 4) 4).2).toInt64) + (grE st (r * 480 + w * 80 + 2 * 4) 4).toInt64) + (smE st (r * 480 + w * 80 + 3 * 4) (cE 3 * 4 - 3 * 4)).toInt64) + (ebE st (r * 480 + w * 80 + 4 * 4) 64).toInt64) 5
def cellsV (st : St) (r : Nat) : Int64 := ceW st r 6
def tdK (st : St) (r : Nat) (h : Int64) : Nat → Int64
  | 0 => h
  | k + 1 => 31 * (31 * tdK st r h k + (st.2.2.2.1 (r * 4 + k)).toInt64) + (st.2.2.2.2.2 k).toInt64
def tdW (st : St) : Nat → Int64
  | 0 => 71
  | r + 1 => tdK st r (31 * (31 * tdW st r + cellsV st r) + (st.2.2.2.2.1 r).toInt64) 4
def toldV (st : St) : Int64 := tdW st 4
/-- n entries from a on in S are those from b on in S' -/
abbrev smE9 (S : St) (a : Nat) (S' : St) (b n : Nat) : Prop := ∀ k, k < n → S.1 (a + k) = S'.1 (b + k) ∧ (¬ S.1 (a + k) = 0 → S.2.1 (a + k) = S'.2.1 (b + k) ∧ S.2.2.1 (a + k) = S'.2.2.1 (b + k))
theorem cntE_cg {S S' : St} {a b : Nat} : ∀ n, smE9 S a S' b n → cntE S.1 a n = cntE S'.1 b n
  | 0, _ => rfl
  | n + 1, h => by rw [cntE, cntE, cntE_cg n (fun k hk => h k (by omega)), (h n (by omega)).1]
theorem ltE_cg {S S' : St} {a b : Nat} : ∀ n, smE9 S a S' b n → ltE S a n = ltE S' b n
  | 0, _ => rfl
  | n + 1, h => by
    have i := ltE_cg n (fun k hk => h k (by omega))
    have e := h n (by omega)
    rw [ltE, ltE, i]
    by_cases z : S.1 (a + n) = 0
    · rw [if_pos z, if_pos (e.1 ▸ z)]
    · have z' : ¬ S'.1 (b + n) = 0 := fun y => z (e.1.trans y)
      rw [if_neg z, if_neg z', (e.2 z).1, (e.2 z).2]
theorem grE_cg {S S' : St} {a b : Nat} : ∀ n, smE9 S a S' b n → grE S a n = grE S' b n
  | 0, _ => rfl
  | n + 1, h => by
    have i := grE_cg n (fun k hk => h k (by omega))
    have e := h n (by omega)
    rw [grE, grE, i]
    by_cases z : S.1 (a + n) = 0
    · rw [if_pos z, if_pos (e.1 ▸ z)]
    · have z' : ¬ S'.1 (b + n) = 0 := fun y => z (e.1.trans y)
      rw [if_neg z, if_neg z', (e.2 z).2]
theorem smE_cg {S S' : St} {a b : Nat} : ∀ n, smE9 S a S' b n → smE S a n = smE S' b n
  | 0, _ => rfl
  | n + 1, h => by
    have i := smE_cg n (fun k hk => h k (by omega))
    have e := h n (by omega)
    rw [smE, smE, i]
    by_cases z : S.1 (a + n) = 0
    · rw [if_pos z, if_pos (e.1 ▸ z)]
    · have z' : ¬ S'.1 (b + n) = 0 := fun y => z (e.1.trans y)
      rw [if_neg z, if_neg z', (e.2 z).2]
theorem ebE_cg {S S' : St} {a b : Nat} : ∀ n, smE9 S a S' b n → ebE S a n = ebE S' b n
  | 0, _ => rfl
  | n + 1, h => by
    have i := ebE_cg n (fun k hk => h k (by omega))
    have e := h n (by omega)
    rw [ebE, ebE, i]
    by_cases z : S.1 (a + n) = 0
    · rw [if_pos z, if_pos (e.1 ▸ z)]
    · have z' : ¬ S'.1 (b + n) = 0 := fun y => z (e.1.trans y)
      rw [if_neg z, if_neg z', (e.2 z).2]
theorem rkE_cg {S S' : St} {a b i m : Nat} (h : smE9 S a S' b m) (hi : i < m) (hz : ¬ S.1 (a + i) = 0) : ∀ n, n ≤ m → rkE S a (a + i) n = rkE S' b (b + i) n
  | 0, _ => rfl
  | n + 1, hn => by
    have ih := rkE_cg h hi hz n (by omega)
    have e := h n (by omega)
    have ei := (h i hi).2 hz
    have eq : (¬ S.1 (a + n) = 0 ∧ befP S (a + n) (a + i)) ↔ (¬ S'.1 (b + n) = 0 ∧ befP S' (b + n) (b + i)) := by
      by_cases z : S.1 (a + n) = 0
      · exact ⟨fun y => absurd z y.1, fun y => absurd (e.1 ▸ z) y.1⟩
      · have en := e.2 z
        show (_ ∧ (S.2.2.1 (a + n) < S.2.2.1 (a + i) ∨ (S.2.2.1 (a + n) = S.2.2.1 (a + i) ∧ a + n < a + i))) ↔ (_ ∧ (S'.2.2.1 (b + n) < S'.2.2.1 (b + i) ∨ (S'.2.2.1 (b + n) = S'.2.2.1 (b + i) ∧ b + n < b + i)))
        rw [en.2, ei.2, e.1, show (a + n < a + i) = (b + n < b + i) from propext ⟨fun _ => by omega, fun _ => by omega⟩]
    rw [rkE, rkE, ih]
    by_cases c : ¬ S.1 (a + n) = 0 ∧ befP S (a + n) (a + i)
    · rw [if_pos c, if_pos (eq.mp c)]
    · rw [if_neg c, if_neg (fun z => c (eq.mpr z))]
theorem sbE_cg {S S' : St} {a b m : Nat} (x : Int32) (h : smE9 S a S' b m) : ∀ n i, i + n = m → sbE S a m x n i = sbE S' b m x n i
  | 0, _, _ => rfl
  | n + 1, i, hi => by
    have ih := sbE_cg x h n (i + 1) (by omega)
    have e := h i (by omega)
    rw [sbE, sbE, ih]
    by_cases z : S.1 (a + i) = 0
    · rw [if_neg (fun y => y.1 z), if_neg (fun y => y.1 (e.1 ▸ z))]
    · rw [← rkE_cg h (by omega) z m (Nat.le_refl m), ← e.1, (e.2 z).2]
theorem same_at {S S' : St} {a b : Nat} (h : sameC S a S' b) {w g n : Nat} (hn : w * 80 + g * 4 + n ≤ 480) : smE9 S (a * 480 + w * 80 + g * 4) S' (b * 480 + w * 80 + g * 4) n := fun k hk => by
  have := h (w * 80 + g * 4 + k) (by omega)
  rw [show a * 480 + (w * 80 + g * 4 + k) = a * 480 + w * 80 + g * 4 + k by omega, show b * 480 + (w * 80 + g * 4 + k) = b * 480 + w * 80 + g * 4 + k by omega] at this
  exact this
theorem ceK_cg {S S' : St} {a b w : Nat} (h : sameC S a S' b) (hw : w < 6) (x : Int64) : ∀ k, k ≤ 5 → ceK S a w x k = ceK S' b w x k
  | 0, _ => rfl
  | k + 1, hk => by
    have hc := cE_b k (by omega)
    rw [ceK, ceK, ceK_cg h hw x k (by omega), cntE_cg _ (same_at h (by omega)), sbE_cg (nI k) (same_at h (by omega)) 4 0 rfl]
theorem ceW_cg {S S' : St} {a b : Nat} (h : sameC S a S' b) : ∀ w, w ≤ 6 → ceW S a w = ceW S' b w
  | 0, _ => rfl
  | w + 1, hw => by
    have h3 : cE 3 * 4 - 3 * 4 = 4 := rfl
    rw [ceW, ceW, ceW_cg h w (by omega), ltE_cg _ (same_at h (by omega)), grE_cg _ (same_at h (by omega)), h3, smE_cg _ (same_at h (by omega)), ebE_cg _ (same_at h (by omega)), ceK_cg h (by omega) _ 5 (Nat.le_refl 5)]
theorem cells_cg {S S' : St} {a b : Nat} (h : sameC S a S' b) : cellsV S a = cellsV S' b := ceW_cg h 6 (Nat.le_refl 6)
/-- an update leaves the others alone -/
theorem same_up {st st' : St} {r o0 lo hi a : Nat} {mk : Bool} {v : Int32} (hu : UpS st st' r o0 mk lo hi v) (ha : a < 4) (e : ¬ a = r) : sameC st' a st a := fun o ho => by
  obtain ⟨u1, u2, _⟩ := hu
  rw [u1 a o ha ho, if_neg e]
  exact ⟨rfl, fun _ => ⟨(u2 a o ha ho (fun z => e z.1)).2, (u2 a o ha ho (fun z => e z.1)).1⟩⟩
/-- a merge leaves the others alone -/
theorem same_mg {st : St} {f t a : Nat} (hf : f < 4) (ht : t < 4) (hne : f ≠ t) (e : ¬ a = t) : sameC (mgS st f t) a st a := fun o ho => by
  rw [mg_num hf ht hne ho, (mg_val hf ht hne ho).1, (mg_val hf ht hne ho).2, if_neg e, if_neg (fun z => e z.1), if_neg (fun z => e z.1)]
  exact ⟨rfl, fun _ => ⟨rfl, rfl⟩⟩
