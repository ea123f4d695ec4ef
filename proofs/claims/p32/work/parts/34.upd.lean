/-! what each update leaves, and what the queries tell of it -/
theorem UpS_mk (st : St) {r w g : Nat} (v : Int32) (hr : r < 4) (hw : w < 6) (hg : g < 20) : UpS st (mkE (clrS (begU st r) (r * 480 + w * 80 + g * 4) 4) r w g v) r (w * 80 + g * 4 + r) true (w * 80 + g * 4) (w * 80 + g * 4 + 4) v := by
  refine ⟨fun a o ha ho => ?_, fun a o ha ho hc => ?_, fun _ => ⟨?_, ?_⟩, fun a b ha hb => ?_, fun a ha => ?_⟩
  · show (if a * 480 + o = r * 480 + w * 80 + g * 4 + r then (if r * 4 + r = r * 4 + r then st.2.2.2.1 (r * 4 + r) + nI 1 else st.2.2.2.1 (r * 4 + r)) else if r * 480 + w * 80 + g * 4 ≤ a * 480 + o ∧ a * 480 + o < r * 480 + w * 80 + g * 4 + 4 then 0 else st.1 (a * 480 + o)) = _
    rw [if_pos (rfl : r * 4 + r = r * 4 + r)]
    by_cases e : a = r
    · rw [if_pos e, e]
      by_cases c0 : o = w * 80 + g * 4 + r
      · rw [if_pos (by omega), if_pos ⟨rfl, c0⟩]
      · rw [if_neg (by omega), if_neg (show ¬ (true = true ∧ o = w * 80 + g * 4 + r) from fun z => c0 z.2)]
        by_cases c1 : w * 80 + g * 4 ≤ o ∧ o < w * 80 + g * 4 + 4
        · rw [if_pos (by omega), if_pos c1]
        · rw [if_neg (by omega), if_neg c1]
    · rw [if_neg e, if_neg (by omega), if_neg (by omega)]
  · show (if a * 480 + o = r * 480 + w * 80 + g * 4 + r then v else st.2.2.1 (a * 480 + o)) = _ ∧ (if a * 480 + o = r * 480 + w * 80 + g * 4 + r then (if r = r then st.2.2.2.2.1 r + nI 1 else st.2.2.2.2.1 r) else st.2.1 (a * 480 + o)) = _
    have : ¬ a * 480 + o = r * 480 + w * 80 + g * 4 + r := fun z => hc (by
      have h1 : a = r := by omega
      exact ⟨h1, rfl, by omega⟩)
    rw [if_neg this, if_neg this]
    exact ⟨rfl, rfl⟩
  · show (if r * 480 + (w * 80 + g * 4 + r) = r * 480 + w * 80 + g * 4 + r then v else st.2.2.1 (r * 480 + (w * 80 + g * 4 + r))) = v
    rw [if_pos (by omega)]
  · show (if r * 480 + (w * 80 + g * 4 + r) = r * 480 + w * 80 + g * 4 + r then (if r = r then st.2.2.2.2.1 r + nI 1 else st.2.2.2.2.1 r) else st.2.1 (r * 480 + (w * 80 + g * 4 + r))) = _
    rw [if_pos (by omega), if_pos rfl]
  · show (if a * 4 + b = r * 4 + r then st.2.2.2.1 (r * 4 + r) + nI 1 else st.2.2.2.1 (a * 4 + b)) = _
    by_cases e : a = r ∧ b = r
    · rw [if_pos e, if_pos (by omega)]
    · rw [if_neg e, if_neg (by omega)]
  · show (if a = r then st.2.2.2.2.1 r + nI 1 else st.2.2.2.2.1 a) = _
    rfl
theorem UpS_cl (st : St) {r lo n : Nat} (hr : r < 4) (hn : lo + n ≤ 480) : UpS st (clrS (begU st r) (r * 480 + lo) n) r 0 false lo (lo + n) 0 := by
  refine ⟨fun a o ha ho => ?_, fun a o ha ho hc => ⟨rfl, rfl⟩, fun z => absurd z (by decide), fun a b ha hb => ?_, fun a ha => rfl⟩
  · show (if r * 480 + lo ≤ a * 480 + o ∧ a * 480 + o < r * 480 + lo + n then 0 else st.1 (a * 480 + o)) = _
    by_cases e : a = r
    · rw [if_pos e, e, if_neg (show ¬ (false = true ∧ o = 0) from fun z => absurd z.1 (by decide))]
      by_cases c1 : lo ≤ o ∧ o < lo + n
      · rw [if_pos (by omega), if_pos c1]
      · rw [if_neg (by omega), if_neg c1]
    · rw [if_neg e, if_neg (by omega)]
  · show (if a * 4 + b = r * 4 + r then st.2.2.2.1 (r * 4 + r) + nI 1 else st.2.2.2.1 (a * 4 + b)) = _
    by_cases e : a = r ∧ b = r
    · rw [if_pos e, if_pos (by omega)]
    · rw [if_neg e, if_neg (by omega)]
/-- what add makes its slot's value -/
def adV (st : St) (r w : Nat) (v : Int32) : Int32 := (if st.1 (r * 480 + w * 80 + 3 * 4 + r) = 0 then nI 0 else st.2.2.1 (r * 480 + w * 80 + 3 * 4 + r)) + v
theorem UpS_add (st : St) {r w : Nat} (v : Int32) (hr : r < 4) (hw : w < 6) : UpS st (addS st r w v) r (w * 80 + 3 * 4 + r) true (w * 80 + 3 * 4 + r) (w * 80 + 3 * 4 + r + 1) (adV st r w v) := by
  refine ⟨fun a o ha ho => ?_, fun a o ha ho hc => ?_, fun _ => ⟨?_, ?_⟩, fun a b ha hb => ?_, fun a ha => ?_⟩
  · show (if a * 480 + o = r * 480 + w * 80 + 3 * 4 + r then (if r * 4 + r = r * 4 + r then st.2.2.2.1 (r * 4 + r) + nI 1 else st.2.2.2.1 (r * 4 + r)) else st.1 (a * 480 + o)) = _
    rw [if_pos (rfl : r * 4 + r = r * 4 + r)]
    by_cases e : a = r
    · rw [if_pos e, e]
      by_cases c0 : o = w * 80 + 3 * 4 + r
      · rw [if_pos (by omega), if_pos ⟨rfl, c0⟩]
      · rw [if_neg (by omega), if_neg (show ¬ (true = true ∧ o = w * 80 + 3 * 4 + r) from fun z => c0 z.2), if_neg (by omega)]
    · rw [if_neg e, if_neg (by omega)]
  · show (if a * 480 + o = r * 480 + w * 80 + 3 * 4 + r then adV st r w v else st.2.2.1 (a * 480 + o)) = _ ∧ (if a * 480 + o = r * 480 + w * 80 + 3 * 4 + r then (if r = r then st.2.2.2.2.1 r + nI 1 else st.2.2.2.2.1 r) else st.2.1 (a * 480 + o)) = _
    have : ¬ a * 480 + o = r * 480 + w * 80 + 3 * 4 + r := fun z => hc (by
      have h1 : a = r := by omega
      exact ⟨h1, rfl, by omega⟩)
    rw [if_neg this, if_neg this]
    exact ⟨rfl, rfl⟩
  · show (if r * 480 + (w * 80 + 3 * 4 + r) = r * 480 + w * 80 + 3 * 4 + r then adV st r w v else st.2.2.1 (r * 480 + (w * 80 + 3 * 4 + r))) = _
    rw [if_pos (by omega)]
  · show (if r * 480 + (w * 80 + 3 * 4 + r) = r * 480 + w * 80 + 3 * 4 + r then (if r = r then st.2.2.2.2.1 r + nI 1 else st.2.2.2.2.1 r) else st.2.1 (r * 480 + (w * 80 + 3 * 4 + r))) = _
    rw [if_pos (by omega), if_pos rfl]
  · show (if a * 4 + b = r * 4 + r then st.2.2.2.1 (r * 4 + r) + nI 1 else st.2.2.2.1 (a * 4 + b)) = _
    by_cases e : a = r ∧ b = r
    · rw [if_pos e, if_pos (by omega)]
    · rw [if_neg e, if_neg (by omega)]
  · show (if a = r then st.2.2.2.2.1 r + nI 1 else st.2.2.2.2.1 a) = _
    rfl
/-- the value that put makes -/
def ptV (st : St) (r w g : Nat) (v : Int32) : Int32 := if g = 2 then mx v (grE st (r * 480 + w * 80 + 2 * 4) 4) else v
theorem grE_beg (st : St) (r a : Nat) : ∀ n, grE (begU st r) a n = grE st a n
  | 0 => rfl
  | n + 1 => by
    rw [grE, grE, grE_beg st r a n]
    rfl
theorem UpS_put (st : St) {r w g : Nat} (v : Int32) (hr : r < 4) (hw : w < 6) (hg : g < 3) : UpS st (putS st r w g v) r (w * 80 + g * 4 + r) true (w * 80 + g * 4) (w * 80 + g * 4 + 4) (ptV st r w g v) := by
  have h := UpS_mk st (ptV st r w g v) hr hw (show g < 20 by omega)
  rw [putS]
  rw [grE_beg]
  exact h
theorem UpS_inc (st : St) {r w e : Nat} (hr : r < 4) (hw : w < 6) (he : e < 16) : UpS st (incS st r w e) r (w * 80 + (4 + e) * 4 + r) true (w * 80 + (4 + e) * 4) (w * 80 + (4 + e) * 4 + 4) (nI e) := UpS_mk st (nI e) hr hw (by omega)
theorem UpS_exc (st : St) {r w e : Nat} (hr : r < 4) (hw : w < 6) (he : e < 16) : UpS st (excS st r w e) r 0 false (w * 80 + (4 + e) * 4) (w * 80 + (4 + e) * 4 + 4) 0 := by
  have h := UpS_cl st (r := r) (lo := w * 80 + (4 + e) * 4) (n := 4) hr (by omega)
  rw [← Nat.add_assoc] at h
  exact h
theorem UpS_del (st : St) {r w : Nat} (hr : r < 4) (hw : w < 6) : UpS st (delS st r w) r 0 false (w * 80 + 0 * 4) (w * 80 + 0 * 4 + 80) 0 := by
  have h := UpS_cl st (r := r) (lo := w * 80 + 0 * 4) (n := 80) hr (by omega)
  rw [← Nat.add_assoc] at h
  exact h
-- what an update makes of its cell
theorem up_nz {st st' : St} {B r o0 lo hi : Nat} {v : Int32} (hr : r < 4) (ho : o0 < 480) (hB : B + 1 < 2 ^ 31) (h : Iv st B) (hu : UpS st st' r o0 true lo hi v) : ¬ st'.1 (r * 480 + o0) = 0 ∧ st'.2.2.1 (r * 480 + o0) = v ∧ ¬ st'.2.1 (r * 480 + o0) < nI 0 := by
  obtain ⟨N, V, C, dp, kl, ex, ev, es, hN, _⟩ := h
  have hv := IvV_le hN hr hr
  obtain ⟨n1, n2, n3, n4, n5, n6⟩ := hN
  obtain ⟨u1, u2, u3, u4, u5⟩ := hu
  have hc := n4 r hr
  refine ⟨?_, (u3 rfl).1, ?_⟩
  · rw [u1 r o0 hr ho, if_pos rfl, if_pos ⟨rfl, rfl⟩, n2 r r hr hr, nI_add, nI_z (by omega)]; omega
  · rw [(u3 rfl).2, n3 r hr, nI_add, nI_0]; exact nI_pos (by omega)
/-- a group whose one entry is at k = r -/
def one9 (S : St) (a r : Nat) (v : Int32) : Prop := (∀ k, k < 4 → ¬ k = r → S.1 (a + k) = 0) ∧ ¬ S.1 (a + r) = 0 ∧ S.2.2.1 (a + r) = v ∧ ¬ S.2.1 (a + r) < nI 0
theorem up_one {st st' : St} {B r w g : Nat} {v : Int32} (hr : r < 4) (hw : w < 6) (hg : g < 20) (hB : B + 1 < 2 ^ 31) (h : Iv st B) (hu : UpS st st' r (w * 80 + g * 4 + r) true (w * 80 + g * 4) (w * 80 + g * 4 + 4) v) : one9 st' (r * 480 + w * 80 + g * 4) r v := by
  have hz := up_nz hr (by omega) hB h hu
  rw [show r * 480 + (w * 80 + g * 4 + r) = r * 480 + w * 80 + g * 4 + r by omega] at hz
  refine ⟨fun k hk hkr => ?_, hz⟩
  have := hu.1 r (w * 80 + g * 4 + k) hr (by omega)
  rw [if_pos rfl, if_neg (fun z => hkr (by omega)), if_pos (by omega)] at this
  rw [show r * 480 + w * 80 + g * 4 + k = r * 480 + (w * 80 + g * 4 + k) by omega]
  exact this
theorem one_cnt {S : St} {a r : Nat} {v : Int32} (h : one9 S a r v) : ∀ n, n ≤ 4 → cntE S.1 a n = if r < n then 1 else 0
  | 0, _ => rfl
  | n + 1, hn => by
    rw [cntE, one_cnt h n (by omega)]
    by_cases e : n = r
    · subst e
      rw [if_neg h.2.1, if_neg (Nat.lt_irrefl n), if_pos (Nat.lt_succ_self n)]
    · rw [if_pos (h.1 n (by omega) e)]
      by_cases c : r < n
      · rw [if_pos c, if_pos (by omega)]
      · rw [if_neg c, if_neg (by omega)]
theorem one_lt {S : St} {a r : Nat} {v : Int32} (h : one9 S a r v) : ∀ n, n ≤ 4 → ltE S a n = if r < n then (S.2.1 (a + r), v) else (nI 0, -1)
  | 0, _ => rfl
  | n + 1, hn => by
    rw [ltE, one_lt h n (by omega)]
    by_cases e : n = r
    · subst e
      rw [if_neg h.2.1, if_neg (Nat.lt_irrefl n), if_pos (Nat.lt_succ_self n), if_neg h.2.2.2, h.2.2.1]
    · rw [if_pos (h.1 n (by omega) e)]
      by_cases c : r < n
      · rw [if_pos c, if_pos (by omega)]
      · rw [if_neg c, if_neg (by omega)]
theorem mx_m1 {v : Int32} (h : ¬ v < 0) : mx (-1) v = v := if_pos (Int32.lt_of_lt_of_le (show (-1 : Int32) < 0 by decide) (Int32.not_lt.mp h))
theorem one_gr {S : St} {a r : Nat} {v : Int32} (h : one9 S a r v) (hv : ¬ v < 0) : ∀ n, n ≤ 4 → grE S a n = if r < n then v else -1
  | 0, _ => rfl
  | n + 1, hn => by
    rw [grE, one_gr h hv n (by omega)]
    by_cases e : n = r
    · subst e
      rw [if_neg h.2.1, if_neg (Nat.lt_irrefl n), if_pos (Nat.lt_succ_self n), h.2.2.1, mx_m1 hv]
    · rw [if_pos (h.1 n (by omega) e)]
      by_cases c : r < n
      · rw [if_pos c, if_pos (by omega)]
      · rw [if_neg c, if_neg (by omega)]
theorem one_sm {S : St} {a r : Nat} {v : Int32} (h : one9 S a r v) : ∀ n, n ≤ 4 → smE S a n = if r < n then v else nI 0
  | 0, _ => rfl
  | n + 1, hn => by
    rw [smE, one_sm h n (by omega)]
    by_cases e : n = r
    · subst e
      rw [if_neg h.2.1, if_neg (Nat.lt_irrefl n), if_pos (Nat.lt_succ_self n), h.2.2.1, nI_0, Int32.zero_add]
    · rw [if_pos (h.1 n (by omega) e)]
      by_cases c : r < n
      · rw [if_pos c, if_pos (by omega)]
      · rw [if_neg c, if_neg (by omega)]
theorem one_rk {S : St} {a r : Nat} {v : Int32} (h : one9 S a r v) : ∀ n, n ≤ 4 → rkE S a (a + r) n = 0
  | 0, _ => rfl
  | n + 1, hn => by
    rw [rkE, one_rk h n (by omega), if_neg]
    rintro ⟨h1, h2⟩
    have e : n = r := Decidable.byContradiction fun z => h1 (h.1 n (by omega) z)
    rw [e] at h2
    rcases h2 with h2 | h2
    · exact Int32.lt_irrefl h2
    · exact Nat.lt_irrefl _ h2.2
theorem one_sb {S : St} {a r : Nat} {v x : Int32} (h : one9 S a r v) (hr : r < 4) : ∀ n i, i + n = 4 → sbE S a 4 x n i = if i ≤ r ∧ x = nI 0 then v else -1
  | 0, i, hi => by rw [sbE, if_neg (fun z => by have := z.1; omega)]
  | n + 1, i, hi => by
    rw [sbE, one_sb h hr n (i + 1) (by omega)]
    by_cases e : i = r
    · subst e
      rw [one_rk h 4 (Nat.le_refl 4)]
      by_cases c : x = nI 0
      · rw [if_pos ⟨h.2.1, c.symm⟩, if_pos ⟨Nat.le_refl _, c⟩, h.2.2.1]
      · rw [if_neg (fun z => c z.2.symm), if_neg (fun z => c z.2), if_neg (fun z => c z.2)]
    · rw [if_neg (fun z => z.1 (h.1 i (by omega) e))]
      by_cases c : i ≤ r ∧ x = nI 0
      · rw [if_pos c, if_pos ⟨by omega, c.2⟩]
      · rw [if_neg c, if_neg (fun z => c ⟨by omega, z.2⟩)]
theorem sm_add {st : St} {B r w : Nat} (v : Int32) (hr : r < 4) (hw : w < 6) (hB : B + 1 < 2 ^ 31) (h : Iv st B) : ∀ n, n ≤ 4 → smE (addS st r w v) (r * 480 + w * 80 + 3 * 4) n = if r < n then smE st (r * 480 + w * 80 + 3 * 4) n + v else smE st (r * 480 + w * 80 + 3 * 4) n
  | 0, _ => rfl
  | n + 1, hn => by
    have hu := UpS_add st v hr hw
    have hz := up_nz hr (by omega) hB h hu
    rw [show r * 480 + (w * 80 + 3 * 4 + r) = r * 480 + w * 80 + 3 * 4 + r by omega] at hz
    rw [smE, smE, sm_add v hr hw hB h n (by omega)]
    by_cases e : n = r
    · subst e
      rw [if_neg hz.1, if_neg (Nat.lt_irrefl n), if_pos (Nat.lt_succ_self n), hz.2.1, adV]
      by_cases c : st.1 (n * 480 + w * 80 + 3 * 4 + n) = 0
      · rw [if_pos c, if_pos c, nI_0, Int32.zero_add]
      · rw [if_neg c, if_neg c, Int32.add_assoc]
    · have u1 := hu.1 r (w * 80 + 3 * 4 + n) hr (by omega)
      rw [if_pos rfl, if_neg (fun z => e (by omega)), if_neg (by omega)] at u1
      have u2 := (hu.2.1 r (w * 80 + 3 * 4 + n) hr (by omega) (fun z => e (by omega))).1
      rw [show r * 480 + (w * 80 + 3 * 4 + n) = r * 480 + w * 80 + 3 * 4 + n by omega] at u1 u2
      rw [u1, u2]
      by_cases c : st.1 (r * 480 + w * 80 + 3 * 4 + n) = 0
      · rw [if_pos c, if_pos c]
        by_cases c2 : r < n
        · rw [if_pos c2, if_pos (by omega)]
        · rw [if_neg c2, if_neg (by omega)]
      · rw [if_neg c, if_neg c]
        by_cases c2 : r < n
        · rw [if_pos c2, if_pos (by omega), Int32.add_assoc, Int32.add_comm v, ← Int32.add_assoc]
        · rw [if_neg c2, if_neg (by omega)]
-- sets
theorem Iv_set {st : St} {B r w : Nat} (h : Iv st B) (hr : r < 4) (hw : w < 6) : ∀ k, k < 64 → ¬ st.1 (r * 480 + w * 80 + 4 * 4 + k) = 0 → st.2.2.1 (r * 480 + w * 80 + 4 * 4 + k) = nI (k / 4) := fun k hk hz => by
  have e : r * 480 + w * 80 + 4 * 4 + k = r * 480 + (w * 80 + 4 * 4 + k) := by omega
  rw [e] at hz ⊢
  have := (Iv_ok h hr (by omega) hz).2.2.2 (by omega)
  rw [this]
  congr 1
  omega
theorem set_bt {st : St} {B r w : Nat} (h : Iv st B) (hr : r < 4) (hw : w < 6) {i : Nat} (hi : i < 32) : bt (ebE st (r * 480 + w * 80 + 4 * 4) 64) i = true ↔ ∃ k, k < 64 ∧ k / 4 = i ∧ ¬ st.1 (r * 480 + w * 80 + 4 * 4 + k) = 0 := ebE_bt 64 (Nat.le_refl 64) (Iv_set h hr hw) i hi
theorem cnt_pos (f : Nat → Int32) (a : Nat) : ∀ n, 0 < cntE f a n ↔ ∃ k, k < n ∧ ¬ f (a + k) = 0
  | 0 => ⟨fun h => absurd h (Nat.lt_irrefl 0), fun ⟨k, hk, _⟩ => absurd hk (Nat.not_lt_zero k)⟩
  | n + 1 => by
    have ih := cnt_pos f a n
    rw [cntE]
    by_cases z : f (a + n) = 0
    · rw [if_pos z, Nat.add_zero, ih]
      constructor
      · rintro ⟨k, hk, h⟩; exact ⟨k, by omega, h⟩
      · rintro ⟨k, hk, h⟩
        by_cases e : k = n
        · rw [e] at h; exact absurd z h
        · exact ⟨k, by omega, h⟩
    · rw [if_neg z]
      exact ⟨fun _ => ⟨n, by omega, z⟩, fun _ => by omega⟩
theorem set_grp {st : St} {B r w e : Nat} (h : Iv st B) (hr : r < 4) (hw : w < 6) (he : e < 16) : bt (ebE st (r * 480 + w * 80 + 4 * 4) 64) e = true ↔ 0 < cntE st.1 (r * 480 + w * 80 + (4 + e) * 4) 4 := by
  rw [set_bt h hr hw (by omega), cnt_pos]
  constructor
  · rintro ⟨k, hk, h2, h3⟩
    exact ⟨k % 4, by omega, by rw [show r * 480 + w * 80 + (4 + e) * 4 + k % 4 = r * 480 + w * 80 + 4 * 4 + k by omega]; exact h3⟩
  · rintro ⟨k, hk, h3⟩
    exact ⟨e * 4 + k, by omega, by omega, by rw [show r * 480 + w * 80 + 4 * 4 + (e * 4 + k) = r * 480 + w * 80 + (4 + e) * 4 + k by omega]; exact h3⟩
theorem cntE_ap (f : Nat → Int32) (a m : Nat) : ∀ n, cntE f a (m + n) = cntE f a m + cntE f (a + m) n
  | 0 => rfl
  | n + 1 => by
    show cntE f a (m + n) + (if f (a + (m + n)) = 0 then 0 else 1) = cntE f a m + (cntE f (a + m) n + (if f (a + m + n) = 0 then 0 else 1))
    rw [cntE_ap f a m n, show a + (m + n) = a + m + n by omega, Nat.add_assoc]
theorem cntE_eq {f g : Nat → Int32} {a : Nat} : ∀ n, (∀ k, k < n → f (a + k) = g (a + k)) → cntE f a n = cntE g a n
  | 0, _ => rfl
  | n + 1, h => by rw [cntE, cntE, cntE_eq n (fun k hk => h k (by omega)), h n (by omega)]
theorem cntE_z {f : Nat → Int32} {a : Nat} : ∀ n, (∀ k, k < n → f (a + k) = 0) → cntE f a n = 0
  | 0, _ => rfl
  | n + 1, h => by rw [cntE, cntE_z n (fun k hk => h k (by omega)), if_pos (h n (by omega))]
/-- the SET column of a row, cut at a group -/
theorem set_cut (f : Nat → Int32) {A e : Nat} (he : e < 16) : cntE f (A + 4 * 4) 64 = cntE f (A + 4 * 4) (4 * e) + (cntE f (A + (4 + e) * 4) 4 + cntE f (A + (4 + e) * 4 + 4) (60 - 4 * e)) := by
  rw [show (64 : Nat) = 4 * e + (4 + (60 - 4 * e)) by omega, cntE_ap, cntE_ap, show A + 4 * 4 + 4 * e = A + (4 + e) * 4 by omega]
/-- outside its region an update leaves the numbers as they were -/
theorem up_out {st st' : St} {r o0 lo hi o : Nat} {mk : Bool} {v : Int32} (hr : r < 4) (ho : o < 480) (hu : UpS st st' r o0 mk lo hi v) (h0 : ¬ (mk = true ∧ o = o0)) (h1 : ¬ (lo ≤ o ∧ o < hi)) : st'.1 (r * 480 + o) = st.1 (r * 480 + o) := by
  rw [hu.1 r o hr ho, if_pos rfl, if_neg h0, if_neg h1]
theorem up_in {st st' : St} {r o0 lo hi o : Nat} {mk : Bool} {v : Int32} (hr : r < 4) (ho : o < 480) (hu : UpS st st' r o0 mk lo hi v) (h0 : ¬ (mk = true ∧ o = o0)) (h1 : lo ≤ o ∧ o < hi) : st'.1 (r * 480 + o) = 0 := by
  rw [hu.1 r o hr ho, if_pos rfl, if_neg h0, if_pos h1]
