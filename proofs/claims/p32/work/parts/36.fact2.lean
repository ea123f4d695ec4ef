/-! what the law asks of merges, of each state, and of undo -/
theorem re_01 (st : St) (f t : Nat) : (reS st f t = nI 1 ∨ reS st f t = nI 0) ↔ knP st t f := by
  rw [reS]
  by_cases a : knP st f t
  · by_cases b : knP st t f
    · rw [if_pos a, if_pos b]; exact ⟨fun _ => b, fun _ => Or.inr rfl⟩
    · rw [if_pos a, if_neg b]; exact ⟨fun z => absurd z (by decide), fun z => absurd z b⟩
  · by_cases b : knP st t f
    · rw [if_neg a, if_pos b]; exact ⟨fun _ => b, fun _ => Or.inl rfl⟩
    · rw [if_neg a, if_neg b]; exact ⟨fun z => absurd z (by decide), fun z => absurd z b⟩
theorem re_0 (st : St) (f t : Nat) : reS st f t = nI 0 ↔ knP st f t ∧ knP st t f := by
  rw [reS]
  by_cases a : knP st f t
  · by_cases b : knP st t f
    · rw [if_pos a, if_pos b]; exact ⟨fun _ => ⟨a, b⟩, fun _ => rfl⟩
    · rw [if_pos a, if_neg b]; exact ⟨fun z => absurd z (by decide), fun z => absurd z.2 b⟩
  · by_cases b : knP st t f
    · rw [if_neg a, if_pos b]; exact ⟨fun z => absurd z (by decide), fun z => absurd z.1 a⟩
    · rw [if_neg a, if_neg b]; exact ⟨fun z => absurd z (by decide), fun z => absurd z.1 a⟩
theorem re_12 (st : St) (a b : Nat) : (reS st a b = nI 1 ↔ reS st b a = nI 2) ∧ (reS st a b = nI 0 ↔ reS st b a = nI 0) := by
  rw [reS, reS]
  by_cases h1 : knP st a b
  · by_cases h2 : knP st b a
    · rw [if_pos h1, if_pos h2, if_pos h2, if_pos h1]; decide
    · rw [if_pos h1, if_neg h2, if_neg h2, if_pos h1]; decide
  · by_cases h2 : knP st b a
    · rw [if_neg h1, if_pos h2, if_pos h2, if_neg h1]; decide
    · rw [if_neg h1, if_neg h2, if_neg h2, if_neg h1]; decide
theorem re_self (st : St) (a : Nat) : reS st a a = nI 0 := (re_0 st a a).mpr ⟨kn_rf st a, kn_rf st a⟩
theorem re_cells {st : St} {B a b : Nat} (hB : B < 2 ^ 31) (h : Iv st B) (ha : a < 4) (hb : b < 4) (e : reS st a b = nI 0) : cellsV st a = cellsV st b := by
  have k := (re_0 st a b).mp e
  exact cells_cg (Iv_same hB h ha hb k.1 k.2)
theorem mx_gt {x y : Int32} (h : ¬ x ≤ y) : x = mx x y := (if_neg (fun z => h (Int32.le_of_lt z))).symm
theorem mx_le2 {x y : Int32} (h : x ≤ y) : y = mx x y := by
  show y = if x < y then y else x
  by_cases c : x < y
  · rw [if_pos c]
  · rw [if_neg c]; exact Int32.le_antisymm (Int32.not_lt.mp c) h
/-- the greater of what two replicas have seen, for the first k -/
def snK (st : St) (f t : Nat) : Nat → Nat → Int32
  | 0 => fun _ => 0
  | k + 1 => upd (snK st f t k) k (mx (st.2.2.2.1 (f * 4 + k)) (st.2.2.2.1 (t * 4 + k)))
theorem snK_at (st : St) (f t : Nat) : ∀ n k, k < n → snK st f t n k = mx (st.2.2.2.1 (f * 4 + k)) (st.2.2.2.1 (t * 4 + k))
  | 0, k, h => absurd h (Nat.not_lt_zero k)
  | n + 1, k, h => by
    rw [snK]
    by_cases e : k = n
    · rw [e, pk_us]
    · rw [pk_un e]; exact snK_at st f t n k (by omega)
theorem mg_seen {st : St} {f t k : Nat} (hf : f < 4) (ht : t < 4) (hne : f ≠ t) (hk : k < 4) : (mgS st f t).2.2.2.1 (t * 4 + k) = snK st f t 4 k := by
  rw [mg_see hf ht hne hk, if_pos rfl, snK_at st f t 4 k hk]
theorem mg_clkt {st : St} {f t : Nat} (hf : f < 4) (ht : t < 4) (hne : f ≠ t) : (mgS st f t).2.2.2.2.1 t = mx (st.2.2.2.2.1 f) (st.2.2.2.2.1 t) := by
  rw [mg_clk hf ht hne, if_pos rfl]
theorem mg_cells {st : St} {f t : Nat} (hf : f < 4) (ht : t < 4) (hne : f ≠ t) : cellsV (mgS st f t) f = cellsV st f := cells_cg (same_mg hf ht hne hne)
theorem mg_none {st : St} {B f t : Nat} (hB : B < 2 ^ 31) (h : Iv st B) (hf : f < 4) (ht : t < 4) (k : knP st t f) : cntP (fun o => addP st f t o) 480 + cntP (fun o => remP st f t o) 480 = 0 := by
  have z := Iv_zero hB h hf ht k
  rw [z.1, z.2]
theorem mg_again {st : St} {B f t : Nat} (hB : B < 2 ^ 31) (h : Iv st B) (hf : f < 4) (ht : t < 4) (hne : f ≠ t) : cntP (fun o => addP (mgS st f t) f t o) 480 + cntP (fun o => remP (mgS st f t) f t o) 480 = 0 := mg_none hB (Iv_mg hB hf ht hne h) hf ht (kn_mg hf ht hne)
/-- what is merged twice: the two tell the same, if they are equal -/
theorem mg_eq {st : St} {B f t : Nat} (hB : B < 2 ^ 31) (h : Iv st B) (hf : f < 4) (ht : t < 4) (hne : f ≠ t) (e : reS (mgS st f t) f t = nI 0) : cellsV (mgS (mgS st f t) f t) t = cellsV st f := by
  have k := (re_0 _ f t).mp e
  have h1 := Iv_mg hB hf ht hne h
  have h2 := Iv_mg hB hf ht hne h1
  have k2 : knP (mgS (mgS st f t) f t) f t := kn_mg2 hf ht hne k.1
  rw [cells_cg (Iv_same hB h2 ht hf (kn_mg hf ht hne) k2), mg_cells hf ht hne, mg_cells hf ht hne]
-- what holds of each state
theorem h_clk {st : St} {B a : Nat} (hB : B < 2 ^ 31) (h : Iv st B) (ha : a < 4) : ¬ st.2.2.2.2.1 a < st.2.2.2.1 (a * 4 + a) := by
  obtain ⟨N, V, C, dp, kl, ex, ev, es, ⟨n1, n2, n3, n4, n5, n6⟩, _⟩ := h
  have := n4 a ha
  have := n5 a ha
  rw [n2 a a ha ha, n3 a ha]
  exact nI_nlt (by omega) (by omega)
theorem h_seen {st : St} {B a b : Nat} (hB : B < 2 ^ 31) (h : Iv st B) (ha : a < 4) (hb : b < 4) : st.2.2.2.1 (a * 4 + b) ≤ st.2.2.2.1 (b * 4 + b) := by
  obtain ⟨N, V, C, dp, kl, ex, ev, es, ⟨n1, n2, n3, n4, n5, n6⟩, _⟩ := h
  have := n4 b hb
  have := n5 b hb
  rw [n2 a b ha hb, n2 b b hb hb]
  exact nI_le (n6 a b ha hb) (by omega)
theorem h_lt {st : St} {a : Nat} : ∀ n, (∀ k, k < n → ¬ st.1 (a + k) = 0 → ¬ st.2.1 (a + k) < nI 0 ∧ ¬ st.2.2.1 (a + k) < 0) → (cntE st.1 a n = 0 ∧ ltE st a n = (nI 0, -1)) ∨ (0 < cntE st.1 a n ∧ ¬ (ltE st a n).2 < 0)
  | 0, _ => Or.inl ⟨rfl, rfl⟩
  | n + 1, h => by
    have ih := h_lt (st := st) (a := a) n (fun k hk => h k (by omega))
    rw [cntE, ltE]
    by_cases z : st.1 (a + n) = 0
    · rw [if_pos z, if_pos z, Nat.add_zero]; exact ih
    · have hv := h n (by omega) z
      rw [if_neg z, if_neg z]
      refine Or.inr ⟨by omega, ?_⟩
      by_cases c : st.2.1 (a + n) < (ltE st a n).1
      · rw [if_pos c]
        rcases ih with ih | ih
        · rw [ih.2] at c; exact absurd c hv.1
        · exact ih.2
      · rw [if_neg c]; exact hv.2
theorem h_gr {st : St} {a : Nat} : ∀ n, (∀ k, k < n → ¬ st.1 (a + k) = 0 → ¬ st.2.2.1 (a + k) < 0) → (cntE st.1 a n = 0 ∧ grE st a n = -1) ∨ (0 < cntE st.1 a n ∧ ¬ grE st a n < 0)
  | 0, _ => Or.inl ⟨rfl, rfl⟩
  | n + 1, h => by
    have ih := h_gr (st := st) (a := a) n (fun k hk => h k (by omega))
    rw [cntE, grE]
    by_cases z : st.1 (a + n) = 0
    · rw [if_pos z, if_pos z, Nat.add_zero]; exact ih
    · have hv := h n (by omega) z
      rw [if_neg z, if_neg z]
      refine Or.inr ⟨by omega, fun y => ?_⟩
      have y : (if grE st a n < st.2.2.1 (a + n) then st.2.2.1 (a + n) else grE st a n) < 0 := y
      by_cases c : grE st a n < st.2.2.1 (a + n)
      · rw [if_pos c] at y; exact hv y
      · rw [if_neg c] at y; exact hv (Int32.lt_of_le_of_lt (Int32.not_lt.mp c) y)
theorem h_latest {st : St} {B a w : Nat} (h : Iv st B) (ha : a < 4) (hw : w < 6) : (ltE st (a * 480 + w * 80 + 0 * 4) 4).2 < 0 ↔ cntE st.1 (a * 480 + w * 80 + 0 * 4) 4 = 0 := by
  rcases h_lt (st := st) (a := a * 480 + w * 80 + 0 * 4) 4 (fun k hk hz => by
    rw [show a * 480 + w * 80 + 0 * 4 + k = a * 480 + (w * 80 + 0 * 4 + k) by omega] at hz ⊢
    have o := Iv_ok h ha (by omega) hz
    rw [nI_0]
    exact ⟨o.1, o.2.1 (by omega)⟩) with ⟨h1, h2⟩ | ⟨h1, h2⟩
  · rw [h1, h2]; exact ⟨fun _ => rfl, fun _ => by decide⟩
  · exact ⟨fun z => absurd z h2, fun z => by omega⟩
theorem h_great {st : St} {B a w : Nat} (h : Iv st B) (ha : a < 4) (hw : w < 6) : grE st (a * 480 + w * 80 + 2 * 4) 4 < 0 ↔ cntE st.1 (a * 480 + w * 80 + 2 * 4) 4 = 0 := by
  rcases h_gr (st := st) (a := a * 480 + w * 80 + 2 * 4) 4 (fun k hk hz => by
    rw [show a * 480 + w * 80 + 2 * 4 + k = a * 480 + (w * 80 + 2 * 4 + k) by omega] at hz ⊢
    exact (Iv_ok h ha (by omega) hz).2.2.1 (by omega)) with ⟨h1, h2⟩ | ⟨h1, h2⟩
  · rw [h1, h2]; exact ⟨fun _ => rfl, fun _ => by decide⟩
  · exact ⟨fun z => absurd z h2, fun z => by omega⟩
theorem h_elem {st : St} {B a w : Nat} (h : Iv st B) (ha : a < 4) (hw : w < 6) : ebE st (a * 480 + w * 80 + 4 * 4) 64 = 0 ↔ cntE st.1 (a * 480 + w * 80 + 4 * 4) 64 = 0 := by
  constructor
  · intro z
    refine Decidable.byContradiction fun c => ?_
    obtain ⟨k, hk, hn⟩ := (cnt_pos _ _ _).mp (Nat.pos_of_ne_zero c)
    have := (set_bt h ha hw (i := k / 4) (by omega)).mpr ⟨k, hk, rfl, hn⟩
    rw [z, ← nI_0, bt_0 _ (by omega)] at this
    exact absurd this (by decide)
  · intro z
    rw [← nI_0]
    refine bt_ext fun i hi => ?_
    rw [bt_0 i hi]
    refine Bool.eq_false_iff.mpr fun y => ?_
    obtain ⟨k, hk, _, hn⟩ := (set_bt h ha hw hi).mp y
    have := (cnt_pos st.1 (a * 480 + w * 80 + 4 * 4) 64).mpr ⟨k, hk, hn⟩
    omega
theorem ag_30 : ∀ n, n < 31 → FP.Core.dIsNaN (FP.dmul (agF n) d30) = false ∧ ¬ Op.cmpValue (FP.dcmp (FP.dmul (agF n) d30) FP.dconst0) .l < 0 ∧ ¬ 0 < Op.cmpValue (FP.dcmp (FP.dmul (agF n) d30) 4629137495130946247) .g := by decide +kernel
theorem ag_1 : Op.cmpValue (FP.dcmp (agF 30) FP.dconst1) .l = 0 := by decide +kernel
-- an element that one includes and another excludes stays
def kp2 (st : St) (r q : Nat) : St := mgS (mgS st r q) q r
def kp4 (st : St) (r q e : Nat) : St := excS (incS (kp2 st r q) r 0 e) q 0 e
def kp6 (st : St) (r q e : Nat) : St := mgS (mgS (kp4 st r q e) r q) q r
theorem kp_re {st : St} {r q : Nat} (hr : r < 4) (hq : q < 4) (hne : r ≠ q) : knP (kp2 st r q) r q ∧ knP (kp2 st r q) q r := ⟨kn_mg hq hr hne.symm, kn_mg2 hq hr hne.symm (kn_mg hr hq hne)⟩
theorem Iv_kp {st : St} {B r q e : Nat} (hr : r < 4) (hq : q < 4) (hne : r ≠ q) (he : e < 16) (hB : B + 2 < 2 ^ 31) (h : Iv st B) : Iv (kp2 st r q) B ∧ Iv (incS (kp2 st r q) r 0 e) (B + 1) ∧ Iv (kp4 st r q e) (B + 2) ∧ Iv (kp6 st r q e) (B + 2) := by
  have h2 : Iv (kp2 st r q) B := Iv_mg (by omega) hq hr hne.symm (Iv_mg (by omega) hr hq hne h)
  have h3 : Iv (incS (kp2 st r q) r 0 e) (B + 1) := Iv_inc hr (by decide) he (by omega) h2
  have h4 : Iv (kp4 st r q e) (B + 1 + 1) := Iv_exc hq (by decide) he (by omega) h3
  exact ⟨h2, h3, h4, Iv_mg (by omega) hq hr hne.symm (Iv_mg (by omega) hr hq hne h4)⟩
theorem kp_el {st : St} {B r q e : Nat} (hr : r < 4) (hq : q < 4) (hne : r ≠ q) (he : e < 16) (hB : B + 2 < 2 ^ 31) (h : Iv st B) : ((ebE (kp6 st r q e) (r * 480 + 0 * 80 + 4 * 4) 64 >>> (nI e &&& 31)) &&& nI 1 = nI 1) ∧ ((ebE (kp6 st r q e) (q * 480 + 0 * 80 + 4 * 4) 64 >>> (nI e &&& 31)) &&& nI 1 = nI 1) := by
  obtain ⟨h2, h3, h4, h6⟩ := Iv_kp hr hq hne he hB h
  have hk := kp_re (st := st) hr hq hne
  have o4 : (0 * 80 + (4 + e) * 4 + r) % 4 = r := by omega
  have oB : 0 * 80 + (4 + e) * 4 + r < 480 := by omega
  obtain ⟨N, V, C, dp, kl, ex, ev, es, hN, _⟩ := h2
  have kq := (kn_iff (by omega) hN hq hr).mp hk.2 r hr
  have kv := hN.2.2.2.2.2 q r hq hr
  have vb := IvV_le hN hr hr
  have e1 : (kp2 st r q).2.2.2.1 (r * 4 + r) = nI (V r r) := hN.2.1 r r hr hr
  have e2 : (kp2 st r q).2.2.2.1 (q * 4 + r) = nI (V r r) := by rw [hN.2.1 q r hq hr, show V q r = V r r by omega]
  have u3 := UpS_inc (kp2 st r q) hr (show 0 < 6 by decide) he
  have u4 := UpS_exc (incS (kp2 st r q) r 0 e) hq (show 0 < 6 by decide) he
  have a1 : (incS (kp2 st r q) r 0 e).1 (r * 480 + (0 * 80 + (4 + e) * 4 + r)) = nI (V r r + 1) := by
    rw [u3.1 r _ hr oB, if_pos rfl, if_pos ⟨rfl, rfl⟩, e1, nI_add]
  have s1 : (incS (kp2 st r q) r 0 e).2.2.2.1 (q * 4 + r) = nI (V r r) := by
    rw [u3.2.2.2.1 q r hq hr, if_neg (fun z => hne z.1.symm), e2]
  have a2 : (kp4 st r q e).1 (r * 480 + (0 * 80 + (4 + e) * 4 + r)) = nI (V r r + 1) := by
    rw [kp4, u4.1 r _ hr oB, if_neg hne, a1]
  have b2' : (kp4 st r q e).1 (q * 480 + (0 * 80 + (4 + e) * 4 + r)) = 0 := by
    rw [kp4, u4.1 q _ hq oB, if_pos rfl, if_neg (fun z => absurd z.1 (by decide)), if_pos ⟨by omega, by omega⟩]
  have s2 : (kp4 st r q e).2.2.2.1 (q * 4 + r) = nI (V r r) := by
    rw [kp4, u4.2.2.2.1 q r hq hr, if_neg (fun z => hne z.2), s1]
  have nz : ¬ nI (V r r + 1) = 0 := fun z => by rw [nI_z (by omega)] at z; omega
  have ad : addP (kp4 st r q e) r q (0 * 80 + (4 + e) * 4 + r) := by
    refine ⟨by rw [a2]; exact nz, by rw [a2, b2']; exact nz, ?_⟩
    rw [o4, s2, a2]
    exact nI_lt (by omega) (by omega)
  have c1 : (mgS (kp4 st r q e) r q).1 (q * 480 + (0 * 80 + (4 + e) * 4 + r)) = nI (V r r + 1) := by
    rw [mg_num hr hq hne oB, if_pos rfl, if_pos ad, a2]
  have c2 : (mgS (kp4 st r q e) r q).1 (r * 480 + (0 * 80 + (4 + e) * 4 + r)) = nI (V r r + 1) := by
    rw [mg_num hr hq hne oB, if_neg hne, a2]
  have d1 : (kp6 st r q e).1 (q * 480 + (0 * 80 + (4 + e) * 4 + r)) = nI (V r r + 1) := by
    rw [kp6, mg_num hq hr hne.symm oB, if_neg hne.symm, c1]
  have d2 : (kp6 st r q e).1 (r * 480 + (0 * 80 + (4 + e) * 4 + r)) = nI (V r r + 1) := by
    rw [kp6, mg_num hq hr hne.symm oB, if_pos rfl, if_neg (fun z => z.2.1 (c1.trans c2.symm)), if_neg (fun z => z.2.1 (c2.trans c1.symm)), c2]
  rw [set_has h6 hr (show 0 < 6 by decide) he, set_has h6 hq (show 0 < 6 by decide) he]
  rw [if_pos ((cnt_pos _ _ _).mpr ⟨r, hr, by rw [show r * 480 + 0 * 80 + (4 + e) * 4 + r = r * 480 + (0 * 80 + (4 + e) * 4 + r) by omega, d2]; exact nz⟩), if_pos ((cnt_pos _ _ _).mpr ⟨r, hr, by rw [show q * 480 + 0 * 80 + (4 + e) * 4 + r = q * 480 + (0 * 80 + (4 + e) * 4 + r) by omega, d1]; exact nz⟩)]
  exact ⟨rfl, rfl⟩
-- merging all
theorem Iv_maA {st : St} {B : Nat} (hB : B < 2 ^ 31) (h : Iv st B) : ∀ k, k ≤ 3 → Iv (maA st k).1 B
  | 0, _ => by rw [maA_0]; exact h
  | k + 1, hk => by rw [maA_1]; exact Iv_mg hB (by omega) (by omega) (by omega) (Iv_maA hB h k (by omega))
theorem Iv_maAll {st : St} {B : Nat} (hB : B < 2 ^ 31) (h : Iv st B) : Iv (maAll st).1 B := by
  rw [maAll_1]
  exact Iv_mg hB (by decide) (by decide) (by decide) (Iv_mg hB (by decide) (by decide) (by decide) (Iv_mg hB (by decide) (by decide) (by decide) (Iv_maA hB h 3 (Nat.le_refl 3))))
theorem ma_kn (st : St) : ∀ a b, a < 4 → b < 4 → knP (maAll st).1 a b := by
  have h1 : knP (maA st 1).1 1 0 := by rw [maA_1]; exact kn_mg (by decide) (by decide) (by decide)
  have h2 : knP (maA st 2).1 2 1 := by rw [maA_1]; exact kn_mg (by decide) (by decide) (by decide)
  have h2' : knP (maA st 2).1 1 0 := by rw [maA_1]; exact kn_keep (by decide) (by decide) (by decide) (by decide) (by decide) h1
  have h3 : knP (maA st 3).1 3 2 := by rw [maA_1]; exact kn_mg (by decide) (by decide) (by decide)
  have h3' : knP (maA st 3).1 2 1 := by rw [maA_1]; exact kn_keep (by decide) (by decide) (by decide) (by decide) (by decide) h2
  have h3'' : knP (maA st 3).1 1 0 := by rw [maA_1]; exact kn_keep (by decide) (by decide) (by decide) (by decide) (by decide) h2'
  rw [maAll_1]
  generalize (maA st 3).1 = S at h3 h3' h3'' ⊢
  have k31 := kn_tr h3 h3'
  have k30 := kn_tr k31 h3''
  -- into 2
  have i32 : knP (mgS S 3 2) 3 2 := kn_mg2 (by decide) (by decide) (by decide) h3
  have i23 : knP (mgS S 3 2) 2 3 := kn_mg (by decide) (by decide) (by decide)
  have i31 : knP (mgS S 3 2) 3 1 := kn_keep (by decide) (by decide) (by decide) (by decide) (by decide) k31
  have i30 : knP (mgS S 3 2) 3 0 := kn_keep (by decide) (by decide) (by decide) (by decide) (by decide) k30
  generalize mgS S 3 2 = S2 at i32 i23 i31 i30 ⊢
  -- into 1
  have j31 : knP (mgS S2 3 1) 3 1 := kn_mg2 (by decide) (by decide) (by decide) i31
  have j13 : knP (mgS S2 3 1) 1 3 := kn_mg (by decide) (by decide) (by decide)
  have j32 : knP (mgS S2 3 1) 3 2 := kn_keep (by decide) (by decide) (by decide) (by decide) (by decide) i32
  have j23 : knP (mgS S2 3 1) 2 3 := kn_keep (by decide) (by decide) (by decide) (by decide) (by decide) i23
  have j30 : knP (mgS S2 3 1) 3 0 := kn_keep (by decide) (by decide) (by decide) (by decide) (by decide) i30
  generalize mgS S2 3 1 = S1 at j31 j13 j32 j23 j30 ⊢
  -- into 0
  have l30 : knP (mgS S1 3 0) 3 0 := kn_mg2 (by decide) (by decide) (by decide) j30
  have l03 : knP (mgS S1 3 0) 0 3 := kn_mg (by decide) (by decide) (by decide)
  have l32 : knP (mgS S1 3 0) 3 2 := kn_keep (by decide) (by decide) (by decide) (by decide) (by decide) j32
  have l23 : knP (mgS S1 3 0) 2 3 := kn_keep (by decide) (by decide) (by decide) (by decide) (by decide) j23
  have l31 : knP (mgS S1 3 0) 3 1 := kn_keep (by decide) (by decide) (by decide) (by decide) (by decide) j31
  have l13 : knP (mgS S1 3 0) 1 3 := kn_keep (by decide) (by decide) (by decide) (by decide) (by decide) j13
  generalize mgS S1 3 0 = S0 at l30 l03 l32 l23 l31 l13 ⊢
  have to3 : ∀ a, a < 4 → knP S0 a 3 := fun a ha => by
    have : a = 0 ∨ a = 1 ∨ a = 2 ∨ a = 3 := by omega
    rcases this with rfl | rfl | rfl | rfl
    · exact l03
    · exact l13
    · exact l23
    · exact kn_rf S0 3
  have from3 : ∀ b, b < 4 → knP S0 3 b := fun b hb => by
    have : b = 0 ∨ b = 1 ∨ b = 2 ∨ b = 3 := by omega
    rcases this with rfl | rfl | rfl | rfl
    · exact l30
    · exact l31
    · exact l32
    · exact kn_rf S0 3
  exact fun a b ha hb => kn_tr (to3 a ha) (from3 b hb)
theorem kn_all {st : St} {f t : Nat} (hf : f < 4) (ht : t < 4) (hne : f ≠ t) (h : ∀ a b, a < 4 → b < 4 → knP st a b) : ∀ a b, a < 4 → b < 4 → knP (mgS st f t) a b := fun a b ha hb o ho => by
  have e : ∀ a, a < 4 → (mgS st f t).2.2.2.1 (a * 4 + o) = st.2.2.2.1 (f * 4 + o) := fun a ha => by
    have q : ∀ c d, c < 4 → d < 4 → st.2.2.2.1 (c * 4 + o) = st.2.2.2.1 (d * 4 + o) := fun c d hc hd => Int32.le_antisymm (Int32.not_lt.mp (h d c hd hc o ho)) (Int32.not_lt.mp (h c d hc hd o ho))
    rw [mg_see hf ht hne ho]
    split
    · rw [mx_r (h f t hf ht o ho)]
    · exact q a f ha hf
  rw [e a ha, e b hb]; exact Int32.lt_irrefl
theorem ma_zero {st : St} {B : Nat} (hB : B < 2 ^ 31) (h : Iv st B) (hk : ∀ a b, a < 4 → b < 4 → knP st a b) : (maAll st).2 = 0 := by
  have go : ∀ k, k ≤ 3 → (maA st k).2 = 0 ∧ ∀ a b, a < 4 → b < 4 → knP (maA st k).1 a b := by
    intro k
    induction k with
    | zero => intro _; rw [maA_0]; exact ⟨rfl, hk⟩
    | succ k ih =>
      intro hk3
      obtain ⟨i1, i2⟩ := ih (by omega)
      refine ⟨?_, by rw [maA_1]; exact kn_all (by omega) (by omega) (by omega) i2⟩
      rw [← maA_p (mg_none hB (Iv_maA hB h k (by omega)) (by omega) (by omega) (i2 _ _ (by omega) (by omega)))]
      exact i1
  obtain ⟨g1, g2⟩ := go 3 (Nat.le_refl 3)
  have v3 := Iv_maA hB h 3 (Nat.le_refl 3)
  have step : ∀ (x : St × Nat) (t : Nat), t < 3 → Iv x.1 B → (∀ a b, a < 4 → b < 4 → knP x.1 a b) → (mgT x 3 t).2 = x.2 ∧ Iv (mgT x 3 t).1 B ∧ ∀ a b, a < 4 → b < 4 → knP (mgT x 3 t).1 a b := fun x t ht hx hkx => by
    refine ⟨mgT_p (mg_none hB hx (by decide) (by omega) (hkx _ _ (by omega) (by decide))), ?_, ?_⟩
    · rw [mgT_1]; exact Iv_mg hB (by decide) (by omega) (by omega) hx
    · rw [mgT_1]; exact kn_all (by decide) (by omega) (by omega) hkx
  obtain ⟨a1, a2, a3⟩ := step (maA st 3) 2 (by decide) v3 g2
  obtain ⟨b1, b2, b3⟩ := step _ 1 (by decide) a2 a3
  obtain ⟨c1, c2, c3⟩ := step _ 0 (by decide) b2 b3
  rw [maAll, c1, b1, a1, g1]
theorem ag_all {st : St} {B : Nat} (hB : B < 2 ^ 31) (h : Iv st B) (hk : ∀ a b, a < 4 → b < 4 → knP st a b) : agW st 6 = 30 := by
  have p : ∀ w g, w < 6 → g < 5 → agP st w g := fun w g hw hg k hkk r hr => by
    have hc := cE_b g hg
    have := (Iv_same hB h (a := 0) (b := r) (by decide) hr (hk _ _ (by decide) hr) (hk _ _ hr (by decide)) (w * 80 + g * 4 + k) (by omega)).1
    rw [show 0 * 480 + w * 80 + g * 4 + k = 0 * 480 + (w * 80 + g * 4 + k) by omega, show r * 480 + (0 * 480 + (w * 80 + g * 4 + k)) = r * 480 + (w * 80 + g * 4 + k) by omega]
    exact this
  have j : ∀ w, w < 6 → ∀ n, n ≤ 5 → agJ st w n = n := fun w hw n => by
    induction n with
    | zero => intro _; rfl
    | succ n ih => intro hn; rw [agJ, ih (by omega), if_pos (p w n hw (by omega))]
  have q : ∀ n, n ≤ 6 → agW st n = 5 * n := fun n => by
    induction n with
    | zero => intro _; rfl
    | succ n ih => intro hn; rw [agW, ih (by omega), j n (by omega) 5 (Nat.le_refl 5)]; omega
  exact q 6 (Nat.le_refl 6)
-- undo
def cnS (s : St) (F : Nat → St) : Nat → St
  | 0 => s
  | i + 1 => F i
/-- the saved states, the newest first -/
def Hn (sv : Nat → St) (ol n7 : Nat) (F : Nat → St) : Prop := ∀ i, i < n7 → sv ((ol + (n7 - 1 - i)) % 6) = F i
theorem Hn_rf (sv : Nat → St) (ol n7 : Nat) : Hn sv ol n7 (fun i => sv ((ol + (n7 - 1 - i)) % 6)) := fun _ _ => rfl
theorem Hn_save {sv F : Nat → St} {ol n7 m : Nat} (hh : hI ol n7 m) (h : Hn sv ol n7 F) (st : St) : Hn (va_up sv (slN ol n7) st) (olN ol n7) (n7N n7) (cnS st F) := fun i hi => by
  obtain ⟨h1, h2, h3, h4⟩ := hh
  have e0 : (olN ol n7 + (n7N n7 - 1 - 0)) % 6 = slN ol n7 := by
    unfold olN n7N slN
    by_cases c : n7 = 6
    · rw [if_pos c, if_pos c, if_pos c]; omega
    · rw [if_neg c, if_neg c, if_neg c]; congr 1
  match i, hi with
  | 0, _ => rw [e0]; exact va_up_self sv _ st
  | i + 1, hi =>
    have hn : n7N n7 ≤ 6 := by unfold n7N; split <;> omega
    have ho : olN ol n7 < 6 := by unfold olN; split <;> omega
    rw [va_up_ne sv st (fun z => by rw [← e0] at z; omega)]
    have hi' : i < n7 := by unfold n7N at hi; split at hi <;> omega
    refine Eq.trans (congrArg sv ?_) (h i hi')
    unfold olN n7N
    by_cases c : n7 = 6
    · rw [if_pos c, if_pos c]; omega
    · rw [if_neg c, if_neg c]; congr 1; omega
theorem Hn_undo {sv F : Nat → St} {ol n7 : Nat} (h : Hn sv ol n7 F) : Hn sv ol (n7 - 1) (fun i => F (i + 1)) := fun i hi => by
  have := h (i + 1) (by omega)
  rw [show n7 - 1 - (i + 1) = n7 - 1 - 1 - i by omega] at this
  exact this
theorem Hn_get {sv F : Nat → St} {ol n7 : Nat} (h : Hn sv ol n7 F) (h0 : 0 < n7) (st : St) : (if n7 = 0 then st else sv ((ol + (n7 - 1)) % 6)) = F 0 := by
  rw [if_neg (by omega)]
  exact h 0 h0
theorem n7N_p (n : Nat) : 0 < n7N n := by unfold n7N; split <;> omega
theorem n7N_6 : ∀ n, n < 7 → n7N (n7N (n7N (n7N (n7N (n7N n))))) = 6 := by decide
theorem n7N_2 : ∀ n, n < 7 → 1 < n7N (n7N n) := by decide
