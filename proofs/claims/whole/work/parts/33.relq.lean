/-! what a state tells, side by side -/
theorem clrE_app {f : Nat → Int32} {a m n : Nat} : clrE (clrE f a m) (a + m) n = clrE f a (m + n) := by
  funext i
  show (if a + m ≤ i ∧ i < a + m + n then 0 else if a ≤ i ∧ i < a + m then 0 else f i) = (if a ≤ i ∧ i < a + (m + n) then 0 else f i)
  by_cases c1 : a + m ≤ i ∧ i < a + m + n
  · rw [if_pos c1, if_pos (by omega)]
  · rw [if_neg c1]
    by_cases c2 : a ≤ i ∧ i < a + m
    · rw [if_pos c2, if_pos (by omega)]
    · rw [if_neg c2, if_neg (by omega)]
theorem cntE_9 (g : Nat → Int32) (a : Nat) : ∀ n, cntE g a n = sm9 (fun k => if g (a + k) = 0 then 0 else 1) n
  | 0 => rfl
  | n + 1 => by rw [cntE, sm9, cntE_9 g a n]
theorem cntG_9 (g : Nat → Int32) : ∀ n, cntG g n = sm9 (fun k => if g k ≤ 0 then 0 else 1) n
  | 0 => rfl
  | n + 1 => by rw [cntG, sm9, cntG_9 g n]
theorem cntE_add (g : Nat → Int32) (a m n : Nat) : cntE g a (m + n) = cntE g a m + cntE g (a + m) n := by
  rw [cntE_9, cntE_9, cntE_9, sm9_add]
  congr 1
  exact sm9_cg n (fun k _ => by rw [Nat.add_assoc])
theorem cntE_cg {g h : Nat → Int32} {a n : Nat} (e : ∀ k, k < n → g (a + k) = h (a + k)) : cntE g a n = cntE h a n := by
  rw [cntE_9, cntE_9]
  exact sm9_cg n (fun k hk => by rw [e k hk])
theorem cntG_cg {g h : Nat → Int32} {n : Nat} (e : ∀ k, k < n → g k = h k) : cntG g n = cntG h n := by
  rw [cntG_9, cntG_9]
  exact sm9_cg n (fun k hk => by rw [e k hk])
-- deleting a row
theorem Rl_clrC {st : St} {sa : Nat → Int32} {B r w : Nat} (hr : r < 4) (hw : w < 6) (h : Rl st sa B) : ∀ n, n ≤ 4 → Rl (clrS st (r * 480 + w * 80 + 0 * 4) (4 * n)) (dlA sa r w n) B ∧ dlA sa r w n = clrE sa (24 + 4 * (4 * (6 * r + w) + 0)) (4 * n)
  | 0, _ => by
    have e1 : clrS st (r * 480 + w * 80 + 0 * 4) (4 * 0) = st := by rw [clrS, Nat.mul_zero, clrE_0]
    rw [e1]
    exact ⟨h, (clrE_0 _ _).symm⟩
  | n + 1, hn => by
    obtain ⟨i1, i2⟩ := Rl_clrC hr hw h n (by omega)
    constructor
    · have h2 := Rl_clr (c := n) hr hw (by omega) i1
      have e2 : clrS (clrS st (r * 480 + w * 80 + 0 * 4) (4 * n)) (r * 480 + w * 80 + n * 4) 4 = clrS st (r * 480 + w * 80 + 0 * 4) (4 * (n + 1)) := by
        show (clrE (clrE st.1 (r * 480 + w * 80 + 0 * 4) (4 * n)) (r * 480 + w * 80 + n * 4) 4, _) = (clrE st.1 (r * 480 + w * 80 + 0 * 4) (4 * (n + 1)), _)
        rw [show r * 480 + w * 80 + n * 4 = r * 480 + w * 80 + 0 * 4 + 4 * n by omega, clrE_app]
        rfl
      rw [e2] at h2
      exact h2
    · rw [dlA, i2, show 24 + 4 * (4 * (6 * r + w) + n) = 24 + 4 * (4 * (6 * r + w) + 0) + 4 * n by omega, clrE_app]
      rfl
theorem Rl_clrD {st : St} {sa : Nat → Int32} {B r w : Nat} (hr : r < 4) (hw : w < 6) (h : Rl st sa B) : ∀ n, n ≤ 16 → Rl (clrS st (r * 480 + w * 80 + 4 * 4) (4 * n)) (dlB sa r w n) B ∧ dlB sa r w n = clrE sa (888 + 4 * (16 * (6 * r + w) + 0)) (4 * n)
  | 0, _ => by
    have e1 : clrS st (r * 480 + w * 80 + 4 * 4) (4 * 0) = st := by rw [clrS, Nat.mul_zero, clrE_0]
    rw [e1]
    exact ⟨h, (clrE_0 _ _).symm⟩
  | n + 1, hn => by
    obtain ⟨i1, i2⟩ := Rl_clrD hr hw h n (by omega)
    constructor
    · have h2 := Rl_clrE (e := n) hr hw (by omega) i1
      have e2 : clrS (clrS st (r * 480 + w * 80 + 4 * 4) (4 * n)) (r * 480 + w * 80 + (4 + n) * 4) 4 = clrS st (r * 480 + w * 80 + 4 * 4) (4 * (n + 1)) := by
        show (clrE (clrE st.1 (r * 480 + w * 80 + 4 * 4) (4 * n)) (r * 480 + w * 80 + (4 + n) * 4) 4, _) = (clrE st.1 (r * 480 + w * 80 + 4 * 4) (4 * (n + 1)), _)
        rw [show r * 480 + w * 80 + (4 + n) * 4 = r * 480 + w * 80 + 4 * 4 + 4 * n by omega, clrE_app]
        rfl
      rw [e2] at h2
      exact h2
    · rw [dlB, i2, show 888 + 4 * (16 * (6 * r + w) + n) = 888 + 4 * (16 * (6 * r + w) + 0) + 4 * n by omega, clrE_app]
      rfl
theorem Rl_del {st : St} {sa : Nat → Int32} {B r w : Nat} (hr : r < 4) (hw : w < 6) (h : Rl st sa B) : Rl (delS st r w) (delM sa r w) (B + 1) ∧ hiE sa (delM sa r w) := by
  have h1 := Rl_clrC hr hw (Rl_beg hr h) 4 (Nat.le_refl 4)
  have h2 := Rl_clrD hr hw h1.1 16 (Nat.le_refl 16)
  constructor
  · have e2 : clrS (clrS (begU st r) (r * 480 + w * 80 + 0 * 4) (4 * 4)) (r * 480 + w * 80 + 4 * 4) (4 * 16) = delS st r w := by
      show (clrE (clrE (begU st r).1 (r * 480 + w * 80 + 0 * 4) (4 * 4)) (r * 480 + w * 80 + 4 * 4) (4 * 16), _) = (clrE (begU st r).1 (r * 480 + w * 80 + 0 * 4) 80, _)
      rw [show r * 480 + w * 80 + 4 * 4 = r * 480 + w * 80 + 0 * 4 + 4 * 4 by omega, clrE_app]
      rfl
    rw [e2] at h2
    exact h2.1
  · intro p hp
    rw [delM, h2.2, h1.2, clrE_out (Or.inr (by omega)), clrE_out (Or.inr (by omega)), bgM_o hr (by omega)]
-- a row's entries, counted
theorem en_eq {st : St} {sa : Nat → Int32} {B r w c : Nat} (hB : B < 2 ^ 31) (h : Rl st sa B) (h1 : r < 4) (h2 : w < 6) (h3 : c < 4) : cntE st.1 (r * 480 + w * 80 + c * 4) 4 = enM sa r w c 4 := by
  rw [cn_eq hB h h1 h2 h3 4 (Nat.le_refl 4)]
  have hs : ∀ n, enM sa r w c n = cntG (fun j => sa (24 + (4 * (4 * (6 * r + w) + c) + j))) n := by
    intro n
    induction n with
    | zero => rfl
    | succ n ih => rw [enM, if_neg (by omega), cntG, ih]
  exact (hs 4).symm
theorem sm9_ex (u : Nat → Nat → Nat) : ∀ E, sm9 (fun k => sm9 (fun e => u e k) E) 4 = sm9 (fun i => u (i / 4) (i % 4)) (4 * E)
  | 0 => rfl
  | E + 1 => by
    have ih := sm9_ex u E
    rw [show 4 * (E + 1) = 4 * E + 4 by omega, sm9_add, ← ih]
    have e4 : sm9 (fun k => u ((4 * E + k) / 4) ((4 * E + k) % 4)) 4 = u E 0 + u E 1 + u E 2 + u E 3 := by
      have q : ∀ k, k < 4 → u ((4 * E + k) / 4) ((4 * E + k) % 4) = u E k := fun k hk => by rw [show (4 * E + k) / 4 = E by omega, show (4 * E + k) % 4 = k by omega]
      rw [sm9_cg 4 q]
      show 0 + u E 0 + u E 1 + u E 2 + u E 3 = _
      omega
    rw [e4]
    show 0 + (sm9 (fun e => u e 0) E + u E 0) + (sm9 (fun e => u e 1) E + u E 1) + (sm9 (fun e => u e 2) E + u E 2) + (sm9 (fun e => u e 3) E + u E 3) = 0 + sm9 (fun e => u e 0) E + sm9 (fun e => u e 1) E + sm9 (fun e => u e 2) E + sm9 (fun e => u e 3) E + (u E 0 + u E 1 + u E 2 + u E 3)
    omega
theorem en_eq4 {st : St} {sa : Nat → Int32} {B r w : Nat} (hB : B < 2 ^ 31) (h : Rl st sa B) (h1 : r < 4) (h2 : w < 6) : cntE st.1 (r * 480 + w * 80 + 4 * 4) 64 = enM sa r w 4 4 := by
  have hi : ∀ k E, enI sa r w k E = sm9 (fun e => if sa (888 + 4 * (16 * (6 * r + w) + e) + k) ≤ 0 then 0 else 1) E := by
    intro k E
    induction E with
    | zero => rfl
    | succ n ih => rw [enI, sm9, ih]
  have hs : ∀ n, enM sa r w 4 n = sm9 (fun k => sm9 (fun e => if sa (888 + 4 * (16 * (6 * r + w) + e) + k) ≤ 0 then 0 else 1) 16) n := by
    intro n
    induction n with
    | zero => rfl
    | succ n ih => rw [enM, if_pos rfl, sm9, ih, hi]
  rw [hs 4, sm9_ex (fun e k => if sa (888 + 4 * (16 * (6 * r + w) + e) + k) ≤ 0 then 0 else 1) 16, cntE_9]
  refine sm9_cg 64 (fun i hi => ?_)
  have hz := RlE.z hB h h1 h2 (show i / 4 < 16 by omega) (show i % 4 < 4 by omega)
  rw [show r * 480 + w * 80 + (4 + i / 4) * 4 + i % 4 = r * 480 + w * 80 + 4 * 4 + i by omega] at hz
  show (if st.1 (r * 480 + w * 80 + 4 * 4 + i) = 0 then 0 else 1) = (if sa (888 + 4 * (16 * (6 * r + w) + i / 4) + i % 4) ≤ 0 then 0 else 1)
  by_cases e : st.1 (r * 480 + w * 80 + 4 * 4 + i) = 0
  · rw [if_pos e, if_pos (hz.mp e)]
  · rw [if_neg e, if_neg (fun z => e (hz.mpr z))]
theorem en_all {st : St} {sa : Nat → Int32} {B r w c : Nat} (hB : B < 2 ^ 31) (h : Rl st sa B) (h1 : r < 4) (h2 : w < 6) (h3 : c < 5) : cntE st.1 (r * 480 + w * 80 + c * 4) (cE c * 4 - c * 4) = enM sa r w c 4 := by
  by_cases e : c = 4
  · subst e; exact en_eq4 hB h h1 h2
  · rw [show cE c * 4 - c * 4 = 4 by rw [cE, if_neg e]; omega]
    exact en_eq hB h h1 h2 (by omega)
theorem ex_eq {st : St} {sa : Nat → Int32} {B r w : Nat} (hB : B < 2 ^ 31) (h : Rl st sa B) (h1 : r < 4) (h2 : w < 6) : cntE st.1 (r * 480 + w * 80 + 0 * 4) 80 = exS sa r w 5 := by
  have e0 := en_eq (c := 0) hB h h1 h2 (by omega)
  have e1 := en_eq (c := 1) hB h h1 h2 (by omega)
  have e2 := en_eq (c := 2) hB h h1 h2 (by omega)
  have e3 := en_eq (c := 3) hB h h1 h2 (by omega)
  have e4 := en_eq4 hB h h1 h2
  have h5 : exS sa r w 5 = 0 + enM sa r w 0 4 + enM sa r w 1 4 + enM sa r w 2 4 + enM sa r w 3 4 + enM sa r w 4 4 := by simp only [exS]
  rw [h5, ← e0, ← e1, ← e2, ← e3, ← e4, show (80 : Nat) = 4 + (4 + (4 + (4 + 64))) from rfl, cntE_add, cntE_add, cntE_add, cntE_add, show r * 480 + w * 80 + 1 * 4 = r * 480 + w * 80 + 0 * 4 + 4 by omega, show r * 480 + w * 80 + 2 * 4 = r * 480 + w * 80 + 0 * 4 + 4 + 4 by omega, show r * 480 + w * 80 + 3 * 4 = r * 480 + w * 80 + 0 * 4 + 4 + 4 + 4 by omega, show r * 480 + w * 80 + 4 * 4 = r * 480 + w * 80 + 0 * 4 + 4 + 4 + 4 + 4 by omega]
  omega
theorem dl_eq {st : St} {sa : Nat → Int32} {B r w : Nat} (hB : B < 2 ^ 31) (h : Rl st sa B) (h1 : r < 4) (h2 : w < 6) : cntE st.1 (r * 480 + w * 80 + 0 * 4) 80 = dcA (bgM sa r) r w 4 + dcB (dlA (bgM sa r) r w 4) r w 16 := by
  rw [ex_eq hB h h1 h2]
  have qa : ∀ n, n ≤ 4 → dcA (bgM sa r) r w n = exS sa r w n := by
    intro n
    induction n with
    | zero => intro _; rfl
    | succ n ih =>
      intro hn
      rw [dcA, exS, ih (by omega)]
      congr 1
      rw [← en_eq hB h h1 h2 (show n < 4 by omega), cn_eq hB h h1 h2 (show n < 4 by omega) 4 (Nat.le_refl 4)]
      refine cntG_cg (fun j hj => ?_)
      show dlA (bgM sa r) r w n (24 + (4 * (4 * (6 * r + w) + n) + j)) = sa (24 + (4 * (4 * (6 * r + w) + n) + j))
      rw [(Rl_clrC h1 h2 (Rl_beg h1 h) n (by omega)).2, clrE_out (Or.inr (by omega)), bgM_o h1 (by omega)]
  have qb : ∀ n, n ≤ 16 → dcB (dlA (bgM sa r) r w 4) r w n = sm9 (fun e => cntG (fun j => sa (888 + 4 * (16 * (6 * r + w) + e) + j)) 4) n := by
    intro n
    induction n with
    | zero => intro _; rfl
    | succ n ih =>
      intro hn
      rw [dcB, sm9, ih (by omega)]
      congr 1
      refine cntG_cg (fun j hj => ?_)
      show dlB (dlA (bgM sa r) r w 4) r w n (888 + 4 * (16 * (6 * r + w) + n) + j) = sa (888 + 4 * (16 * (6 * r + w) + n) + j)
      have hc := Rl_clrC h1 h2 (Rl_beg h1 h) 4 (Nat.le_refl 4)
      rw [(Rl_clrD h1 h2 hc.1 n (by omega)).2, hc.2, clrE_out (Or.inr (by omega)), clrE_out (Or.inr (by omega)), bgM_o h1 (by omega)]
  rw [qa 4 (Nat.le_refl 4), qb 16 (Nat.le_refl 16)]
  show exS sa r w 4 + enM sa r w 4 4 = _
  congr 1
  rw [← en_eq4 hB h h1 h2]
  have q : ∀ n, n ≤ 16 → cntE st.1 (r * 480 + w * 80 + 4 * 4) (4 * n) = sm9 (fun e => cntG (fun j => sa (888 + 4 * (16 * (6 * r + w) + e) + j)) 4) n := by
    intro n
    induction n with
    | zero => intro _; rfl
    | succ n ih =>
      intro hn
      rw [show 4 * (n + 1) = 4 * n + 4 by omega, cntE_add, ih (by omega), sm9, ← ce_eq hB h h1 h2 (show n < 16 by omega) 4 (Nat.le_refl 4), show r * 480 + w * 80 + (4 + n) * 4 = r * 480 + w * 80 + 4 * 4 + 4 * n by omega]
  exact q 16 (Nat.le_refl 16)
theorem pu_eq {st : St} {sa : Nat → Int32} {B r w c : Nat} (hB : B < 2 ^ 31) (h : Rl st sa B) (h1 : r < 4) (h2 : w < 6) (h3 : c < 4) : cntE st.1 (r * 480 + w * 80 + c * 4) 4 = cntG (fun j9 => bgM sa r (24 + (4 * (4 * (6 * r + w) + c) + j9))) 4 := by
  rw [cn_eq hB h h1 h2 h3 4 (Nat.le_refl 4)]
  exact cntG_cg (fun j hj => (bgM_o h1 (by omega)).symm)
theorem pe_eq {st : St} {sa : Nat → Int32} {B r w e : Nat} (hB : B < 2 ^ 31) (h : Rl st sa B) (h1 : r < 4) (h2 : w < 6) (h3 : e < 16) : cntE st.1 (r * 480 + w * 80 + (4 + e) * 4) 4 = cntG (fun j9 => bgM sa r (888 + 4 * (16 * (6 * r + w) + e) + j9)) 4 := by
  rw [ce_eq hB h h1 h2 h3 4 (Nat.le_refl 4)]
  exact cntG_cg (fun j hj => (bgM_o h1 (by omega)).symm)
theorem cf_eq {st : St} {sa : Nat → Int32} {B r : Nat} (hB : B < 2 ^ 31) (h : Rl st sa B) (h1 : r < 4) : ∀ n, n ≤ 6 → cfS st r n = cfM sa r n
  | 0, _ => rfl
  | n + 1, hn => by
    rw [cfS, cfM, cf_eq hB h h1 n (by omega)]
    congr 1
    rw [en_all hB h h1 (show n < 6 by omega) (show 1 < 5 by omega)]
    by_cases e : enM sa r n 1 4 ≤ 1
    · rw [if_pos e, if_pos (by omega)]
    · rw [if_neg e, if_neg (by omega)]
-- the latest value
theorem lt_eq {st : St} {sa : Nat → Int32} {B r w : Nat} (hB : B < 2 ^ 31) (h : Rl st sa B) (h1 : r < 4) (h2 : w < 6) : ∀ k, k ≤ 4 → ltE st (r * 480 + w * 80 + 0 * 4) k = if lfN sa r w k = 4 then (nI 0, -1) else (sa (792 + 4 * (6 * r + w) + lfN sa r w k), sa (408 + (4 * (4 * (6 * r + w) + 0) + lfN sa r w k)))
  | 0, _ => rfl
  | k + 1, hk => by
    have ih := lt_eq hB h h1 h2 k (by omega)
    have hz := RlC.z hB h h1 h2 (show 0 < 4 by omega) (show k < 4 by omega)
    have hl : lfN sa r w (k + 1) = if ¬ sa (24 + (4 * (4 * (6 * r + w) + 0) + k)) ≤ 0 ∧ (lfN sa r w k = 4 ∨ ¬ sa (792 + 4 * (6 * r + w) + k) < sa (792 + 4 * (6 * r + w) + lfN sa r w k)) then k else lfN sa r w k := by rw [lfN]
    show (if st.1 (r * 480 + w * 80 + 0 * 4 + k) = 0 then ltE st (r * 480 + w * 80 + 0 * 4) k else if st.2.1 (r * 480 + w * 80 + 0 * 4 + k) < (ltE st (r * 480 + w * 80 + 0 * 4) k).1 then ltE st (r * 480 + w * 80 + 0 * 4) k else (st.2.1 (r * 480 + w * 80 + 0 * 4 + k), st.2.2.1 (r * 480 + w * 80 + 0 * 4 + k))) = _
    by_cases e : st.1 (r * 480 + w * 80 + 0 * 4 + k) = 0
    · have hl9 : lfN sa r w (k + 1) = lfN sa r w k := by rw [hl, if_neg (fun z => z.1 (hz.mp e))]
      rw [if_pos e, hl9]; exact ih
    · have c9 := (h.2.1 r w 0 k h1 h2 (by omega) (by omega)).2.2 rfl (fun z => e (hz.mpr (by rw [z]; exact Int32.le_refl 0)))
      rw [if_neg e, c9.1, RlC.v h h1 h2 (show 0 < 4 by omega) (show k < 4 by omega) e]
      by_cases e4 : lfN sa r w k = 4
      · rw [if_pos e4] at ih
        have hl9 : lfN sa r w (k + 1) = k := by rw [hl, if_pos ⟨fun z => e (hz.mpr z), Or.inl e4⟩]
        rw [hl9, ih, if_neg (show ¬ k = 4 by omega), if_neg (by rw [nI_0]; exact sm_nn c9.2 hB)]
      · rw [if_neg e4] at ih
        rw [ih]
        by_cases e5 : sa (792 + 4 * (6 * r + w) + k) < sa (792 + 4 * (6 * r + w) + lfN sa r w k)
        · have hl9 : lfN sa r w (k + 1) = lfN sa r w k := by rw [hl, if_neg (fun z => z.2.elim e4 (fun y => y e5))]
          rw [if_pos e5, hl9, if_neg e4]
        · have hl9 : lfN sa r w (k + 1) = k := by rw [hl, if_pos ⟨fun z => e (hz.mpr z), Or.inr e5⟩]
          rw [if_neg e5, hl9, if_neg (show ¬ k = 4 by omega)]
theorem lt_eq2 {st : St} {sa : Nat → Int32} {B r w : Nat} (hB : B < 2 ^ 31) (h : Rl st sa B) (h1 : r < 4) (h2 : w < 6) : (ltE st (r * 480 + w * 80 + 0 * 4) 4).2 = ltM sa r w := by
  rw [lt_eq hB h h1 h2 4 (Nat.le_refl 4), ltM]
  by_cases e : lfN sa r w 4 = 4
  · rw [if_pos e, if_pos e]
  · rw [if_neg e, if_neg e]
-- siblings
theorem rk_eq {st : St} {sa : Nat → Int32} {B r w i : Nat} (hB : B < 2 ^ 31) (h : Rl st sa B) (h1 : r < 4) (h2 : w < 6) (hi : i < 4) (hz0 : ¬ st.1 (r * 480 + w * 80 + 1 * 4 + i) = 0) : ∀ k, k ≤ 4 → rkE st (r * 480 + w * 80 + 1 * 4) (r * 480 + w * 80 + 1 * 4 + i) k = ahM sa r w i k
  | 0, _ => rfl
  | k + 1, hk => by
    have ih := rk_eq hB h h1 h2 hi hz0 k (by omega)
    have hz := RlC.z hB h h1 h2 (show 1 < 4 by omega) (show k < 4 by omega)
    have v0 := RlC.v h h1 h2 (show 1 < 4 by omega) hi hz0
    rw [rkE, ahM, ih]
    congr 1
    by_cases e : st.1 (r * 480 + w * 80 + 1 * 4 + k) = 0
    · rw [if_neg (fun z => z.1 e), if_neg (fun z => z.1 (hz.mp e))]
    · have v1 := RlC.v h h1 h2 (show 1 < 4 by omega) (show k < 4 by omega) e
      have hq : (¬ st.1 (r * 480 + w * 80 + 1 * 4 + k) = 0 ∧ befP st (r * 480 + w * 80 + 1 * 4 + k) (r * 480 + w * 80 + 1 * 4 + i)) ↔ ahP sa r w i k := by
        show (¬ st.1 (r * 480 + w * 80 + 1 * 4 + k) = 0 ∧ (st.2.2.1 (r * 480 + w * 80 + 1 * 4 + k) < st.2.2.1 (r * 480 + w * 80 + 1 * 4 + i) ∨ (st.2.2.1 (r * 480 + w * 80 + 1 * 4 + k) = st.2.2.1 (r * 480 + w * 80 + 1 * 4 + i) ∧ r * 480 + w * 80 + 1 * 4 + k < r * 480 + w * 80 + 1 * 4 + i))) ↔ (¬ sa (24 + (4 * (4 * (6 * r + w) + 1) + k)) ≤ 0 ∧ (sa (408 + (4 * (4 * (6 * r + w) + 1) + k)) < sa (408 + (4 * (4 * (6 * r + w) + 1) + i)) ∨ (sa (408 + (4 * (4 * (6 * r + w) + 1) + k)) = sa (408 + (4 * (4 * (6 * r + w) + 1) + i)) ∧ k < i)))
        rw [v0, v1, hz]
        exact and_congr Iff.rfl (or_congr Iff.rfl (and_congr Iff.rfl (by omega)))
      by_cases e2 : ahP sa r w i k
      · rw [if_pos (hq.mpr e2), if_pos e2]
      · rw [if_neg (fun z => e2 (hq.mp z)), if_neg e2]
theorem sb_eq {st : St} {sa : Nat → Int32} {B r w : Nat} (x : Int32) (hB : B < 2 ^ 31) (h : Rl st sa B) (h1 : r < 4) (h2 : w < 6) : ∀ n i, i + n = 4 → sbE st (r * 480 + w * 80 + 1 * 4) 4 x n i = sbM sa r w x n i
  | 0, _, _ => rfl
  | n + 1, i, hi => by
    have ih := sb_eq x hB h h1 h2 n (i + 1) (by omega)
    have hz := RlC.z hB h h1 h2 (show 1 < 4 by omega) (show i < 4 by omega)
    rw [sbE, sbM, ih]
    by_cases e : st.1 (r * 480 + w * 80 + 1 * 4 + i) = 0
    · rw [if_neg (fun z => z.1 e), if_neg (fun z => z.1 (hz.mp e))]
    · rw [rk_eq hB h h1 h2 (by omega) e 4 (Nat.le_refl 4), RlC.v h h1 h2 (show 1 < 4 by omega) (show i < 4 by omega) e]
      by_cases e2 : nI (ahM sa r w i 4) = x
      · rw [if_pos ⟨e, e2⟩, if_pos ⟨fun z => e (hz.mpr z), e2⟩]
      · rw [if_neg (fun z => e2 z.2), if_neg (fun z => e2 z.2)]
-- the set
theorem el_eq {st : St} {sa : Nat → Int32} {B r w : Nat} (hB : B < 2 ^ 31) (h : Rl st sa B) (h1 : r < 4) (h2 : w < 6) : ∀ k, k ≤ 64 → ebE st (r * 480 + w * 80 + 4 * 4) k = elM sa r w k
  | 0, _ => rfl
  | k + 1, hk => by
    have ih := el_eq hB h h1 h2 k (by omega)
    have hz := RlE.z hB h h1 h2 (show k / 4 < 16 by omega) (show k % 4 < 4 by omega)
    have hv := (h.2.2 r w (k / 4) (k % 4) h1 h2 (by omega) (by omega)).2
    rw [show r * 480 + w * 80 + (4 + k / 4) * 4 + k % 4 = r * 480 + w * 80 + 4 * 4 + k by omega] at hz hv
    rw [ebE, elM, ih]
    by_cases e : st.1 (r * 480 + w * 80 + 4 * 4 + k) = 0
    · rw [if_pos e, if_pos (hz.mp e), nI_0, Int32.or_zero]
    · rw [if_neg e, if_neg (fun z => e (hz.mpr z)), hv (fun z => e (hz.mpr (by rw [z]; exact Int32.le_refl 0)))]
-- replicas
theorem kn_eq {st : St} {sa : Nat → Int32} {B a b : Nat} (h : Rl st sa B) (ha : a < 4) (hb : b < 4) : knP st a b ↔ kwM sa a b 4 := by
  show (∀ o, o < 4 → ¬ st.2.2.2.1 (a * 4 + o) < st.2.2.2.1 (b * 4 + o)) ↔ (∀ o, o < 4 → ¬ sa (0 + 4 * a + o) < sa (0 + 4 * b + o))
  constructor
  · intro z o ho
    have := z o ho
    rw [(h.1.1 (a * 4 + o) (by omega)).1, (h.1.1 (b * 4 + o) (by omega)).1] at this
    rw [show 0 + 4 * a + o = a * 4 + o by omega, show 0 + 4 * b + o = b * 4 + o by omega]; exact this
  · intro z o ho
    have := z o ho
    rw [(h.1.1 (a * 4 + o) (by omega)).1, (h.1.1 (b * 4 + o) (by omega)).1, show a * 4 + o = 0 + 4 * a + o by omega, show b * 4 + o = 0 + 4 * b + o by omega]; exact this
theorem re_eq {st : St} {sa : Nat → Int32} {B a b : Nat} (h : Rl st sa B) (ha : a < 4) (hb : b < 4) : reS st a b = reM sa a b := by
  have q1 := kn_eq h ha hb
  have q2 := kn_eq h hb ha
  unfold reS reM
  by_cases e1 : knP st a b
  · rw [if_pos e1, if_pos (q1.mp e1)]
    by_cases e2 : knP st b a
    · rw [if_pos e2, if_pos (q2.mp e2)]
    · rw [if_neg e2, if_neg (fun z => e2 (q2.mpr z))]
  · rw [if_neg e1, if_neg (fun z => e1 (q1.mpr z))]
    by_cases e2 : knP st b a
    · rw [if_pos e2, if_pos (q2.mp e2)]
    · rw [if_neg e2, if_neg (fun z => e2 (q2.mpr z))]
theorem ag_eq {st : St} {sa : Nat → Int32} {B w g : Nat} (h : Rl st sa B) (hw : w < 6) (hg : g < 5) : agP st w g ↔ (liM sa 1 w g 64 ∧ liM sa 2 w g 64 ∧ liM sa 3 w g 64) := by
  by_cases e4 : g = 4
  · subst e4
    have q : ∀ r k, r < 4 → k < 64 → (lkP sa r w 4 k ↔ st.1 (0 * 480 + w * 80 + 4 * 4 + k) = st.1 (r * 480 + (0 * 480 + w * 80 + 4 * 4 + k))) := fun r k hr hk => by
      have v0 := (h.2.2 0 w (k / 4) (k % 4) (by omega) hw (by omega) (by omega)).1.1
      have v1 := (h.2.2 r w (k / 4) (k % 4) hr hw (by omega) (by omega)).1.1
      rw [show 0 * 480 + w * 80 + (4 + k / 4) * 4 + k % 4 = 0 * 480 + w * 80 + 4 * 4 + k by omega] at v0
      rw [show r * 480 + w * 80 + (4 + k / 4) * 4 + k % 4 = r * 480 + (0 * 480 + w * 80 + 4 * 4 + k) by omega] at v1
      rw [v0, v1]
      show (if 4 = 4 then sa (888 + 4 * (16 * (6 * 0 + w) + k / 4) + k % 4) = sa (888 + 4 * (16 * (6 * r + w) + k / 4) + k % 4) else _) ↔ _
      rw [if_pos rfl]
    constructor
    · intro z
      exact ⟨fun k hk => (q 1 k (by omega) hk).mpr (z k (by rw [show cE 4 = 20 from rfl]; omega) 1 (by omega)), fun k hk => (q 2 k (by omega) hk).mpr (z k (by rw [show cE 4 = 20 from rfl]; omega) 2 (by omega)), fun k hk => (q 3 k (by omega) hk).mpr (z k (by rw [show cE 4 = 20 from rfl]; omega) 3 (by omega))⟩
    · intro z k hk r hr
      rw [show cE 4 = 20 from rfl] at hk
      have hr4 : r = 0 ∨ r = 1 ∨ r = 2 ∨ r = 3 := by omega
      rcases hr4 with rfl | rfl | rfl | rfl
      · rw [show 0 * 480 + (0 * 480 + w * 80 + 4 * 4 + k) = 0 * 480 + w * 80 + 4 * 4 + k by omega]
      · exact (q 1 k (by omega) (by omega)).mp (z.1 k (by omega))
      · exact (q 2 k (by omega) (by omega)).mp (z.2.1 k (by omega))
      · exact (q 3 k (by omega) (by omega)).mp (z.2.2 k (by omega))
  · have hce : cE g * 4 - g * 4 = 4 := by rw [cE, if_neg e4]; omega
    have q : ∀ r k, r < 4 → k < 4 → (lkP sa r w g k ↔ st.1 (0 * 480 + w * 80 + g * 4 + k) = st.1 (r * 480 + (0 * 480 + w * 80 + g * 4 + k))) := fun r k hr hk => by
      have v0 := (h.2.1 0 w g k (by omega) hw (by omega) hk).1.1
      have v1 := (h.2.1 r w g k hr hw (by omega) hk).1.1
      rw [show r * 480 + w * 80 + g * 4 + k = r * 480 + (0 * 480 + w * 80 + g * 4 + k) by omega] at v1
      rw [v0, v1]
      show (if g = 4 then _ else sa (24 + (4 * (4 * (6 * 0 + w) + g) + k % 4)) = sa (24 + (4 * (4 * (6 * r + w) + g) + k % 4))) ↔ _
      rw [if_neg e4, show k % 4 = k by omega]
    have q4 : ∀ r k, lkP sa r w g k ↔ lkP sa r w g (k % 4) := fun r k => by
      show (if g = 4 then _ else sa (24 + (4 * (4 * (6 * 0 + w) + g) + k % 4)) = sa (24 + (4 * (4 * (6 * r + w) + g) + k % 4))) ↔ (if g = 4 then _ else sa (24 + (4 * (4 * (6 * 0 + w) + g) + k % 4 % 4)) = sa (24 + (4 * (4 * (6 * r + w) + g) + k % 4 % 4)))
      rw [if_neg e4, if_neg e4, show k % 4 % 4 = k % 4 by omega]
    constructor
    · intro z
      exact ⟨fun k hk => (q4 1 k).mpr ((q 1 (k % 4) (by omega) (by omega)).mpr (z (k % 4) (by omega) 1 (by omega))), fun k hk => (q4 2 k).mpr ((q 2 (k % 4) (by omega) (by omega)).mpr (z (k % 4) (by omega) 2 (by omega))), fun k hk => (q4 3 k).mpr ((q 3 (k % 4) (by omega) (by omega)).mpr (z (k % 4) (by omega) 3 (by omega)))⟩
    · intro z k hk r hr
      rw [hce] at hk
      have hr4 : r = 0 ∨ r = 1 ∨ r = 2 ∨ r = 3 := by omega
      rcases hr4 with rfl | rfl | rfl | rfl
      · rw [show 0 * 480 + (0 * 480 + w * 80 + g * 4 + k) = 0 * 480 + w * 80 + g * 4 + k by omega]
      · exact (q 1 k (by omega) hk).mp (z.1 k (by omega))
      · exact (q 2 k (by omega) hk).mp (z.2.1 k (by omega))
      · exact (q 3 k (by omega) hk).mp (z.2.2 k (by omega))
