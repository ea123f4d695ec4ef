/-! saved states, texts, mergeAll, the start, side by side -/
def Hs (sv : Nat → St) (ol n7 : Nat) (sa : Nat → Int32) (B : Nat) : Prop := ∀ i, i < n7 → Rl (sv ((ol + i) % 6)) (fun p => sa (2424 * (i + 1) + p)) B
theorem Hs_m {sv : Nat → St} {ol n7 B B' : Nat} {sa : Nat → Int32} (h : Hs sv ol n7 sa B) (hB : B ≤ B') : Hs sv ol n7 sa B' := fun i hi => Rl_m (h i hi) hB
theorem Hs_hi {sv : Nat → St} {ol n7 B : Nat} {sa sb : Nat → Int32} (h : Hs sv ol n7 sa B) (he : hiE sa sb) : Hs sv ol n7 sb B := fun i hi => Rl_cg (h i hi) (fun p _ => he _ (by omega))
theorem cpM_at {sa : Nat → Int32} {f t : Nat} (hne : f ≠ t) : ∀ n, n ≤ 2424 → ∀ p, cpM sa f t n p = if 2424 * t ≤ p ∧ p < 2424 * t + n then sa (2424 * f + (p - 2424 * t)) else sa p
  | 0, _, p => by rw [if_neg (by omega)]; rfl
  | n + 1, hn, p => by
    have ih := cpM_at (sa := sa) hne n (by omega)
    rw [cpM, ih (2424 * f + n), if_neg (by omega)]
    by_cases e : p = 2424 * t + n
    · rw [e, pk_us, if_pos (by omega), show 2424 * t + n - 2424 * t = n by omega]
    · rw [pk_un e, ih p]
      by_cases e2 : 2424 * t ≤ p ∧ p < 2424 * t + n
      · rw [if_pos e2, if_pos (by omega)]
      · rw [if_neg e2, if_neg (by omega)]
theorem shM_at {sa : Nat → Int32} : ∀ n, n ≤ 5 → (∀ p, p < 2424 → shM sa n p = sa p) ∧ (∀ b p, p < 2424 → shM sa n (2424 * (b + 1) + p) = if b < n then sa (2424 * (b + 2) + p) else sa (2424 * (b + 1) + p))
  | 0, _ => ⟨fun _ _ => rfl, fun b p _ => by rw [if_neg (Nat.not_lt_zero b)]; rfl⟩
  | n + 1, hn => by
    obtain ⟨i1, i2⟩ := shM_at (sa := sa) n (by omega)
    rw [shM]
    refine ⟨fun p hp => ?_, fun b p hp => ?_⟩
    · rw [cpM_at (by omega) 2424 (Nat.le_refl _), if_neg (by omega)]; exact i1 p hp
    · rw [cpM_at (by omega) 2424 (Nat.le_refl _)]
      by_cases e : b = n
      · rw [e, if_pos (by omega), show 2424 * (n + 1) + p - 2424 * (n + 1) = p by omega, i2 (n + 1) p hp, if_neg (by omega), if_pos (by omega)]
      · rw [if_neg (by omega), i2 b p hp]
        by_cases e2 : b < n
        · rw [if_pos e2, if_pos (by omega)]
        · rw [if_neg e2, if_neg (by omega)]
theorem kpM_lo {sa : Nat → Int32} {n : Nat} (hn : n ≤ 6) {p : Nat} (hp : p < 2424) : kpM sa n p = sa p := by
  have hb := kpN_b n hn
  rw [kpM, cpM_at (by omega) 2424 (Nat.le_refl _), if_neg (by omega)]
  by_cases e : n = 6
  · rw [if_pos e]; exact (shM_at 5 (Nat.le_refl 5)).1 p hp
  · rw [if_neg e]
theorem Rl_kp {st : St} {sa : Nat → Int32} {B n : Nat} (hn : n ≤ 6) (h : Rl st sa B) : Rl st (kpM sa n) B := Rl_cg h (fun p hp => kpM_lo hn hp)
theorem Hs_kp {st : St} {sv : Nat → St} {sa : Nat → Int32} {ol n7 m B : Nat} (hh : hI ol n7 m) (h : Rl st sa B) (hs : Hs sv ol n7 sa B) : Hs (va_up sv (slN ol n7) st) (olN ol n7) (n7N n7) (kpM sa n7) B := by
  obtain ⟨h1, h2, h3, -⟩ := hh
  intro i hi
  by_cases h6 : n7 = 6
  · subst h6
    rw [n7N, if_pos rfl] at hi
    rw [slN, olN, if_pos rfl, if_pos rfl]
    have hk : ∀ p, p < 2424 → kpM sa 6 (2424 * (i + 1) + p) = if i = 5 then sa p else sa (2424 * (i + 2) + p) := fun p hp => by
      rw [kpM, show kpN 6 = 6 from rfl, cpM_at (by omega) 2424 (Nat.le_refl _), if_pos rfl]
      by_cases e : i = 5
      · rw [if_pos (by omega), if_pos e, show 2424 * 0 + (2424 * (i + 1) + p - 2424 * 6) = p by omega]; exact (shM_at 5 (Nat.le_refl 5)).1 p hp
      · rw [if_neg (by omega), if_neg e, (shM_at 5 (Nat.le_refl 5)).2 i p hp, if_pos (by omega)]
    by_cases e : i = 5
    · rw [show ((ol + 1) % 6 + i) % 6 = ol by omega, va_up_self]
      exact Rl_cg h (fun p hp => by rw [hk p hp, if_pos e])
    · rw [va_up_ne sv st (show ((ol + 1) % 6 + i) % 6 ≠ ol by omega), show ((ol + 1) % 6 + i) % 6 = (ol + (i + 1)) % 6 by omega]
      exact Rl_cg (hs (i + 1) (by omega)) (fun p hp => by rw [hk p hp, if_neg e])
  · have h7 : n7 < 6 := by omega
    rw [n7N, if_neg h6] at hi
    rw [slN, olN, if_neg h6, if_neg h6]
    have hk : ∀ p, p < 2424 → kpM sa n7 (2424 * (i + 1) + p) = if i = n7 then sa p else sa (2424 * (i + 1) + p) := fun p hp => by
      rw [kpM, show kpN n7 = n7 + 1 from by rw [kpN, if_pos h7], cpM_at (by omega) 2424 (Nat.le_refl _), if_neg h6]
      by_cases e : i = n7
      · rw [if_pos (by omega), if_pos e, show 2424 * 0 + (2424 * (i + 1) + p - 2424 * (n7 + 1)) = p by omega]
      · rw [if_neg (by omega), if_neg e]
    by_cases e : i = n7
    · rw [e, va_up_self]
      exact Rl_cg h (fun p hp => by have z := hk p hp; rw [if_pos e, e] at z; exact z)
    · rw [va_up_ne sv st (show (ol + i) % 6 ≠ (ol + n7) % 6 by omega)]
      exact Rl_cg (hs i (by omega)) (fun p hp => by rw [hk p hp, if_neg e])
theorem kpN_n7 (n : Nat) (hn : n ≤ 6) : kpN n = n7N n := by
  unfold n7N
  show n + (if n < 6 then 1 else 0) = _
  by_cases e : n = 6
  · rw [if_neg (by omega), if_pos e]; omega
  · rw [if_pos (by omega), if_neg e]
theorem Rl_un {sv : Nat → St} {sa : Nat → Int32} {ol n7 B : Nat} (h0 : 0 < n7) (hs : Hs sv ol n7 sa B) : Rl (sv ((ol + (n7 - 1)) % 6)) (cpM sa n7 0 2424) B := by
  refine Rl_cg (hs (n7 - 1) (by omega)) (fun p hp => ?_)
  rw [cpM_at (by omega) 2424 (Nat.le_refl _), if_pos (by omega), show 2424 * n7 + (p - 2424 * 0) = 2424 * (n7 - 1 + 1) + p by omega]
theorem Hs_un {sv : Nat → St} {sa : Nat → Int32} {ol n7 B : Nat} (h0 : 0 < n7) (hs : Hs sv ol n7 sa B) : Hs sv ol (n7 - 1) (cpM sa n7 0 2424) B := fun i hi => Rl_cg (hs i (by omega)) (fun p hp => by rw [cpM_at (by omega) 2424 (Nat.le_refl _), if_neg (by omega)])
-- the start
theorem iniM_lo {p : Nat} (h : p < 20 ∨ 24 ≤ p) : iniM 4 p = 0 := by
  show upd (upd (upd (upd (fun _ => 0) (20 + 0) (-1)) (20 + 1) (-1)) (20 + 2) (-1)) (20 + 3) (-1) p = 0
  rw [pk_un (by omega), pk_un (by omega), pk_un (by omega), pk_un (by omega)]
theorem Rl_st0 : Rl st0 (iniM 4) 0 := by
  refine ⟨⟨fun i hi => ?_, fun j hj => ?_, fun j hj => ?_⟩, fun r w c k h1 h2 h3 h4 => ?_, fun r w e k h1 h2 h3 h4 => ?_⟩
  · rw [iniM_lo (by omega)]; exact ⟨rfl, smN_0 0⟩
  · rw [iniM_lo (by omega)]; exact ⟨rfl, smN_0 0⟩
  · have hj4 : j = 0 ∨ j = 1 ∨ j = 2 ∨ j = 3 := by omega
    rcases hj4 with rfl | rfl | rfl | rfl <;> rfl
  · rw [iniM_lo (p := 24 + (4 * (4 * (6 * r + w) + c) + k)) (by omega)]
    exact ⟨⟨rfl, smN_0 0⟩, fun z => absurd rfl z, fun _ z => absurd rfl z⟩
  · rw [iniM_lo (p := 888 + 4 * (16 * (6 * r + w) + e) + k) (by omega)]
    exact ⟨⟨rfl, smN_0 0⟩, fun z => absurd rfl z⟩
-- mergeAll
theorem mgT_eq {x : St × Nat} {sa : Nat → Int32} {B f t : Nat} (hB : B < 2 ^ 31) (hf : f < 4) (ht : t < 4) (hne : f ≠ t) (h : Rl x.1 sa B) : Rl (mgT x f t).1 (mgM sa f t) B ∧ hiE sa (mgM sa f t) ∧ (mgT x f t).2 = x.2 + (if (lkM true sa f t).2.1 + (lkM true sa f t).2.2 = 0 then 0 else 1) := by
  have h1 := Rl_mg hB hf ht hne h
  have h2 := mg_cnt true hB hf ht hne h
  refine ⟨by rw [mgT_1]; exact h1.1, h1.2, ?_⟩
  rw [← h2.1, ← h2.2, mgT]
theorem hiE_t {a b c : Nat → Int32} (h1 : hiE a b) (h2 : hiE b c) : hiE a c := fun p hp => (h2 p hp).trans (h1 p hp)
theorem maN_s {sa y : Nat → Int32} {k f t : Nat} (h : maM sa k = y) (hf : frA k = f) (ht : toA k = t) : maN sa (k + 1) = maN sa k + (if (lkM true y f t).2.1 + (lkM true y f t).2.2 = 0 then 0 else 1) := by
  rw [maN, h, hf, ht]
theorem ma_eq {st : St} {sa : Nat → Int32} {B : Nat} (hB : B < 2 ^ 31) (h : Rl st sa B) : Rl (maAll st).1 (maM sa 6) B ∧ hiE sa (maM sa 6) ∧ (maAll st).2 = maN sa 6 := by
  have s1 := mgT_eq (x := (st, 0)) (f := 0) (t := 1) hB (by omega) (by omega) (by omega) h
  have s2 := mgT_eq (f := 1) (t := 2) hB (by omega) (by omega) (by omega) s1.1
  have s3 := mgT_eq (f := 2) (t := 3) hB (by omega) (by omega) (by omega) s2.1
  have s4 := mgT_eq (f := 3) (t := 2) hB (by omega) (by omega) (by omega) s3.1
  have s5 := mgT_eq (f := 3) (t := 1) hB (by omega) (by omega) (by omega) s4.1
  have s6 := mgT_eq (f := 3) (t := 0) hB (by omega) (by omega) (by omega) s5.1
  have e1 : maM sa 1 = mgM sa 0 1 := by rw [maM, maM]; rfl
  have e2 : maM sa 2 = mgM (mgM sa 0 1) 1 2 := by rw [maM, e1]; rfl
  have e3 : maM sa 3 = mgM (mgM (mgM sa 0 1) 1 2) 2 3 := by rw [maM, e2]; rfl
  have e4 : maM sa 4 = mgM (mgM (mgM (mgM sa 0 1) 1 2) 2 3) 3 2 := by rw [maM, e3]; rfl
  have e5 : maM sa 5 = mgM (mgM (mgM (mgM (mgM sa 0 1) 1 2) 2 3) 3 2) 3 1 := by rw [maM, e4]; rfl
  have e6 : maM sa 6 = mgM (mgM (mgM (mgM (mgM (mgM sa 0 1) 1 2) 2 3) 3 2) 3 1) 3 0 := by rw [maM, e5]; rfl
  have a0 : maA st 0 = (st, 0) := by rw [maA]
  have a1 : maA st 1 = mgT (st, 0) 0 1 := by rw [maA, a0]
  have a2 : maA st 2 = mgT (mgT (st, 0) 0 1) 1 2 := by rw [maA, a1]
  have a3 : maA st 3 = mgT (mgT (mgT (st, 0) 0 1) 1 2) 2 3 := by rw [maA, a2]
  rw [maAll, a3]
  refine ⟨by rw [e6]; exact s6.1, by rw [e6]; exact hiE_t s1.2.1 (hiE_t s2.2.1 (hiE_t s3.2.1 (hiE_t s4.2.1 (hiE_t s5.2.1 s6.2.1)))), ?_⟩
  rw [s6.2.2, s5.2.2, s4.2.2, s3.2.2, s2.2.2, s1.2.2]
  have n1 : maN sa 1 = 0 + (if (lkM true sa 0 1).2.1 + (lkM true sa 0 1).2.2 = 0 then 0 else 1) := maN_s (k := 0) (y := sa) rfl rfl rfl
  have n2 : maN sa 2 = maN sa 1 + (if (lkM true (mgM sa 0 1) 1 2).2.1 + (lkM true (mgM sa 0 1) 1 2).2.2 = 0 then 0 else 1) := maN_s e1 rfl rfl
  have n3 : maN sa 3 = maN sa 2 + (if (lkM true (mgM (mgM sa 0 1) 1 2) 2 3).2.1 + (lkM true (mgM (mgM sa 0 1) 1 2) 2 3).2.2 = 0 then 0 else 1) := maN_s e2 rfl rfl
  have n4 : maN sa 4 = maN sa 3 + (if (lkM true (mgM (mgM (mgM sa 0 1) 1 2) 2 3) 3 2).2.1 + (lkM true (mgM (mgM (mgM sa 0 1) 1 2) 2 3) 3 2).2.2 = 0 then 0 else 1) := maN_s e3 rfl rfl
  have n5 : maN sa 5 = maN sa 4 + (if (lkM true (mgM (mgM (mgM (mgM sa 0 1) 1 2) 2 3) 3 2) 3 1).2.1 + (lkM true (mgM (mgM (mgM (mgM sa 0 1) 1 2) 2 3) 3 2) 3 1).2.2 = 0 then 0 else 1) := maN_s e4 rfl rfl
  have n6 : maN sa 6 = maN sa 5 + (if (lkM true (mgM (mgM (mgM (mgM (mgM sa 0 1) 1 2) 2 3) 3 2) 3 1) 3 0).2.1 + (lkM true (mgM (mgM (mgM (mgM (mgM sa 0 1) 1 2) 2 3) 3 2) 3 1) 3 0).2.2 = 0 then 0 else 1) := maN_s e5 rfl rfl
  rw [n6, n5, n4, n3, n2, n1]
-- a command
theorem Rl_ds {st : St} {sa : Nat → Int32} {B kc r w e : Nat} {v : Int32} (hB : B + 1 < 2 ^ 31) (hk : kdB kc = true) (hr : r < 4) (hw : w < 6) (hm : kc = 109 → w < 4 ∧ ¬ w = r) (he : kc = 105 ∨ kc = 101 → e < 16) (h : Rl st sa B) : Rl (dsS st kc r w v e) (dsM sa kc r w v e) (B + 1) ∧ hiE sa (dsM sa kc r w v e) := by
  rcases kd_cases hk with rfl | rfl | rfl | rfl | rfl | rfl | rfl | rfl
  · exact Rl_add hB hr hw h
  · exact Rl_del hr hw h
  · exact Rl_exc hr hw (he (Or.inr rfl)) h
  · exact Rl_put hB hr hw (by omega) h
  · exact Rl_inc hr hw (he (Or.inl rfl)) h
  · exact Rl_put hB hr hw (by omega) h
  · have h1 := Rl_mg (by omega) hr (hm rfl).1 (fun z => (hm rfl).2 z.symm) h
    exact ⟨Rl_m h1.1 (Nat.le_succ B), h1.2⟩
  · exact Rl_put hB hr hw (by omega) h
-- texts: both checks
theorem vd_eq {tx : Nat → Nat} {ln : Nat} (hl : ln ≤ 80) : ∀ f p q, q ≤ ln → rxC tx ln p = rcC tx ln q → ln < q + 2 * f → vdC tx ln f p = rvC tx ln f q
  | 0, _, _, hq, _, h => absurd h (by omega)
  | f + 1, p, q, hq, hr, h => by
    have hle := rcC_le (tx := tx) hl hq
    rw [vdC, rvC, hr]
    by_cases c : (rcC tx ln q).1 = true
    · have h3 := hle.2.2 c
      rw [if_pos c, if_pos c]
      by_cases d : (rcC tx ln q).2.1 = ln
      · rw [if_pos d, if_pos d]
      · rw [if_neg d, if_neg d]
        by_cases e : sgN tx ln (rcC tx ln q).2.1 = 59
        · rw [if_pos e]
          exact vd_eq hl f _ _ (sg_pos e (by omega)) (by rw [rxC, if_neg (by omega), if_pos e]) (by omega)
        · rw [if_neg e]
          obtain ⟨g, rfl⟩ : ∃ g, f = g + 1 := ⟨f - 1, by omega⟩
          have hx : rxC tx ln (rcC tx ln q).2.1 = (false, (rcC tx ln q).2.1, 0) := by
            show (if (rcC tx ln q).2.1 = 0 then rcC tx ln (rcC tx ln q).2.1 else if sgN tx ln (rcC tx ln q).2.1 = 59 then rcC tx ln ((rcC tx ln q).2.1 + 1) else (false, (rcC tx ln q).2.1, 0)) = _
            rw [if_neg (by omega), if_neg e]
          rw [vdC, if_neg (by rw [hx]; exact Bool.false_ne_true), hx]
    · rw [if_neg c, if_neg c]
theorem rv_fuel {tx : Nat → Nat} {ln : Nat} (hl : ln ≤ 80) : ∀ f q, q ≤ ln → ln < q + 2 * f → rvC tx ln f q = rvC tx ln (f + 1) q
  | 0, _, hq, h => absurd h (by omega)
  | f + 1, q, hq, h => by
    have hle := rcC_le (tx := tx) hl hq
    have ih := rv_fuel (tx := tx) (ln := ln) hl f ((rcC tx ln q).2.1 + 1)
    rw [rvC, show rvC tx ln (f + 1 + 1) q = (if (rcC tx ln q).1 = true then (if (rcC tx ln q).2.1 = ln then (true, (rcC tx ln q).2.1) else if sgN tx ln (rcC tx ln q).2.1 = 59 then rvC tx ln (f + 1) ((rcC tx ln q).2.1 + 1) else (false, (rcC tx ln q).2.1)) else (false, (rcC tx ln q).2.1)) from by rw [rvC]]
    by_cases c : (rcC tx ln q).1 = true
    · have h3 := hle.2.2 c
      rw [if_pos c, if_pos c]
      by_cases d : (rcC tx ln q).2.1 = ln
      · rw [if_pos d, if_pos d]
      · rw [if_neg d, if_neg d]
        by_cases e : sgN tx ln (rcC tx ln q).2.1 = 59
        · rw [if_pos e, if_pos e]; exact ih (sg_pos e (by omega)) (by omega)
        · rw [if_neg e, if_neg e]
    · rw [if_neg c, if_neg c]
theorem rv_fuels {tx : Nat → Nat} {ln : Nat} (hl : ln ≤ 80) : ∀ d, rvC tx ln 41 0 = rvC tx ln (41 + d) 0
  | 0 => rfl
  | d + 1 => (rv_fuels hl d).trans (rv_fuel hl (41 + d) 0 (Nat.zero_le _) (by omega))
theorem vd_rv {tx : Nat → Nat} {ln : Nat} (hl : ln ≤ 80) : vdC tx ln 80 0 = rvC tx ln 81 0 :=
  (vd_eq hl 80 0 0 (Nat.zero_le _) rfl (by omega)).trans (rv_fuel hl 80 0 (Nat.zero_le _) (by omega))
-- texts: both runs
theorem rtS_0 {tx : Nat → Nat} {ln f p n : Nat} {st : St} (h : ¬ (rxC tx ln p).1 = true) : rtS tx ln (f + 1) p st n = (st, (rxC tx ln p).2.1, n) := by rw [rtS, if_neg h]
theorem rtF_0 {tx : Nat → Nat} {ln f p n : Nat} {sa : Nat → Int32} (h : ¬ (rcC tx ln p).1 = true) : rtF tx ln (f + 1) p sa n = (sa, (rcC tx ln p).2.1, n) := by rw [rtF, if_neg h]
theorem rt_eq {tx : Nat → Nat} {ln : Nat} (hl : ln ≤ 80) : ∀ f p q st sa n B a b, q ≤ ln → rxC tx ln p = rcC tx ln q → rxQ p = q → (rvC tx ln f q).1 = true → f < a → f < b → B + f < 2 ^ 31 → Rl st sa B →
    Rl (rtS tx ln a p st n).1 (rtF tx ln b q sa n).1 (B + f) ∧ hiE sa (rtF tx ln b q sa n).1 ∧ (rtS tx ln a p st n).2.2 = (rtF tx ln b q sa n).2.2 ∧ (rtS tx ln a p st n).2.1 ≤ ln ∧ (rtF tx ln b q sa n).2.1 ≤ ln
  | 0, _, _, _, _, _, _, _, _, _, _, _, hv, _, _, _, _ => absurd hv Bool.false_ne_true
  | f + 1, p, q, st, sa, n, B, a, b, hq, hr, hQ, hv, ha, hb, hB, h => by
    obtain ⟨a, rfl⟩ : ∃ g, a = g + 1 := ⟨a - 1, by omega⟩
    obtain ⟨b, rfl⟩ : ∃ g, b = g + 1 := ⟨b - 1, by omega⟩
    have c : (rcC tx ln q).1 = true := by
      by_cases c : (rcC tx ln q).1 = true
      · exact c
      · rw [rvC, if_neg c] at hv; exact absurd hv Bool.false_ne_true
    have h3 := (rcC_le (tx := tx) hl hq).2.2 c
    have hle := (rcC_le (tx := tx) hl hq).2.1
    have hok := rcC_ok c
    have e1 : rtS tx ln (a + 1) p st n = rtS tx ln a (rcC tx ln q).2.1 (dsS st (sgN tx ln q) (sgN tx ln (q + 1) - 48) (sgN tx ln (q + 1 + 1) - 48) (rcC tx ln q).2.2 (elN tx ln q)) (n + 1) := by rw [rtS, hr, if_pos c, hQ]
    have e2 : rtF tx ln (b + 1) q sa n = rtF tx ln b ((rcC tx ln q).2.1 + (if sgN tx ln (rcC tx ln q).2.1 = 59 then 1 else 0)) (dsM sa (sgN tx ln q) (sgN tx ln (q + 1) - 48) (sgN tx ln (q + 1 + 1) - 48) (rcC tx ln q).2.2 (elN tx ln q)) (n + 1) := by rw [rtF, if_pos c]
    have hd := Rl_ds (v := (rcC tx ln q).2.2) (e := elN tx ln q) (r := sgN tx ln (q + 1) - 48) (w := sgN tx ln (q + 1 + 1) - 48) (kc := sgN tx ln q) (show B + 1 < 2 ^ 31 by omega) hok.1 (by have := dgB_iff.mp hok.2.1; omega) (by
        by_cases z : sgN tx ln q = 109
        · have := dgB_iff.mp (hok.2.2.1 z).1; omega
        · have := dgB_iff.mp (hok.2.2.2.1 z); omega) (fun z => ⟨by have := dgB_iff.mp (hok.2.2.1 z).1; omega, (hok.2.2.1 z).2⟩) (fun z => (rcC_el c z).2) h
    rw [e1, e2]
    rw [rvC, if_pos c] at hv
    by_cases d : (rcC tx ln q).2.1 = ln
    · have hs : sgN tx ln ln = 0 := sgN_out (Nat.le_refl ln)
      have hx : rxC tx ln ln = (false, ln, 0) := by
        show (if ln = 0 then rcC tx ln ln else if sgN tx ln ln = 59 then rcC tx ln (ln + 1) else (false, ln, 0)) = _
        rw [if_neg (by omega), hs, if_neg (by omega)]
      have hc : rcC tx ln ln = (false, ln, 0) := by rw [rcC, hs, if_neg (by decide)]
      rw [d, hs, if_neg (show ¬ (0 : Nat) = 59 by omega), Nat.add_zero ln]
      obtain ⟨a, rfl⟩ : ∃ g, a = g + 1 := ⟨a - 1, by omega⟩
      obtain ⟨b, rfl⟩ : ∃ g, b = g + 1 := ⟨b - 1, by omega⟩
      rw [rtS_0 (by rw [hx]; exact Bool.false_ne_true), rtF_0 (by rw [hc]; exact Bool.false_ne_true), hx, hc]
      exact ⟨Rl_m hd.1 (by omega), hd.2, rfl, Nat.le_refl ln, Nat.le_refl ln⟩
    · rw [if_neg d] at hv
      by_cases e : sgN tx ln (rcC tx ln q).2.1 = 59
      · rw [if_pos e] at hv
        rw [if_pos e]
        have ih := rt_eq hl f (rcC tx ln q).2.1 ((rcC tx ln q).2.1 + 1) _ _ (n + 1) (B + 1) a b (sg_pos e (by omega)) (by rw [rxC, if_neg (by omega), if_pos e]) (if_neg (by omega)) hv (by omega) (by omega) (by omega) hd.1
        exact ⟨Rl_m ih.1 (by omega), hiE_t hd.2 ih.2.1, ih.2.2⟩
      · rw [if_neg e] at hv; exact absurd hv Bool.false_ne_true
theorem rt_all {tx : Nat → Nat} {ln B : Nat} {st : St} {sa : Nat → Int32} (hl : ln ≤ 80) (hv : (rvC tx ln 81 0).1 = true) (hB : B + 41 < 2 ^ 31) (h : Rl st sa B) :
    Rl (rtS tx ln 80 0 st 0).1 (rtF tx ln 81 0 sa 0).1 (B + 41) ∧ hiE sa (rtF tx ln 81 0 sa 0).1 ∧ (rtS tx ln 80 0 st 0).2.2 = (rtF tx ln 81 0 sa 0).2.2 ∧ (rtS tx ln 80 0 st 0).2.1 ≤ ln ∧ (rtF tx ln 81 0 sa 0).2.1 ≤ ln :=
  rt_eq hl 41 0 0 st sa 0 B 80 81 (Nat.zero_le _) rfl rfl (by rw [rv_fuels hl 40]; exact hv) (by omega) (by omega) hB h
