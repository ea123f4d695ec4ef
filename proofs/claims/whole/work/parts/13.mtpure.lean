/-! texts: the reference's readers, and what a command does -/
/-- the reference's check of a text -/
def rvC (tx : Nat → Nat) (ln : Nat) : Nat → Nat → Bool × Nat
  | 0, p => (false, p)
  | f + 1, p => if (rcC tx ln p).1 = true then (if (rcC tx ln p).2.1 = ln then (true, (rcC tx ln p).2.1) else if sgN tx ln (rcC tx ln p).2.1 = 59 then rvC tx ln f ((rcC tx ln p).2.1 + 1) else (false, (rcC tx ln p).2.1)) else (false, (rcC tx ln p).2.1)
theorem rvC_le {tx : Nat → Nat} {ln : Nat} (hl : ln ≤ 80) : ∀ f p, p ≤ ln → (rvC tx ln f p).2 ≤ ln
  | 0, p, h => h
  | f + 1, p, h => by
    have hr := rcC_le (tx := tx) hl h
    rw [rvC]
    by_cases c : (rcC tx ln p).1 = true
    · rw [if_pos c]
      by_cases d : (rcC tx ln p).2.1 = ln
      · rw [if_pos d]; exact hr.2.1
      · rw [if_neg d]
        by_cases e : sgN tx ln (rcC tx ln p).2.1 = 59
        · rw [if_pos e]; exact rvC_le (tx := tx) (ln := ln) hl f ((rcC tx ln p).2.1 + 1) (sg_pos e (by omega))
        · rw [if_neg e]; exact hr.2.1
    · rw [if_neg c]; exact hr.2.1
/-- what a read command is -/
theorem rcC_ok {tx : Nat → Nat} {ln p : Nat} (h : (rcC tx ln p).1 = true) : kdB (sgN tx ln p) = true ∧ dgB tx ln (p + 1) 3 = true ∧ (sgN tx ln p = 109 → dgB tx ln (p + 1 + 1) 3 = true ∧ ¬ sgN tx ln (p + 1 + 1) - 48 = sgN tx ln (p + 1) - 48) ∧ (¬ sgN tx ln p = 109 → dgB tx ln (p + 1 + 1) 5 = true) ∧ (¬ sgN tx ln p = 109 → ¬ sgN tx ln p = 100 → (rcC tx ln p).2.2 = (agR tx ln (p + 1 + 1 + 1 + 1) (sgN tx ln p)).2.2 ∧ (agR tx ln (p + 1 + 1 + 1 + 1) (sgN tx ln p)).1 = true) := by
  unfold rcC at h ⊢
  by_cases hk : kdB (sgN tx ln p) = true
  · rw [if_pos hk] at h ⊢
    unfold rnC at h ⊢
    by_cases h0 : dgB tx ln (p + 1) 3 = true
    · rw [if_pos h0] at h ⊢
      by_cases hm : sgN tx ln p = 109
      · rw [if_pos hm] at h ⊢
        refine ⟨hk, h0, fun _ => ?_, fun z => absurd hm z, fun z => absurd hm z⟩
        unfold roR at h
        by_cases hr : dgB tx ln (p + 1 + 1) 3 = true ∧ ¬ sgN tx ln (p + 1 + 1) - 48 = sgN tx ln (p + 1) - 48
        · exact hr
        · rw [if_neg hr] at h; exact absurd h Bool.false_ne_true
      · rw [if_neg hm] at h ⊢
        by_cases h5 : dgB tx ln (p + 1 + 1) 5 = true
        · rw [if_pos h5] at h ⊢
          refine ⟨hk, h0, fun z => absurd z hm, fun _ => h5, fun _ hd => ?_⟩
          rw [if_neg hd] at h ⊢
          by_cases hc : sgN tx ln (p + 1 + 1 + 1) = 44
          · rw [if_pos hc] at h ⊢; exact ⟨rfl, h⟩
          · rw [if_neg hc] at h; exact absurd h Bool.false_ne_true
        · rw [if_neg h5] at h; exact absurd h Bool.false_ne_true
    · rw [if_neg h0] at h; exact absurd h Bool.false_ne_true
  · rw [if_neg hk] at h; exact absurd h Bool.false_ne_true
theorem nmF_mx {tx : Nat → Nat} {ln m : Nat} : ∀ f p n, n ≤ m → (nmF tx ln m f p n).2 ≤ m
  | 0, p, n, h => h
  | f + 1, p, n, h => by
    rw [nmF]
    by_cases c : 0 < n ∧ dgB tx ln p 9 = true ∧ n * 10 + (sgN tx ln p - 48) ≤ m
    · rw [if_pos c]; exact nmF_mx (tx := tx) (ln := ln) (m := m) f (p + 1) (n * 10 + (sgN tx ln p - 48)) c.2.2
    · rw [if_neg c]; exact h
/-- an element's number -/
abbrev elN (tx : Nat → Nat) (ln p : Nat) : Nat := (nmR tx ln (p + 1 + 1 + 1 + 1) 15).2
theorem rcC_el {tx : Nat → Nat} {ln p : Nat} (h : (rcC tx ln p).1 = true) (hk : sgN tx ln p = 105 ∨ sgN tx ln p = 101) : (rcC tx ln p).2.2 = nI (elN tx ln p) ∧ elN tx ln p < 16 := by
  have h1 := (rcC_ok h).2.2.2.2 (by omega) (by omega)
  have h2 := h1.2
  rw [h1.1]
  unfold agR at h2 ⊢
  rw [if_neg (show ¬ sgN tx ln p = 97 by omega)] at h2 ⊢
  have h3 : mfN (sgN tx ln p) = 15 := if_pos hk
  rw [h3] at h2 ⊢
  have h4 := nmB_iff.mp (show nmB tx ln (p + 1 + 1 + 1 + 1) 0 = true from h2)
  exact ⟨rfl, Nat.lt_succ_of_le (nmF_mx 3 _ _ (by omega))⟩
/-- what a command does to the reference's numbers -/
def dsM (sa : Nat → Int32) (kc r w : Nat) (v : Int32) (e : Nat) : Nat → Int32 :=
  if kc = 97 then addM sa r w v else if kc = 100 then delM sa r w else if kc = 101 then excM sa r w e else if kc = 103 then putM sa r w 2 v
  else if kc = 105 then incM sa r w e else if kc = 108 then putM sa r w 0 v else if kc = 118 then putM sa r w 1 v else mgM sa r w
def rtF (tx : Nat → Nat) (ln : Nat) : Nat → Nat → (Nat → Int32) → Nat → (Nat → Int32) × Nat × Nat
  | 0, p, sa, n => (sa, p, n)
  | f + 1, p, sa, n => if (rcC tx ln p).1 = true then rtF tx ln f ((rcC tx ln p).2.1 + (if sgN tx ln (rcC tx ln p).2.1 = 59 then 1 else 0)) (dsM sa (sgN tx ln p) (sgN tx ln (p + 1) - 48) (sgN tx ln (p + 1 + 1) - 48) (rcC tx ln p).2.2 (elN tx ln p)) (n + 1) else (sa, (rcC tx ln p).2.1, n)
theorem kd_cases {c : Nat} (h : kdB c = true) : c = 97 ∨ c = 100 ∨ c = 101 ∨ c = 103 ∨ c = 105 ∨ c = 108 ∨ c = 109 ∨ c = 118 := of_decide_eq_true h
theorem dsM_v {sa : Nat → Int32} {kc r w e : Nat} {v v' : Int32} (h : kc ≠ 109 → kc ≠ 100 → v = v') : dsM sa kc r w v e = dsM sa kc r w v' e := by
  by_cases h1 : kc = 100
  · unfold dsM; rw [if_neg (show ¬ kc = 97 by omega), if_pos h1, if_neg (show ¬ kc = 97 by omega), if_pos h1]
  · by_cases h2 : kc = 109
    · simp only [dsM, if_neg (show ¬ kc = 97 by omega), if_neg (show ¬ kc = 100 by omega), if_neg (show ¬ kc = 101 by omega), if_neg (show ¬ kc = 103 by omega), if_neg (show ¬ kc = 105 by omega), if_neg (show ¬ kc = 108 by omega), if_neg (show ¬ kc = 118 by omega)]
    · rw [h h2 h1]
