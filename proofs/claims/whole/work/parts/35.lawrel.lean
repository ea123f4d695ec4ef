/-! what holds between the class and the reference from one call of the script to the next -/
def LV (st : St) (sv : Nat → St) (ol n7 n8 : Nat) (tx : Nat → Nat) (ln po : Nat) (sa : Nat → Int32) (po2 B : Nat) : Prop := hI ol n7 n8 ∧ Rl st sa B ∧ Hs sv ol n7 sa B ∧ (∀ i, tx i < 127) ∧ ln ≤ 80 ∧ po < 1000 ∧ po2 < 1000
theorem LV_m {st : St} {sv : Nat → St} {ol n7 n8 : Nat} {tx : Nat → Nat} {ln po : Nat} {sa : Nat → Int32} {po2 B B' : Nat} (h : LV st sv ol n7 n8 tx ln po sa po2 B) (hB : B ≤ B') : LV st sv ol n7 n8 tx ln po sa po2 B' := ⟨h.1, Rl_m h.2.1 hB, Hs_m h.2.2.1 hB, h.2.2.2⟩
/-- a call that saved the state and then changed it -/
theorem LV_sv {st st1 : St} {sv : Nat → St} {ol n7 n8 m : Nat} {tx : Nat → Nat} {ln po po' : Nat} {sa s1 : Nat → Int32} {po2 po2' B B1 B' : Nat} (h : LV st sv ol n7 n8 tx ln po sa po2 B) (hm : hI (olN ol n7) (n7N n7) m) (hr : Rl st1 s1 B1) (he : hiE (kpM sa n7) s1) (h1 : B1 ≤ B') (h2 : B ≤ B') (hp : po' < 1000) (hp2 : po2' < 1000) : LV st1 (va_up sv (slN ol n7) st) (olN ol n7) (n7N n7) m tx ln po' s1 po2' B' :=
  ⟨hm, Rl_m hr h1, Hs_hi (Hs_m (Hs_kp h.1 h.2.1 h.2.2.1) h2) he, h.2.2.2.1, h.2.2.2.2.1, hp, hp2⟩
theorem LV_un {st : St} {sv : Nat → St} {ol n7 n8 : Nat} {tx : Nat → Nat} {ln po : Nat} {sa : Nat → Int32} {po2 B B' : Nat} (h : LV st sv ol n7 n8 tx ln po sa po2 B) (h0 : 0 < n7) (hB : B ≤ B') : LV (if n7 = 0 then st else sv ((ol + (n7 - 1)) % 6)) sv ol (n7 - 1) n8 tx ln po (cpM sa n7 0 2424) po2 B' := by
  rw [if_neg (by omega)]
  obtain ⟨⟨a1, a2, a3, a4⟩, hr, hs, hx⟩ := h
  exact ⟨⟨a1, by omega, a3, a4⟩, Rl_m (Rl_un h0 hs) hB, Hs_m (Hs_un h0 hs) hB, hx⟩
theorem LV_tx {st : St} {sv : Nat → St} {ol n7 n8 : Nat} {tx tx' : Nat → Nat} {ln ln' po po' : Nat} {sa : Nat → Int32} {po2 po2' B B' : Nat} (h : LV st sv ol n7 n8 tx ln po sa po2 B) (hB : B ≤ B') (h1 : ∀ i, tx' i < 127) (h2 : ln' ≤ 80) (h3 : po' < 1000) (h4 : po2' < 1000) : LV st sv ol n7 n8 tx' ln' po' sa po2' B' := ⟨h.1, Rl_m h.2.1 hB, Hs_m h.2.2.1 hB, h1, h2, h3, h4⟩
theorem rt_n7 (n : Nat) (h : n ≤ 6) : n + (if n < 6 then 1 else 0) = n7N n := by
  unfold n7N
  split <;> split <;> omega
theorem updN_lt {tx : Nat → Nat} {k v : Nat} (h : ∀ i, tx i < 127) (hv : v < 127) : ∀ i, updN tx k v i < 127 := fun i => by
  show (if i = k then v else tx i) < 127
  split
  · exact hv
  · exact h i
theorem agW_eq {st : St} {sa : Nat → Int32} {B : Nat} (h : Rl st sa B) : ∀ w, w ≤ 6 → agW st w = agM sa (5 * w)
  | 0, _ => rfl
  | w + 1, hw => by
    have ih := agW_eq h w (by omega)
    have k : ∀ j, j ≤ 5 → agM sa (5 * w + j) = agM sa (5 * w) + agJ st w j := by
      intro j
      induction j with
      | zero => intro _; rfl
      | succ j ihj =>
        intro hj
        have e := ag_eq (g := j) h (show w < 6 by omega) (by omega)
        rw [show 5 * w + (j + 1) = (5 * w + j) + 1 by omega, agM, ihj (by omega), agJ, show (5 * w + j) / 5 = w by omega, show (5 * w + j) % 5 = j by omega]
        by_cases z : agP st w j
        · rw [if_pos z, if_pos (e.mp z)]; omega
        · rw [if_neg z, if_neg (fun y => z (e.mpr y))]; omega
    rw [agW, ih, show 5 * (w + 1) = 5 * w + 5 by omega, k 5 (Nat.le_refl _)]
