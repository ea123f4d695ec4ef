/-! the history with all its states -/
def wP (cI : ClassId) (ad : Nat → Nat → Nat) (sv : Nat → St) : Nat → va_W
  | 0 => []
  | m + 1 => wP cI ad sv m ++ wS cI (ad m) (sv m)
def wPx (cI : ClassId) (ad : Nat → Nat → Nat) (sv : Nat → St) (j : Nat) : Nat → va_W
  | 0 => []
  | m + 1 => wPx cI ad sv j m ++ (if m = j then [] else wS cI (ad m) (sv m))
theorem wPx_out (cI : ClassId) (ad : Nat → Nat → Nat) (sv : Nat → St) {j : Nat} : ∀ m, m ≤ j → wPx cI ad sv j m = wP cI ad sv m
  | 0, _ => rfl
  | m + 1, h => by rw [wPx, wP, wPx_out cI ad sv m (by omega), if_neg (by omega)]
theorem wPx_up (cI : ClassId) (ad : Nat → Nat → Nat) (sv : Nat → St) (j : Nat) (st : St) : ∀ m, wPx cI ad (va_up sv j st) j m = wPx cI ad sv j m
  | 0 => rfl
  | m + 1 => by
    rw [wPx, wPx, wPx_up cI ad sv j st m]
    by_cases h : m = j
    · rw [if_pos h, if_pos h]
    · rw [if_neg h, if_neg h, va_up_ne sv st h]
theorem wP_take (cI : ClassId) (ad : Nat → Nat → Nat) (sv : Nat → St) {j : Nat} : ∀ m, j < m → (wP cI ad sv m).Perm (wS cI (ad j) (sv j) ++ wPx cI ad sv j m)
  | 0, h => absurd h (Nat.not_lt_zero _)
  | m + 1, h => by
    rw [wP, wPx]
    by_cases e : m = j
    · subst e
      rw [if_pos rfl, List.append_nil, wPx_out cI ad sv m (Nat.le_refl _)]
      exact List.perm_append_comm
    · rw [if_neg e, ← List.append_assoc]
      exact (wP_take cI ad sv m (by omega)).append_right _
theorem wP_cg (cI : ClassId) {ad ad' : Nat → Nat → Nat} {sv sv' : Nat → St} : ∀ m, (∀ j, j < m → ad j = ad' j ∧ sv j = sv' j) → wP cI ad sv m = wP cI ad' sv' m
  | 0, _ => rfl
  | m + 1, h => by rw [wP, wP, wP_cg cI m (fun j hj => h j (by omega)), (h m (by omega)).1, (h m (by omega)).2]
def fr7 (ad : Nat → Nat → Nat) (m : Nat) : Nat → Option Nat := fun j => if j < m then some (ad j 0) else none
abbrev hI (ol n7 m : Nat) : Prop := ol < 6 ∧ n7 ≤ m ∧ m ≤ 6 ∧ (m < 6 → ol = 0)
def slN (ol n7 : Nat) : Nat := if n7 = 6 then ol else (ol + n7) % 6
def olN (ol n7 : Nat) : Nat := if n7 = 6 then (ol + 1) % 6 else ol
def n7N (n7 : Nat) : Nat := if n7 = 6 then 6 else n7 + 1
theorem fr7_new (ad : Nat → Nat → Nat) (m : Nat) (A : Nat → Nat) (a : Nat) (hA : A 0 = a) : va_up (fr7 ad m) m (some a) = fr7 (va_up ad m A) (m + 1) := by
  funext j
  show (if j = m then some a else (if j < m then some (ad j 0) else none)) = (if j < m + 1 then some ((if j = m then A else ad j) 0) else none)
  by_cases e : j = m
  · rw [if_pos e, if_pos (show j < m + 1 by omega), if_pos e, hA]
  · rw [if_neg e, if_neg e]
    by_cases e2 : j < m
    · rw [if_pos e2, if_pos (show j < m + 1 by omega)]
    · rw [if_neg e2, if_neg (show ¬ j < m + 1 by omega)]
theorem wP_new (cI cR : ClassId) (h9 : Nat → Nat) (ad : Nat → Nat → Nat) (sv : Nat → St) (m : Nat) (q : Nat → Nat) (st : St) (A : Nat → Nat) (a : Nat) (hA : A 0 = a) : (((wR cR h9 (va_up (fr7 ad m) m (some a)) 0 (m + 1) ++ wS cI q st) ++ wS cI A st) ++ wP cI ad sv m).Perm ((wR cR h9 (fr7 (va_up ad m A) (m + 1)) 0 (m + 1) ++ wS cI q st) ++ wP cI (va_up ad m A) (va_up sv m st) (m + 1)) := by
  rw [fr7_new ad m A a hA, wP, va_up_self, va_up_self, ← wP_cg cI (ad := ad) (sv := sv) (ad' := va_up ad m A) (sv' := va_up sv m st) m (fun j hj => ⟨(va_up_ne ad A (show j ≠ m by omega)).symm, (va_up_ne sv st (show j ≠ m by omega)).symm⟩), List.append_assoc]
  exact List.perm_append_comm.append_left _
theorem c_X0_save (l : Launch) (D : va_G) (sz : Nat) (cI cR : ClassId) (h9 : Nat → Nat) (ad : Nat → Nat → Nat) (sv : Nat → St) (ol n7 m : Nat) (q : Nat → Nat) (st : St) (hh : hI ol n7 m) : MXv l yX0_save wsX0_save rmX0_save_f [.ref (h9 0), .ref (q 0)] D [(cI, .int), (cR, .object RX1)] ((wR cR h9 (fr7 ad m) ol n7 ++ wS cI q st) ++ wP cI ad sv m) sz (fun (u : Nat × (Nat → Nat → Nat)) => hI (olN ol n7) (n7N n7) u.1) (fun _ => []) (fun u => (wR cR h9 (fr7 u.2 u.1) (olN ol n7) (n7N n7) ++ wS cI q st) ++ wP cI u.2 (va_up sv (slN ol n7) st) u.1) 7 5790 := by
  obtain ⟨h1, h2, h3, h4⟩ := hh
  by_cases h6 : n7 = 6
  · subst h6
    have hm : m = 6 := by omega
    subst hm
    refine MXv.frame (c_X0_save_f l D sz cI cR h9 (fr7 ad 6) ol q (ad ol) st (sv ol) h1 (if_pos h1)) _ (wPx cI ad sv ol 6) ?_ (fun x h => h) _ _ (fun u _ => ⟨rfl, (6, ad), ?_, ?_⟩)
    · have := (wP_take cI ad sv 6 h1).append_left (wR cR h9 (fr7 ad 6) ol 6 ++ wS cI q st)
      rw [← List.append_assoc] at this
      exact this
    · rw [olN, n7N, if_pos rfl, if_pos rfl]
      exact ⟨by omega, by omega, by omega, fun z => by omega⟩
    · rw [olN, n7N, slN, if_pos rfl, if_pos rfl, if_pos rfl]
      have := (wP_take cI ad (va_up sv ol st) 6 h1).append_left (wR cR h9 (fr7 ad 6) ((ol + 1) % 6) 6 ++ wS cI q st)
      rw [← List.append_assoc, wPx_up, va_up_self] at this
      exact this.symm
  · have hn : n7 < 6 := by omega
    rw [olN, n7N, slN, if_neg h6, if_neg h6, if_neg h6]
    by_cases ha : (ol + n7) % 6 < m
    · refine MXv.frame (c_X0_save_p l D sz cI cR h9 (fr7 ad m) ol n7 q (ad ((ol + n7) % 6)) st (sv ((ol + n7) % 6)) h1 hn (if_pos ha)) _ (wPx cI ad sv ((ol + n7) % 6) m) ?_ (fun x h => h) _ _ (fun u _ => ⟨rfl, (m, ad), ?_, ?_⟩)
      · have := (wP_take cI ad sv m ha).append_left (wR cR h9 (fr7 ad m) ol n7 ++ wS cI q st)
        rw [← List.append_assoc] at this
        exact this
      · refine ⟨h1, ?_, h3, h4⟩
        show n7 + 1 ≤ m
        by_cases z : m < 6
        · have := h4 z; subst this; rw [Nat.zero_add, Nat.mod_eq_of_lt hn] at ha; exact ha
        · omega
      · have := (wP_take cI ad (va_up sv ((ol + n7) % 6) st) m ha).append_left (wR cR h9 (fr7 ad m) ol (n7 + 1) ++ wS cI q st)
        rw [← List.append_assoc, wPx_up, va_up_self] at this
        exact this.symm
    · have h0 : ol = 0 := h4 (by omega)
      subst h0
      have hs : (0 + n7) % 6 = n7 := by omega
      have hm : m = n7 := by omega
      subst hm
      refine MXv.frame (c_X0_save_n l D sz cI cR h9 (fr7 ad m) 0 m q st h1 hn (if_neg ha)) _ (wP cI ad sv m) (List.Perm.refl _) (fun x h => h) _ _ (fun u _ => ⟨rfl, (m + 1, va_up ad m (ad7 u.1 u.2.1 u.2.2.1 u.2.2.2.1 u.2.2.2.2.1 u.2.2.2.2.2.1 u.2.2.2.2.2.2)), ⟨h1, Nat.le_refl _, by omega, fun _ => rfl⟩, ?_⟩)
      rw [hs]
      exact wP_new cI cR h9 ad sv m q st _ u.1 rfl
theorem c_X0_restore (l : Launch) (D : va_G) (sz : Nat) (cI cR : ClassId) (h9 : Nat → Nat) (ad : Nat → Nat → Nat) (sv : Nat → St) (ol n7 m : Nat) (q : Nat → Nat) (st : St) (hh : hI ol n7 m) : MXv l yX0_restore wsX0_restore rmX0_restore_p [.ref (h9 0), .ref (q 0)] D [(cI, .int), (cR, .object RX1)] ((wR cR h9 (fr7 ad m) ol n7 ++ wS cI q st) ++ wP cI ad sv m) sz (fun (_ : Unit) => True) (fun _ => []) (fun _ => (wR cR h9 (fr7 ad m) ol (n7 - 1) ++ wS cI q (if n7 = 0 then st else sv ((ol + (n7 - 1)) % 6))) ++ wP cI ad sv m) 0 0 := by
  obtain ⟨h1, h2, h3, h4⟩ := hh
  by_cases h0 : n7 = 0
  · subst h0
    rw [if_pos rfl]
    exact MXv.frame (c_X0_restore_z l D sz cI cR h9 (fr7 ad m) ol q st) _ (wP cI ad sv m) (List.Perm.refl _) (fun x h => h) _ _ (fun u _ => ⟨rfl, (), trivial, List.Perm.refl _⟩)
  · rw [if_neg h0]
    have ha : (ol + (n7 - 1)) % 6 < m := by
      by_cases z : m < 6
      · have := h4 z; subst this; rw [Nat.zero_add, Nat.mod_eq_of_lt (by omega)]; omega
      · omega
    refine MXv.frame (c_X0_restore_p l D sz cI cR h9 (fr7 ad m) ol n7 q (ad ((ol + (n7 - 1)) % 6)) st (sv ((ol + (n7 - 1)) % 6)) h1 (by omega) (by omega) (if_pos ha)) _ (wPx cI ad sv ((ol + (n7 - 1)) % 6) m) ?_ (fun x h => h) _ _ (fun u _ => ⟨rfl, (), trivial, ?_⟩)
    · have := (wP_take cI ad sv m ha).append_left (wR cR h9 (fr7 ad m) ol n7 ++ wS cI q st)
      rw [← List.append_assoc] at this
      exact this
    · have := (wP_take cI ad sv m ha).append_left (wR cR h9 (fr7 ad m) ol (n7 - 1) ++ wS cI q (sv ((ol + (n7 - 1)) % 6)))
      rw [← List.append_assoc] at this
      exact this.symm
