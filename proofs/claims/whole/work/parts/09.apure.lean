/-! what the reference's public methods answer -/
theorem meM_le (d : Bool) (f t : Nat) (x : (Nat → Int32) × Nat × Nat) : ∀ k, (meM d f t x k).2.1 ≤ x.2.1 + k ∧ (meM d f t x k).2.2 ≤ x.2.2 + k
  | 0 => ⟨Nat.le_refl _, Nat.le_refl _⟩
  | k + 1 => by
    have ih := meM_le d f t x k
    have h1 := waM_le (meM d f t x k).1 t (k % 4) ((meM d f t x k).1 (888 + 384 * f + k)) ((meM d f t x k).1 (888 + 384 * t + k))
    have h2 := wrM_le (meM d f t x k).1 f (k % 4) ((meM d f t x k).1 (888 + 384 * f + k)) ((meM d f t x k).1 (888 + 384 * t + k))
    show (meM d f t x k).2.1 + waM _ _ _ _ _ ≤ _ ∧ (meM d f t x k).2.2 + wrM _ _ _ _ _ ≤ _
    omega
theorem mcM_le (d : Bool) (f t : Nat) (x : (Nat → Int32) × Nat × Nat) : ∀ k, (mcM d f t x k).2.1 ≤ x.2.1 + k ∧ (mcM d f t x k).2.2 ≤ x.2.2 + k
  | 0 => ⟨Nat.le_refl _, Nat.le_refl _⟩
  | k + 1 => by
    have ih := mcM_le d f t x k
    have h1 := waM_le (mcM d f t x k).1 t (k % 4) ((mcM d f t x k).1 (24 + (96 * f + k))) ((mcM d f t x k).1 (24 + (96 * t + k)))
    have h2 := wrM_le (mcM d f t x k).1 f (k % 4) ((mcM d f t x k).1 (24 + (96 * f + k))) ((mcM d f t x k).1 (24 + (96 * t + k)))
    show (mcM d f t x k).2.1 + waM _ _ _ _ _ ≤ _ ∧ (mcM d f t x k).2.2 + wrM _ _ _ _ _ ≤ _
    omega
theorem lkM_le (d : Bool) (sa : Nat → Int32) (f t : Nat) : (lkM d sa f t).2.1 ≤ 480 ∧ (lkM d sa f t).2.2 ≤ 480 := by
  have h1 := mcM_le d f t (sa, 0, 0) 96
  have h2 := meM_le d f t ((mcM d f t (sa, 0, 0) 96).1, (mcM d f t (sa, 0, 0) 96).2.1, (mcM d f t (sa, 0, 0) 96).2.2) 384
  rw [lkM]
  dsimp only at h1 h2
  omega
theorem meM_f (f t : Nat) (x : (Nat → Int32) × Nat × Nat) : ∀ k, (meM false f t x k).1 = x.1
  | 0 => rfl
  | k + 1 => meM_f f t x k
theorem mcM_f (f t : Nat) (x : (Nat → Int32) × Nat × Nat) : ∀ k, (mcM false f t x k).1 = x.1
  | 0 => rfl
  | k + 1 => mcM_f f t x k
theorem lkM_f (sa : Nat → Int32) (f t : Nat) : (lkM false sa f t).1 = sa := by rw [lkM, meM_f]; simp only [mcM_f]
/-- the merges of mergeAll -/
abbrev frA (k : Nat) : Nat := if k < 3 then k else 3
abbrev toA (k : Nat) : Nat := if k < 3 then k + 1 else 5 - k
def maM (sa : Nat → Int32) : Nat → Nat → Int32
  | 0 => sa
  | k + 1 => mgM (maM sa k) (frA k) (toA k)
def maN (sa : Nat → Int32) : Nat → Nat
  | 0 => 0
  | k + 1 => maN sa k + if (lkM true (maM sa k) (frA k) (toA k)).2.1 + (lkM true (maM sa k) (frA k) (toA k)).2.2 = 0 then 0 else 1
def maR (sa : Nat → Int32) (x : Nat × Nat) : Nat → Nat × Nat
  | 0 => x
  | k + 1 => ((lkM true (maM sa k) (frA k) (toA k)).2.1, (lkM true (maM sa k) (frA k) (toA k)).2.2)
/-- the maker of the latest entry so far, 4 for none -/
def lfN (sa : Nat → Int32) (r w : Nat) : Nat → Nat
  | 0 => 4
  | k + 1 => if ¬ sa (24 + (4 * (4 * (6 * r + w) + 0) + k)) ≤ 0 ∧ (lfN sa r w k = 4 ∨ ¬ sa (792 + 4 * (6 * r + w) + k) < sa (792 + 4 * (6 * r + w) + lfN sa r w k)) then k else lfN sa r w k
theorem lfN_b (sa : Nat → Int32) (r w : Nat) : ∀ k, k ≤ 4 → lfN sa r w k = 4 ∨ lfN sa r w k < k
  | 0, _ => Or.inl rfl
  | k + 1, h => by
    have := lfN_b sa r w k (by omega)
    unfold lfN; split
    · omega
    · omega
def foI (n : Nat) : Int32 := if n = 4 then -1 else nI n
def ltM (sa : Nat → Int32) (r w : Nat) : Int32 := if lfN sa r w 4 = 4 then -1 else sa (408 + (4 * (4 * (6 * r + w) + 0) + lfN sa r w 4))
abbrev ahP (sa : Nat → Int32) (r w k j : Nat) : Prop := ¬ sa (24 + (4 * (4 * (6 * r + w) + 1) + j)) ≤ 0 ∧ (sa (408 + (4 * (4 * (6 * r + w) + 1) + j)) < sa (408 + (4 * (4 * (6 * r + w) + 1) + k)) ∨ (sa (408 + (4 * (4 * (6 * r + w) + 1) + j)) = sa (408 + (4 * (4 * (6 * r + w) + 1) + k)) ∧ j < k))
def ahM (sa : Nat → Int32) (r w k : Nat) : Nat → Nat
  | 0 => 0
  | j + 1 => ahM sa r w k j + if ahP sa r w k j then 1 else 0
def sbM (sa : Nat → Int32) (r w : Nat) (x : Int32) : Nat → Nat → Int32
  | 0, _ => -1
  | n + 1, i => if ¬ sa (24 + (4 * (4 * (6 * r + w) + 1) + i)) ≤ 0 ∧ nI (ahM sa r w i 4) = x then sa (408 + (4 * (4 * (6 * r + w) + 1) + i)) else sbM sa r w x n (i + 1)
def elM (sa : Nat → Int32) (r w : Nat) : Nat → Int32
  | 0 => nI 0
  | k + 1 => elM sa r w k ||| if sa (888 + 4 * (16 * (6 * r + w) + k / 4) + k % 4) ≤ 0 then nI 0 else nI 1 <<< (nI (k / 4) &&& 31)
def exS (sa : Nat → Int32) (r w : Nat) : Nat → Nat
  | 0 => 0
  | k + 1 => exS sa r w k + enM sa r w k 4
def cfM (sa : Nat → Int32) (r : Nat) : Nat → Nat
  | 0 => 0
  | k + 1 => cfM sa r k + if enM sa r k 1 4 ≤ 1 then 0 else 1
def reM (sa : Nat → Int32) (a b : Nat) : Int32 := if kwM sa a b 4 then (if kwM sa b a 4 then nI 0 else nI 2) else if kwM sa b a 4 then nI 1 else nI 3
def agM (sa : Nat → Int32) : Nat → Nat
  | 0 => 0
  | k + 1 => agM sa k + if liM sa 1 (k / 5) (k % 5) 64 ∧ liM sa 2 (k / 5) (k % 5) 64 ∧ liM sa 3 (k / 5) (k % 5) 64 then 1 else 0
abbrev rowP (x y : Int32) : Prop := inP x (nI 0) (nI 3) ∧ inP y (nI 0) (nI 5)
theorem rowP_n {r w : Nat} (hr : r < 4) (hw : w < 6) : inP (nI r) (nI 0) (nI 3) ∧ inP (nI w) (nI 0) (nI 5) := ⟨inP_n (Nat.zero_le _) (by omega) (by decide), inP_n (Nat.zero_le _) (by omega) (by decide)⟩
theorem repP_n {r : Nat} (hr : r < 4) : inP (nI r) (nI 0) (nI 3) := inP_n (Nat.zero_le _) (by omega) (by decide)
theorem nI_m1 {n : Nat} (h : n < 2 ^ 31) : ¬ nI n = -1 := fun z => nI_pos h (by rw [z]; decide)
def updN (f : Nat → Nat) (k v : Nat) : Nat → Nat := fun j => if j = k then v else f j
theorem updN_eq (f : Nat → Nat) (k v : Nat) : upd (fun i => nI (f i)) k (nI v) = fun i => nI (updN f k v i) := by
  funext j
  show (if j = k then nI v else nI (f j)) = nI (if j = k then v else f j)
  split <;> rfl
theorem wM_tx {cI : ClassId} {m9 : Nat → Nat} {sa : Nat → Int32} {tx : Nat → Nat} {th : Int32} {sv ln po c : Nat} {lt fi sc nu : Int32} {ad rv : Nat} : (wM cI m9 sa tx th sv ln po lt fi sc nu ad rv).set 2 (m9 2, .inl (cI, 80, .inl (upd (fun i => nI (tx i)) ln (nI c)))) = wM cI m9 sa (updN tx ln c) th sv ln po lt fi sc nu ad rv := by
  rw [updN_eq]; rfl
theorem ah_p {sa : Nat → Int32} {r w k j : Nat} (h : ahP sa r w k j) : 1 = if ahP sa r w k j then 1 else 0 := (if_pos h).symm
theorem ah_n {sa : Nat → Int32} {r w k j : Nat} (h : ¬ ahP sa r w k j) : 0 = if ahP sa r w k j then 1 else 0 := (if_neg h).symm
theorem sbM_n {sa : Nat → Int32} {r w n k j : Nat} {x : Int32} (hj : j = 4) (h : ¬ (¬ sa (24 + (4 * (4 * (6 * r + w) + 1) + k)) ≤ 0 ∧ nI (ahM sa r w k j) = x)) : sbM sa r w x (n + 1) k = sbM sa r w x n (k + 1) := by subst hj; exact if_neg h
theorem sbM_p {sa : Nat → Int32} {r w n k j : Nat} {x : Int32} (hj : j = 4) (h1 : ¬ sa (24 + (4 * (4 * (6 * r + w) + 1) + k)) ≤ 0) (h2 : nI (ahM sa r w k j) = x) : sbM sa r w x (n + 1) k = sa (408 + (4 * (4 * (6 * r + w) + 1) + k)) := by subst hj; exact if_pos ⟨h1, h2⟩
theorem ltM_1 {sa : Nat → Int32} {r w k : Nat} (hk : k = 4) (h : lfN sa r w k = 4) : -1 = ltM sa r w := by subst hk; rw [ltM, if_pos h]
theorem ltM_2 {sa : Nat → Int32} {r w k : Nat} (hk : k = 4) (h : ¬ lfN sa r w k = 4) : sa (408 + (4 * (4 * (6 * r + w) + 0) + lfN sa r w k)) = ltM sa r w := by subst hk; rw [ltM, if_neg h]
