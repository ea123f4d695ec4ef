/-! the reference's state as a value, and what its inner methods do to it -/
abbrev wM (cI : ClassId) (m9 : Nat → Nat) (sa : Nat → Int32) (tx : Nat → Nat) (th : Int32) (sv ln po : Nat) (lt fi sc nu : Int32) (ad rv : Nat) : va_W := [(m9 0, .inr (4, [.int th, .ref (m9 1), .int (nI sv), .ref (m9 2), .int (nI ln), .int (nI po), .int lt, .int fi, .int sc, .int nu, .int (nI ad), .int (nI rv)])), (m9 1, .inl (cI, 16968, .inl sa)), (m9 2, .inl (cI, 80, .inl (fun i => nI (tx i))))]
abbrev inP (x lo hi : Int32) : Prop := lo ≤ x ∧ x ≤ hi
theorem inP_n {a lo hi : Nat} (h1 : lo ≤ a) (h2 : a ≤ hi) (h3 : hi < 2 ^ 31) : inP (nI a) (nI lo) (nI hi) := ⟨nI_le h1 (by omega), nI_le h2 h3⟩
theorem inP_no {a lo hi : Nat} (h : a < lo ∨ hi < a) (h1 : a < 2 ^ 31) (h2 : lo < 2 ^ 31) : ¬ inP (nI a) (nI lo) (nI hi) := by
  intro z
  rcases h with h | h
  · exact nI_ge h h2 z.1
  · exact nI_ge h h1 z.2
theorem inP_iff {a lo hi : Nat} (h0 : a < 2 ^ 31) (h1 : lo < 2 ^ 31) (h2 : hi < 2 ^ 31) : inP (nI a) (nI lo) (nI hi) ↔ lo ≤ a ∧ a ≤ hi := and_congr (nI_leI h1 h0) (nI_leI h0 h2)
def cntG (g : Nat → Int32) : Nat → Nat
  | 0 => 0
  | k + 1 => cntG g k + if g k ≤ 0 then 0 else 1
theorem cntG_le (g : Nat → Int32) : ∀ n, cntG g n ≤ n
  | 0 => Nat.le_refl 0
  | n + 1 => by
    have := cntG_le g n
    unfold cntG; split <;> omega
theorem cntG_p {g : Nat → Int32} {k : Nat} (h : ¬ g k ≤ 0) : cntG g k + 1 = cntG g (k + 1) := by simp only [cntG]; rw [if_neg h]
theorem cntG_n {g : Nat → Int32} {k : Nat} (h : g k ≤ 0) : cntG g k + 0 = cntG g (k + 1) := by simp only [cntG]; rw [if_pos h]
theorem clrE_out {f : Nat → Int32} {a n i : Nat} (h : i < a ∨ a + n ≤ i) : clrE f a n i = f i := by
  show (if a ≤ i ∧ i < a + n then 0 else f i) = f i
  rw [if_neg (by omega)]
theorem clrE_s2 (f : Nat → Int32) (a n i : Nat) (h : i = a + n) : upd (clrE f a n) i (nI 0) = clrE f a (n + 1) := by subst h; exact clrE_s f a n
def bgM (sa : Nat → Int32) (r : Nat) : Nat → Int32 := upd (upd sa (16 + r) (sa (16 + r) + nI 1)) (0 + 4 * r + r) ((upd sa (16 + r) (sa (16 + r) + nI 1)) (0 + 4 * r + r) + nI 1)
def mkM (sa : Nat → Int32) (r w c : Nat) (v : Int32) : Nat → Int32 :=
  let s2 := upd (upd sa (24 + (4 * (4 * (6 * r + w) + c) + r)) (sa (0 + 4 * r + r))) (408 + (4 * (4 * (6 * r + w) + c) + r)) v
  if c = 0 then upd s2 (792 + 4 * (6 * r + w) + r) (s2 (16 + r)) else s2
def goM (sa : Nat → Int32) (r w : Nat) : Nat → Int32
  | 0 => -1
  | k + 1 => if ¬ sa (24 + (4 * (4 * (6 * r + w) + 2) + k)) ≤ 0 ∧ ¬ sa (408 + (4 * (4 * (6 * r + w) + 2) + k)) ≤ goM sa r w k then sa (408 + (4 * (4 * (6 * r + w) + 2) + k)) else goM sa r w k
def putM (sa : Nat → Int32) (r w c : Nat) (v : Int32) : Nat → Int32 :=
  let s1 := bgM sa r
  mkM (clrE s1 (24 + 4 * (4 * (6 * r + w) + c)) 4) r w c (if c = 2 ∧ ¬ goM s1 r w 4 ≤ v then goM s1 r w 4 else v)
def smM (sa : Nat → Int32) (r w c : Nat) : Nat → Int32
  | 0 => nI 0
  | k + 1 => smM sa r w c k + if sa (24 + (4 * (4 * (6 * r + w) + c) + k)) ≤ 0 then nI 0 else sa (408 + (4 * (4 * (6 * r + w) + c) + k))
def addM (sa : Nat → Int32) (r w : Nat) (v : Int32) : Nat → Int32 :=
  let s1 := bgM sa r
  mkM s1 r w 3 ((if s1 (24 + (4 * (4 * (6 * r + w) + 3) + r)) ≤ 0 then nI 0 else s1 (408 + (4 * (4 * (6 * r + w) + 3) + r))) + v)
def incM (sa : Nat → Int32) (r w e : Nat) : Nat → Int32 :=
  let s1 := clrE (bgM sa r) (888 + 4 * (16 * (6 * r + w) + e)) 4
  upd s1 (888 + 4 * (16 * (6 * r + w) + e) + r) (s1 (0 + 4 * r + r))
def excM (sa : Nat → Int32) (r w e : Nat) : Nat → Int32 := clrE (bgM sa r) (888 + 4 * (16 * (6 * r + w) + e)) 4
/-- deleting a row: the columns, then the elements; how many -/
def dlA (sa : Nat → Int32) (r w : Nat) : Nat → Nat → Int32
  | 0 => sa
  | k + 1 => clrE (dlA sa r w k) (24 + 4 * (4 * (6 * r + w) + k)) 4
def dcA (sa : Nat → Int32) (r w : Nat) : Nat → Nat
  | 0 => 0
  | k + 1 => dcA sa r w k + cntG (fun j => dlA sa r w k (24 + (4 * (4 * (6 * r + w) + k) + j))) 4
def dlB (sa : Nat → Int32) (r w : Nat) : Nat → Nat → Int32
  | 0 => sa
  | k + 1 => clrE (dlB sa r w k) (888 + 4 * (16 * (6 * r + w) + k)) 4
def dcB (sa : Nat → Int32) (r w : Nat) : Nat → Nat
  | 0 => 0
  | k + 1 => dcB sa r w k + cntG (fun j => dlB sa r w k (888 + 4 * (16 * (6 * r + w) + k) + j)) 4
def delM (sa : Nat → Int32) (r w : Nat) : Nat → Int32 := dlB (dlA (bgM sa r) r w 4) r w 16
theorem dcA_le (sa : Nat → Int32) (r w : Nat) : ∀ k, dcA sa r w k ≤ 4 * k
  | 0 => Nat.le_refl 0
  | k + 1 => by
    have h1 := dcA_le sa r w k
    have h2 := cntG_le (fun j => dlA sa r w k (24 + (4 * (4 * (6 * r + w) + k) + j))) 4
    unfold dcA; omega
theorem dcB_le (sa : Nat → Int32) (r w : Nat) : ∀ k, dcB sa r w k ≤ 4 * k
  | 0 => Nat.le_refl 0
  | k + 1 => by
    have h1 := dcB_le sa r w k
    have h2 := cntG_le (fun j => dlB sa r w k (888 + 4 * (16 * (6 * r + w) + k) + j)) 4
    unfold dcB; omega
abbrev goP (sa : Nat → Int32) (f k : Nat) (own : Int32) : Prop := ¬ own ≤ 0 ∧ ¬ sa (0 + 4 * f + k) < own
abbrev coP (sa : Nat → Int32) (t k : Nat) (th : Int32) : Prop := ¬ th ≤ 0 ∧ ¬ th ≤ sa (0 + 4 * t + k)
def wyM (sa : Nat → Int32) (f t k : Nat) (th own : Int32) : Int32 := if th = own then nI 0 else if coP sa t k th then nI 1 else if goP sa f k own then -1 else nI 0
def waM (sa : Nat → Int32) (t k : Nat) (th own : Int32) : Nat := if th = own then 0 else if coP sa t k th then 1 else 0
def wrM (sa : Nat → Int32) (f k : Nat) (th own : Int32) : Nat := if th = own then 0 else if goP sa f k own then 1 else 0
theorem waM_le (sa : Nat → Int32) (t k : Nat) (th own : Int32) : waM sa t k th own ≤ 1 := by unfold waM; split <;> (try split) <;> omega
theorem wrM_le (sa : Nat → Int32) (f k : Nat) (th own : Int32) : wrM sa f k th own ≤ 1 := by unfold wrM; split <;> (try split) <;> omega
/-- the elements' part of a merge, k places of it: the array, how many came, how many went; d: whether it is done or only counted -/
def meM (d : Bool) (f t : Nat) (x : (Nat → Int32) × Nat × Nat) : Nat → (Nat → Int32) × Nat × Nat
  | 0 => x
  | k + 1 =>
    let y := meM d f t x k
    let th := y.1 (888 + 384 * f + k)
    let ow := y.1 (888 + 384 * t + k)
    let v := wyM y.1 f t (k % 4) th ow
    (if d then upd y.1 (888 + 384 * t + k) (if v ≤ 0 then (if 0 ≤ v then ow else nI 0) else th) else y.1, y.2.1 + waM y.1 t (k % 4) th ow, y.2.2 + wrM y.1 f (k % 4) th ow)
def mcM (d : Bool) (f t : Nat) (x : (Nat → Int32) × Nat × Nat) : Nat → (Nat → Int32) × Nat × Nat
  | 0 => x
  | k + 1 =>
    let y := mcM d f t x k
    let th := y.1 (24 + (96 * f + k))
    let ow := y.1 (24 + (96 * t + k))
    let v := wyM y.1 f t (k % 4) th ow
    let s1 := upd y.1 (24 + (96 * t + k)) (if v ≤ 0 then nI 0 else th)
    let s2 := upd s1 (408 + (96 * t + k)) (s1 (408 + (96 * f + k)))
    (if d then (if v = 0 then y.1 else if 0 < k / 4 % 4 then s2 else upd s2 (792 + 4 * (6 * t + k / 16) + k % 4) (s2 (792 + 4 * (6 * f + k / 16) + k % 4))) else y.1, y.2.1 + waM y.1 t (k % 4) th ow, y.2.2 + wrM y.1 f (k % 4) th ow)
def lkM (d : Bool) (sa : Nat → Int32) (f t : Nat) : (Nat → Int32) × Nat × Nat := meM d f t ((mcM d f t (sa, 0, 0) 96).1, (mcM d f t (sa, 0, 0) 96).2.1, (mcM d f t (sa, 0, 0) 96).2.2) 384
def skM (sa : Nat → Int32) (f t : Nat) : Nat → Nat → Int32
  | 0 => sa
  | k + 1 => upd (skM sa f t k) (0 + 4 * t + k) (if skM sa f t k (0 + 4 * f + k) ≤ skM sa f t k (0 + 4 * t + k) then skM sa f t k (0 + 4 * t + k) else skM sa f t k (0 + 4 * f + k))
def mgM (sa : Nat → Int32) (f t : Nat) : Nat → Int32 :=
  let x := lkM true sa f t
  let s1 := skM x.1 f t 4
  let s2 := upd s1 (16 + t) (if s1 (16 + f) ≤ s1 (16 + t) then s1 (16 + t) else s1 (16 + f))
  upd (upd (upd (upd s2 20 (nI f)) 21 (nI t)) 22 (nI x.2.1)) 23 (nI x.2.2)
def cpM (sa : Nat → Int32) (f t : Nat) : Nat → Nat → Int32
  | 0 => sa
  | k + 1 => upd (cpM sa f t k) (2424 * t + k) (cpM sa f t k (2424 * f + k))
def shM (sa : Nat → Int32) : Nat → Nat → Int32
  | 0 => sa
  | k + 1 => cpM (shM sa k) (k + 1 + 1) (k + 1) 2424
abbrev kpN (sv : Nat) : Nat := sv + (if sv < 6 then 1 else 0)
def kpM (sa : Nat → Int32) (sv : Nat) : Nat → Int32 := cpM (if sv = 6 then shM sa 5 else sa) 0 (kpN sv) 2424
theorem kpN_b (sv : Nat) (h : sv ≤ 6) : 1 ≤ kpN sv ∧ kpN sv ≤ 6 := by unfold kpN; split <;> omega
/-- how many entries in a cell -/
def enI (sa : Nat → Int32) (r w k : Nat) : Nat → Nat
  | 0 => 0
  | e + 1 => enI sa r w k e + if sa (888 + 4 * (16 * (6 * r + w) + e) + k) ≤ 0 then 0 else 1
def enM (sa : Nat → Int32) (r w c : Nat) : Nat → Nat
  | 0 => 0
  | k + 1 => if c = 4 then enM sa r w c k + enI sa r w k 16 else enM sa r w c k + if sa (24 + (4 * (4 * (6 * r + w) + c) + k)) ≤ 0 then 0 else 1
theorem enI_le (sa : Nat → Int32) (r w k : Nat) : ∀ e, enI sa r w k e ≤ e
  | 0 => Nat.le_refl 0
  | e + 1 => by
    have := enI_le sa r w k e
    unfold enI; split <;> omega
theorem enM_le (sa : Nat → Int32) (r w c : Nat) : ∀ k, enM sa r w c k ≤ 16 * k
  | 0 => Nat.le_refl 0
  | k + 1 => by
    have h1 := enM_le sa r w c k
    have h2 := enI_le sa r w k 16
    unfold enM; split
    · omega
    · split <;> omega
abbrev kwM (sa : Nat → Int32) (a b k : Nat) : Prop := ∀ o, o < k → ¬ sa (0 + 4 * a + o) < sa (0 + 4 * b + o)
abbrev lkP (sa : Nat → Int32) (r w c k : Nat) : Prop := if c = 4 then sa (888 + 4 * (16 * (6 * 0 + w) + k / 4) + k % 4) = sa (888 + 4 * (16 * (6 * r + w) + k / 4) + k % 4) else sa (24 + (4 * (4 * (6 * 0 + w) + c) + k % 4)) = sa (24 + (4 * (4 * (6 * r + w) + c) + k % 4))
abbrev liM (sa : Nat → Int32) (r w c n : Nat) : Prop := ∀ k, k < n → lkP sa r w c k
theorem mcM_z {f t k : Nat} {x : (Nat → Int32) × Nat × Nat} (h : wyM (mcM true f t x k).1 f t (k % 4) ((mcM true f t x k).1 (24 + (96 * f + k))) ((mcM true f t x k).1 (24 + (96 * t + k))) = 0) : (mcM true f t x k).1 = (mcM true f t x (k + 1)).1 := by
  show (mcM true f t x k).1 = (if wyM (mcM true f t x k).1 f t (k % 4) ((mcM true f t x k).1 (24 + (96 * f + k))) ((mcM true f t x k).1 (24 + (96 * t + k))) = 0 then (mcM true f t x k).1 else if 0 < k / 4 % 4 then (upd (upd (mcM true f t x k).1 (24 + (96 * t + k)) (if wyM (mcM true f t x k).1 f t (k % 4) ((mcM true f t x k).1 (24 + (96 * f + k))) ((mcM true f t x k).1 (24 + (96 * t + k))) ≤ 0 then nI 0 else (mcM true f t x k).1 (24 + (96 * f + k)))) (408 + (96 * t + k)) ((upd (mcM true f t x k).1 (24 + (96 * t + k)) (if wyM (mcM true f t x k).1 f t (k % 4) ((mcM true f t x k).1 (24 + (96 * f + k))) ((mcM true f t x k).1 (24 + (96 * t + k))) ≤ 0 then nI 0 else (mcM true f t x k).1 (24 + (96 * f + k)))) (408 + (96 * f + k)))) else (upd (upd (upd (mcM true f t x k).1 (24 + (96 * t + k)) (if wyM (mcM true f t x k).1 f t (k % 4) ((mcM true f t x k).1 (24 + (96 * f + k))) ((mcM true f t x k).1 (24 + (96 * t + k))) ≤ 0 then nI 0 else (mcM true f t x k).1 (24 + (96 * f + k)))) (408 + (96 * t + k)) ((upd (mcM true f t x k).1 (24 + (96 * t + k)) (if wyM (mcM true f t x k).1 f t (k % 4) ((mcM true f t x k).1 (24 + (96 * f + k))) ((mcM true f t x k).1 (24 + (96 * t + k))) ≤ 0 then nI 0 else (mcM true f t x k).1 (24 + (96 * f + k)))) (408 + (96 * f + k)))) (792 + 4 * (6 * t + k / 16) + k % 4) ((upd (upd (mcM true f t x k).1 (24 + (96 * t + k)) (if wyM (mcM true f t x k).1 f t (k % 4) ((mcM true f t x k).1 (24 + (96 * f + k))) ((mcM true f t x k).1 (24 + (96 * t + k))) ≤ 0 then nI 0 else (mcM true f t x k).1 (24 + (96 * f + k)))) (408 + (96 * t + k)) ((upd (mcM true f t x k).1 (24 + (96 * t + k)) (if wyM (mcM true f t x k).1 f t (k % 4) ((mcM true f t x k).1 (24 + (96 * f + k))) ((mcM true f t x k).1 (24 + (96 * t + k))) ≤ 0 then nI 0 else (mcM true f t x k).1 (24 + (96 * f + k)))) (408 + (96 * f + k)))) (792 + 4 * (6 * f + k / 16) + k % 4))))
  rw [if_pos h]
theorem mcM_a {f t k : Nat} {x : (Nat → Int32) × Nat × Nat} (h : ¬ wyM (mcM true f t x k).1 f t (k % 4) ((mcM true f t x k).1 (24 + (96 * f + k))) ((mcM true f t x k).1 (24 + (96 * t + k))) = 0) (h2 : 0 < k / 4 % 4) : (upd (upd (mcM true f t x k).1 (24 + (96 * t + k)) (if wyM (mcM true f t x k).1 f t (k % 4) ((mcM true f t x k).1 (24 + (96 * f + k))) ((mcM true f t x k).1 (24 + (96 * t + k))) ≤ 0 then nI 0 else (mcM true f t x k).1 (24 + (96 * f + k)))) (408 + (96 * t + k)) ((upd (mcM true f t x k).1 (24 + (96 * t + k)) (if wyM (mcM true f t x k).1 f t (k % 4) ((mcM true f t x k).1 (24 + (96 * f + k))) ((mcM true f t x k).1 (24 + (96 * t + k))) ≤ 0 then nI 0 else (mcM true f t x k).1 (24 + (96 * f + k)))) (408 + (96 * f + k)))) = (mcM true f t x (k + 1)).1 := by
  show (upd (upd (mcM true f t x k).1 (24 + (96 * t + k)) (if wyM (mcM true f t x k).1 f t (k % 4) ((mcM true f t x k).1 (24 + (96 * f + k))) ((mcM true f t x k).1 (24 + (96 * t + k))) ≤ 0 then nI 0 else (mcM true f t x k).1 (24 + (96 * f + k)))) (408 + (96 * t + k)) ((upd (mcM true f t x k).1 (24 + (96 * t + k)) (if wyM (mcM true f t x k).1 f t (k % 4) ((mcM true f t x k).1 (24 + (96 * f + k))) ((mcM true f t x k).1 (24 + (96 * t + k))) ≤ 0 then nI 0 else (mcM true f t x k).1 (24 + (96 * f + k)))) (408 + (96 * f + k)))) = (if wyM (mcM true f t x k).1 f t (k % 4) ((mcM true f t x k).1 (24 + (96 * f + k))) ((mcM true f t x k).1 (24 + (96 * t + k))) = 0 then (mcM true f t x k).1 else if 0 < k / 4 % 4 then (upd (upd (mcM true f t x k).1 (24 + (96 * t + k)) (if wyM (mcM true f t x k).1 f t (k % 4) ((mcM true f t x k).1 (24 + (96 * f + k))) ((mcM true f t x k).1 (24 + (96 * t + k))) ≤ 0 then nI 0 else (mcM true f t x k).1 (24 + (96 * f + k)))) (408 + (96 * t + k)) ((upd (mcM true f t x k).1 (24 + (96 * t + k)) (if wyM (mcM true f t x k).1 f t (k % 4) ((mcM true f t x k).1 (24 + (96 * f + k))) ((mcM true f t x k).1 (24 + (96 * t + k))) ≤ 0 then nI 0 else (mcM true f t x k).1 (24 + (96 * f + k)))) (408 + (96 * f + k)))) else (upd (upd (upd (mcM true f t x k).1 (24 + (96 * t + k)) (if wyM (mcM true f t x k).1 f t (k % 4) ((mcM true f t x k).1 (24 + (96 * f + k))) ((mcM true f t x k).1 (24 + (96 * t + k))) ≤ 0 then nI 0 else (mcM true f t x k).1 (24 + (96 * f + k)))) (408 + (96 * t + k)) ((upd (mcM true f t x k).1 (24 + (96 * t + k)) (if wyM (mcM true f t x k).1 f t (k % 4) ((mcM true f t x k).1 (24 + (96 * f + k))) ((mcM true f t x k).1 (24 + (96 * t + k))) ≤ 0 then nI 0 else (mcM true f t x k).1 (24 + (96 * f + k)))) (408 + (96 * f + k)))) (792 + 4 * (6 * t + k / 16) + k % 4) ((upd (upd (mcM true f t x k).1 (24 + (96 * t + k)) (if wyM (mcM true f t x k).1 f t (k % 4) ((mcM true f t x k).1 (24 + (96 * f + k))) ((mcM true f t x k).1 (24 + (96 * t + k))) ≤ 0 then nI 0 else (mcM true f t x k).1 (24 + (96 * f + k)))) (408 + (96 * t + k)) ((upd (mcM true f t x k).1 (24 + (96 * t + k)) (if wyM (mcM true f t x k).1 f t (k % 4) ((mcM true f t x k).1 (24 + (96 * f + k))) ((mcM true f t x k).1 (24 + (96 * t + k))) ≤ 0 then nI 0 else (mcM true f t x k).1 (24 + (96 * f + k)))) (408 + (96 * f + k)))) (792 + 4 * (6 * f + k / 16) + k % 4))))
  rw [if_neg h, if_pos h2]
theorem mcM_b {f t k : Nat} {x : (Nat → Int32) × Nat × Nat} (h : ¬ wyM (mcM true f t x k).1 f t (k % 4) ((mcM true f t x k).1 (24 + (96 * f + k))) ((mcM true f t x k).1 (24 + (96 * t + k))) = 0) (h2 : k / 4 % 4 = 0) : (upd (upd (upd (mcM true f t x k).1 (24 + (96 * t + k)) (if wyM (mcM true f t x k).1 f t (k % 4) ((mcM true f t x k).1 (24 + (96 * f + k))) ((mcM true f t x k).1 (24 + (96 * t + k))) ≤ 0 then nI 0 else (mcM true f t x k).1 (24 + (96 * f + k)))) (408 + (96 * t + k)) ((upd (mcM true f t x k).1 (24 + (96 * t + k)) (if wyM (mcM true f t x k).1 f t (k % 4) ((mcM true f t x k).1 (24 + (96 * f + k))) ((mcM true f t x k).1 (24 + (96 * t + k))) ≤ 0 then nI 0 else (mcM true f t x k).1 (24 + (96 * f + k)))) (408 + (96 * f + k)))) (792 + 4 * (6 * t + k / 16) + k % 4) ((upd (upd (mcM true f t x k).1 (24 + (96 * t + k)) (if wyM (mcM true f t x k).1 f t (k % 4) ((mcM true f t x k).1 (24 + (96 * f + k))) ((mcM true f t x k).1 (24 + (96 * t + k))) ≤ 0 then nI 0 else (mcM true f t x k).1 (24 + (96 * f + k)))) (408 + (96 * t + k)) ((upd (mcM true f t x k).1 (24 + (96 * t + k)) (if wyM (mcM true f t x k).1 f t (k % 4) ((mcM true f t x k).1 (24 + (96 * f + k))) ((mcM true f t x k).1 (24 + (96 * t + k))) ≤ 0 then nI 0 else (mcM true f t x k).1 (24 + (96 * f + k)))) (408 + (96 * f + k)))) (792 + 4 * (6 * f + k / 16) + k % 4))) = (mcM true f t x (k + 1)).1 := by
  show (upd (upd (upd (mcM true f t x k).1 (24 + (96 * t + k)) (if wyM (mcM true f t x k).1 f t (k % 4) ((mcM true f t x k).1 (24 + (96 * f + k))) ((mcM true f t x k).1 (24 + (96 * t + k))) ≤ 0 then nI 0 else (mcM true f t x k).1 (24 + (96 * f + k)))) (408 + (96 * t + k)) ((upd (mcM true f t x k).1 (24 + (96 * t + k)) (if wyM (mcM true f t x k).1 f t (k % 4) ((mcM true f t x k).1 (24 + (96 * f + k))) ((mcM true f t x k).1 (24 + (96 * t + k))) ≤ 0 then nI 0 else (mcM true f t x k).1 (24 + (96 * f + k)))) (408 + (96 * f + k)))) (792 + 4 * (6 * t + k / 16) + k % 4) ((upd (upd (mcM true f t x k).1 (24 + (96 * t + k)) (if wyM (mcM true f t x k).1 f t (k % 4) ((mcM true f t x k).1 (24 + (96 * f + k))) ((mcM true f t x k).1 (24 + (96 * t + k))) ≤ 0 then nI 0 else (mcM true f t x k).1 (24 + (96 * f + k)))) (408 + (96 * t + k)) ((upd (mcM true f t x k).1 (24 + (96 * t + k)) (if wyM (mcM true f t x k).1 f t (k % 4) ((mcM true f t x k).1 (24 + (96 * f + k))) ((mcM true f t x k).1 (24 + (96 * t + k))) ≤ 0 then nI 0 else (mcM true f t x k).1 (24 + (96 * f + k)))) (408 + (96 * f + k)))) (792 + 4 * (6 * f + k / 16) + k % 4))) = (if wyM (mcM true f t x k).1 f t (k % 4) ((mcM true f t x k).1 (24 + (96 * f + k))) ((mcM true f t x k).1 (24 + (96 * t + k))) = 0 then (mcM true f t x k).1 else if 0 < k / 4 % 4 then (upd (upd (mcM true f t x k).1 (24 + (96 * t + k)) (if wyM (mcM true f t x k).1 f t (k % 4) ((mcM true f t x k).1 (24 + (96 * f + k))) ((mcM true f t x k).1 (24 + (96 * t + k))) ≤ 0 then nI 0 else (mcM true f t x k).1 (24 + (96 * f + k)))) (408 + (96 * t + k)) ((upd (mcM true f t x k).1 (24 + (96 * t + k)) (if wyM (mcM true f t x k).1 f t (k % 4) ((mcM true f t x k).1 (24 + (96 * f + k))) ((mcM true f t x k).1 (24 + (96 * t + k))) ≤ 0 then nI 0 else (mcM true f t x k).1 (24 + (96 * f + k)))) (408 + (96 * f + k)))) else (upd (upd (upd (mcM true f t x k).1 (24 + (96 * t + k)) (if wyM (mcM true f t x k).1 f t (k % 4) ((mcM true f t x k).1 (24 + (96 * f + k))) ((mcM true f t x k).1 (24 + (96 * t + k))) ≤ 0 then nI 0 else (mcM true f t x k).1 (24 + (96 * f + k)))) (408 + (96 * t + k)) ((upd (mcM true f t x k).1 (24 + (96 * t + k)) (if wyM (mcM true f t x k).1 f t (k % 4) ((mcM true f t x k).1 (24 + (96 * f + k))) ((mcM true f t x k).1 (24 + (96 * t + k))) ≤ 0 then nI 0 else (mcM true f t x k).1 (24 + (96 * f + k)))) (408 + (96 * f + k)))) (792 + 4 * (6 * t + k / 16) + k % 4) ((upd (upd (mcM true f t x k).1 (24 + (96 * t + k)) (if wyM (mcM true f t x k).1 f t (k % 4) ((mcM true f t x k).1 (24 + (96 * f + k))) ((mcM true f t x k).1 (24 + (96 * t + k))) ≤ 0 then nI 0 else (mcM true f t x k).1 (24 + (96 * f + k)))) (408 + (96 * t + k)) ((upd (mcM true f t x k).1 (24 + (96 * t + k)) (if wyM (mcM true f t x k).1 f t (k % 4) ((mcM true f t x k).1 (24 + (96 * f + k))) ((mcM true f t x k).1 (24 + (96 * t + k))) ≤ 0 then nI 0 else (mcM true f t x k).1 (24 + (96 * f + k)))) (408 + (96 * f + k)))) (792 + 4 * (6 * f + k / 16) + k % 4))))
  rw [if_neg h, if_neg (show ¬ 0 < k / 4 % 4 from by omega)]
