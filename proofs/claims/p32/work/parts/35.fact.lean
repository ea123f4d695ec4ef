/-! what the law asks of each update -/
theorem mx_ge {x y : Int32} (h : ¬ x < 0) : ¬ mx x y < 0 := fun z => by
  have z : (if x < y then y else x) < 0 := z
  by_cases c : x < y
  · rw [if_pos c] at z; exact h (Int32.lt_trans c z)
  · rw [if_neg c] at z; exact h z
theorem Iv_put {st : St} {B r w g : Nat} {v : Int32} (hr : r < 4) (hw : w < 6) (hg : g < 3) (hv : ¬ v < 0) (hB : B + 1 < 2 ^ 31) (h : Iv st B) : Iv (putS st r w g v) (B + 1) := by
  refine Iv_up hr hB h (fun _ => ⟨by omega, by omega, by omega⟩) (UpS_put st v hr hw hg) (fun _ t ht => ⟨ht, fun _ => ?_, fun _ => ?_, fun z => by omega⟩)
  · rw [ptV]; split
    · exact mx_ge hv
    · exact hv
  · rw [ptV]; split
    · exact mx_ge hv
    · exact hv
theorem Iv_add {st : St} {B r w : Nat} (v : Int32) (hr : r < 4) (hw : w < 6) (hB : B + 1 < 2 ^ 31) (h : Iv st B) : Iv (addS st r w v) (B + 1) :=
  Iv_up hr hB h (fun _ => ⟨by omega, by omega, by omega⟩) (UpS_add st v hr hw) (fun _ t ht => ⟨ht, fun z => by omega, fun z => by omega, fun z => by omega⟩)
theorem Iv_inc {st : St} {B r w e : Nat} (hr : r < 4) (hw : w < 6) (he : e < 16) (hB : B + 1 < 2 ^ 31) (h : Iv st B) : Iv (incS st r w e) (B + 1) :=
  Iv_up hr hB h (fun _ => ⟨by omega, by omega, by omega⟩) (UpS_inc st hr hw he) (fun _ t ht => ⟨ht, fun z => by omega, fun z => by omega, fun z => congrArg nI (by omega)⟩)
theorem Iv_exc {st : St} {B r w e : Nat} (hr : r < 4) (hw : w < 6) (he : e < 16) (hB : B + 1 < 2 ^ 31) (h : Iv st B) : Iv (excS st r w e) (B + 1) :=
  Iv_up hr hB h (fun z => absurd z (by decide)) (UpS_exc st hr hw he) (fun z => absurd z (by decide))
theorem Iv_del {st : St} {B r w : Nat} (hr : r < 4) (hw : w < 6) (hB : B + 1 < 2 ^ 31) (h : Iv st B) : Iv (delS st r w) (B + 1) :=
  Iv_up hr hB h (fun z => absurd z (by decide)) (UpS_del st hr hw) (fun z => absurd z (by decide))
-- put
theorem put_one {st : St} {B r w g : Nat} (v : Int32) (hr : r < 4) (hw : w < 6) (hg : g < 3) (hB : B + 1 < 2 ^ 31) (h : Iv st B) : one9 (putS st r w g v) (r * 480 + w * 80 + g * 4) r (ptV st r w g v) := up_one hr hw (by omega) hB h (UpS_put st v hr hw hg)
theorem put_cnt {st : St} {B r w g : Nat} (v : Int32) (hr : r < 4) (hw : w < 6) (hg : g < 3) (hB : B + 1 < 2 ^ 31) (h : Iv st B) : cntE (putS st r w g v).1 (r * 480 + w * 80 + g * 4) 4 = 1 := by
  rw [one_cnt (put_one v hr hw hg hB h) 4 (Nat.le_refl 4), if_pos hr]
theorem put_lt {st : St} {B r w : Nat} (v : Int32) (hr : r < 4) (hw : w < 6) (hB : B + 1 < 2 ^ 31) (h : Iv st B) : (ltE (putS st r w 0 v) (r * 480 + w * 80 + 0 * 4) 4).2 = v := by
  rw [one_lt (put_one v hr hw (by decide) hB h) 4 (Nat.le_refl 4), if_pos hr]
  rfl
theorem put_sb {st : St} {B r w : Nat} (v : Int32) (hr : r < 4) (hw : w < 6) (hB : B + 1 < 2 ^ 31) (h : Iv st B) : sbE (putS st r w 1 v) (r * 480 + w * 80 + 1 * 4) 4 (nI 0) 4 0 = v ∧ sbE (putS st r w 1 v) (r * 480 + w * 80 + 1 * 4) 4 (nI 1) 4 0 = -1 := by
  have o := put_one v hr hw (g := 1) (by decide) hB h
  rw [one_sb o hr 4 0 rfl, one_sb o hr 4 0 rfl, if_pos ⟨Nat.zero_le _, rfl⟩, if_neg (fun z => absurd z.2 (by decide))]
  exact ⟨rfl, rfl⟩
theorem put_sm {st : St} {B r w : Nat} (v : Int32) (hr : r < 4) (hw : w < 6) (hB : B + 1 < 2 ^ 31) (h : Iv st B) : smE (putS st r w 1 v) (r * 480 + w * 80 + 1 * 4) 4 = v := by
  rw [one_sm (put_one v hr hw (by decide) hB h) 4 (Nat.le_refl 4), if_pos hr]
  rfl
theorem mean_ok : ∀ v, v < 1000 → Op.cmpValue (FP.fcmp (mnF 1 (nI v)) (FP.i2f (nI v))) .l = 0 := by decide +kernel
theorem put_gr {st : St} {B r w : Nat} {v : Int32} (hv : ¬ v < 0) (hr : r < 4) (hw : w < 6) (hB : B + 1 < 2 ^ 31) (h : Iv st B) : grE (putS st r w 2 v) (r * 480 + w * 80 + 2 * 4) 4 = if v < grE st (r * 480 + w * 80 + 2 * 4) 4 then grE st (r * 480 + w * 80 + 2 * 4) 4 else v := by
  have e : ptV st r w 2 v = mx v (grE st (r * 480 + w * 80 + 2 * 4) 4) := if_pos rfl
  have o := put_one v hr hw (g := 2) (by decide) hB h
  rw [e] at o
  rw [one_gr o (mx_ge hv) 4 (Nat.le_refl 4), if_pos hr]
  rfl
-- add
theorem add_sm {st : St} {B r w : Nat} (v : Int32) (hr : r < 4) (hw : w < 6) (hB : B + 1 < 2 ^ 31) (h : Iv st B) : smE (addS st r w v) (r * 480 + w * 80 + 3 * 4) (cE 3 * 4 - 3 * 4) = smE st (r * 480 + w * 80 + 3 * 4) (cE 3 * 4 - 3 * 4) + v := by
  have e : cE 3 * 4 - 3 * 4 = 4 := rfl
  rw [e, sm_add v hr hw hB h 4 (Nat.le_refl 4), if_pos hr]
-- include
theorem inc_el {st : St} {B r w e : Nat} (hr : r < 4) (hw : w < 6) (he : e < 16) (hB : B + 1 < 2 ^ 31) (h : Iv st B) : ebE (incS st r w e) (r * 480 + w * 80 + 4 * 4) 64 = ebE st (r * 480 + w * 80 + 4 * 4) 64 ||| (nI 1 <<< (nI e &&& 31)) := by
  have hu := UpS_inc st hr hw he
  have hz := up_nz hr (by omega) hB h hu
  refine bt_or1 he fun i hi => ?_
  rw [set_bt (Iv_inc hr hw he hB h) hr hw hi, set_bt h hr hw hi]
  have out : ∀ k, k < 64 → ¬ k / 4 = e → (incS st r w e).1 (r * 480 + w * 80 + 4 * 4 + k) = st.1 (r * 480 + w * 80 + 4 * 4 + k) := fun k hk hne => by
    have := up_out (o := w * 80 + 4 * 4 + k) hr (by omega) hu (fun z => hne (by omega)) (fun z => hne (by omega))
    rw [show r * 480 + w * 80 + 4 * 4 + k = r * 480 + (w * 80 + 4 * 4 + k) by omega]; exact this
  constructor
  · rintro ⟨k, hk, h2, h3⟩
    by_cases c : k / 4 = e
    · exact Or.inr (h2.symm.trans c)
    · rw [out k hk c] at h3; exact Or.inl ⟨k, hk, h2, h3⟩
  · intro hh
    by_cases c : i = e
    · refine ⟨e * 4 + r, by omega, by omega, ?_⟩
      rw [show r * 480 + w * 80 + 4 * 4 + (e * 4 + r) = r * 480 + (w * 80 + (4 + e) * 4 + r) by omega]
      exact hz.1
    · rcases hh with ⟨k, hk, h2, h3⟩ | hh
      · exact ⟨k, hk, h2, by rw [out k hk (fun z => c (h2.symm.trans z))]; exact h3⟩
      · exact absurd hh c
theorem grp_le (f : Nat → Int32) {A e : Nat} (he : e < 16) : cntE f (A + (4 + e) * 4) 4 ≤ cntE f (A + 4 * 4) 64 := by
  rw [set_cut f he]; omega
theorem inc_cnt {st : St} {B r w e : Nat} (hr : r < 4) (hw : w < 6) (he : e < 16) (hB : B + 1 < 2 ^ 31) (h : Iv st B) : cntE (incS st r w e).1 (r * 480 + w * 80 + 4 * 4) 64 = cntE st.1 (r * 480 + w * 80 + 4 * 4) 64 - cntE st.1 (r * 480 + w * 80 + (4 + e) * 4) 4 + 1 := by
  have hu := UpS_inc st hr hw he
  have o := up_one hr hw (g := 4 + e) (by omega) hB h hu
  have out : ∀ k, k < 80 → ¬ k / 4 = 4 + e → (incS st r w e).1 (r * 480 + w * 80 + k) = st.1 (r * 480 + w * 80 + k) := fun k hk hne => by
    have := up_out (o := w * 80 + k) hr (by omega) hu (fun z => hne (by omega)) (fun z => hne (by omega))
    rw [show r * 480 + w * 80 + k = r * 480 + (w * 80 + k) by omega]; exact this
  rw [set_cut (incS st r w e).1 he, set_cut st.1 he, one_cnt o 4 (Nat.le_refl 4), if_pos hr]
  have e1 : cntE (incS st r w e).1 (r * 480 + w * 80 + 4 * 4) (4 * e) = cntE st.1 (r * 480 + w * 80 + 4 * 4) (4 * e) := cntE_eq _ fun k hk => by
    have := out (4 * 4 + k) (by omega) (by omega)
    rw [← Nat.add_assoc] at this; exact this
  have e2 : cntE (incS st r w e).1 (r * 480 + w * 80 + (4 + e) * 4 + 4) (60 - 4 * e) = cntE st.1 (r * 480 + w * 80 + (4 + e) * 4 + 4) (60 - 4 * e) := cntE_eq _ fun k hk => by
    have := out ((4 + e) * 4 + 4 + k) (by omega) (by omega)
    rw [← Nat.add_assoc, ← Nat.add_assoc] at this; exact this
  rw [e1, e2]
  omega
/-- has the set its element? -/
theorem set_has {st : St} {B r w e : Nat} (h : Iv st B) (hr : r < 4) (hw : w < 6) (he : e < 16) : (ebE st (r * 480 + w * 80 + 4 * 4) 64 >>> (nI e &&& 31)) &&& nI 1 = if 0 < cntE st.1 (r * 480 + w * 80 + (4 + e) * 4) 4 then nI 1 else nI 0 := by
  rw [bit_at _ he]
  by_cases c : 0 < cntE st.1 (r * 480 + w * 80 + (4 + e) * 4) 4
  · rw [if_pos c, if_pos ((set_grp h hr hw he).mpr c)]
  · rw [if_neg c, if_neg (fun z => c ((set_grp h hr hw he).mp z))]
-- exclude
theorem exc_el {st : St} {B r w e : Nat} (hr : r < 4) (hw : w < 6) (he : e < 16) (hB : B + 1 < 2 ^ 31) (h : Iv st B) : ebE (excS st r w e) (r * 480 + w * 80 + 4 * 4) 64 = ebE st (r * 480 + w * 80 + 4 * 4) 64 &&& ((nI 1 <<< (nI e &&& 31)) ^^^ (-1)) := by
  have hu := UpS_exc st hr hw he
  refine bt_an1 he fun i hi => ?_
  rw [set_bt (Iv_exc hr hw he hB h) hr hw hi, set_bt h hr hw hi]
  have out : ∀ k, k < 64 → ¬ k / 4 = e → (excS st r w e).1 (r * 480 + w * 80 + 4 * 4 + k) = st.1 (r * 480 + w * 80 + 4 * 4 + k) := fun k hk hne => by
    have := up_out (o := w * 80 + 4 * 4 + k) hr (by omega) hu (fun z => absurd z.1 (by decide)) (fun z => hne (by omega))
    rw [show r * 480 + w * 80 + 4 * 4 + k = r * 480 + (w * 80 + 4 * 4 + k) by omega]; exact this
  constructor
  · rintro ⟨k, hk, h2, h3⟩
    have c : ¬ k / 4 = e := fun c => h3 (by
      have := up_in (o := w * 80 + 4 * 4 + k) hr (by omega) hu (fun z => absurd z.1 (by decide)) ⟨by omega, by omega⟩
      rw [show r * 480 + w * 80 + 4 * 4 + k = r * 480 + (w * 80 + 4 * 4 + k) by omega]; exact this)
    rw [out k hk c] at h3
    exact ⟨⟨k, hk, h2, h3⟩, fun z => c (h2.trans z)⟩
  · rintro ⟨⟨k, hk, h2, h3⟩, c⟩
    exact ⟨k, hk, h2, by rw [out k hk (fun z => c (h2.symm.trans z))]; exact h3⟩
-- delete
theorem del_cnt {st : St} {r w : Nat} (hr : r < 4) (hw : w < 6) : cntE (delS st r w).1 (r * 480 + w * 80 + 0 * 4) 80 = 0 := cntE_z 80 fun k hk => by
  have := up_in (o := w * 80 + 0 * 4 + k) hr (by omega) (UpS_del st hr hw) (fun z => absurd z.1 (by decide)) ⟨by omega, by omega⟩
  rw [show r * 480 + w * 80 + 0 * 4 + k = r * 480 + (w * 80 + 0 * 4 + k) by omega]; exact this
/-- the entries of a row, column by column -/
def smC (st : St) (r w : Nat) : Nat → Nat
  | 0 => 0
  | k + 1 => smC st r w k + cntE st.1 (r * 480 + w * 80 + k * 4) (cE k * 4 - k * 4)
theorem smC_k (st : St) (r w : Nat) : ∀ k, k ≤ 4 → smC st r w k = cntE st.1 (r * 480 + w * 80 + 0 * 4) (k * 4)
  | 0, _ => rfl
  | k + 1, hk => by
    have hc : cE k * 4 - k * 4 = 4 := by unfold cE; rw [if_neg (by omega)]; omega
    rw [smC, smC_k st r w k (by omega), hc, show (k + 1) * 4 = k * 4 + 4 by omega, cntE_ap, show r * 480 + w * 80 + 0 * 4 + k * 4 = r * 480 + w * 80 + k * 4 by omega]
theorem smC_5 (st : St) (r w : Nat) : smC st r w 5 = cntE st.1 (r * 480 + w * 80 + 0 * 4) 80 := by
  have hc : cE 4 * 4 - 4 * 4 = 64 := rfl
  rw [smC, smC_k st r w 4 (Nat.le_refl 4), hc, show (80 : Nat) = 4 * 4 + 64 from rfl, cntE_ap, show r * 480 + w * 80 + 0 * 4 + 4 * 4 = r * 480 + w * 80 + 4 * 4 by omega]
theorem smC_le (st : St) (r w : Nat) : ∀ k, k ≤ 5 → smC st r w k ≤ 64 * k
  | 0, _ => Nat.le_refl 0
  | k + 1, hk => by
    have := smC_le st r w k (by omega)
    have h2 := cntE_le st.1 (r * 480 + w * 80 + k * 4) (cE k * 4 - k * 4)
    have h3 := cE_b k (by omega)
    rw [smC]; omega
/-- the clock and the own seen number go up by 1 -/
theorem up_own {st st' : St} {r o0 lo hi : Nat} {mk : Bool} {v : Int32} (hr : r < 4) (hu : UpS st st' r o0 mk lo hi v) : st'.2.2.2.2.1 r = st.2.2.2.2.1 r + nI 1 ∧ st'.2.2.2.1 (r * 4 + r) = st.2.2.2.1 (r * 4 + r) + nI 1 := by
  obtain ⟨u1, u2, u3, u4, u5⟩ := hu
  rw [u5 r hr, u4 r r hr hr, if_pos rfl, if_pos ⟨rfl, rfl⟩]
  exact ⟨rfl, rfl⟩
/-- what the three other replicas tell -/
def othV (st : St) (r : Nat) : Int64 := cellsV st ((r + 1) % 4) + 3 * cellsV st ((r + 2) % 4) + 5 * cellsV st ((r + 3) % 4)
theorem up_oth {st st' : St} {r o0 lo hi : Nat} {mk : Bool} {v : Int32} (hr : r < 4) (hu : UpS st st' r o0 mk lo hi v) : othV st' r = othV st r := by
  rw [othV, othV, cells_cg (same_up hu (by omega) (by omega)), cells_cg (same_up hu (by omega) (by omega)), cells_cg (same_up hu (by omega) (by omega))]
-- the law's numbers
def uvN (x : Int32) (n : Nat) : Nat := x.toBitVec.toNat % 2 ^ 31 % n
theorem uvN_lt (x : Int32) {n : Nat} (h : 0 < n) : uvN x n < n := Nat.mod_lt _ h
def amV (y : Int32) : Int32 := if (y >>> (nI 12 &&& 31)) &&& nI 1 = 0 then nI (1 + uvN (y >>> (nI 2 &&& 31)) 99) else (-1) - nI (uvN (y >>> (nI 2 &&& 31)) 99)
theorem amV_1 : ∀ u, u < 99 → inP (nI (1 + u)) (-99) (nI 99) ∧ ¬ nI (1 + u) = 0 := by decide +kernel
theorem amV_2 : ∀ u, u < 99 → inP ((-1) - nI u) (-99) (nI 99) ∧ ¬ (-1) - nI u = 0 := by decide +kernel
theorem amV_in (y : Int32) : inP (amV y) (-99) (nI 99) ∧ ¬ amV y = 0 := by
  rw [amV]
  split
  · exact amV_1 _ (uvN_lt _ (by decide))
  · exact amV_2 _ (uvN_lt _ (by decide))
/-- an update of the law -/
def updF (st : St) (r : Nat) (x y : Int32) : St := if uvN x 8 = 0 then putS st r (uvN y 3) 0 (nI (uvN (y >>> (nI 2 &&& 31)) 1000)) else if uvN x 8 = 1 then putS st r (uvN y 3) 1 (nI (uvN (y >>> (nI 2 &&& 31)) 1000)) else if uvN x 8 = 2 then putS st r (uvN y 3) 2 (nI (uvN (y >>> (nI 2 &&& 31)) 1000)) else if uvN x 8 = 3 ∨ uvN x 8 = 4 then addS st r (uvN y 3) (amV y) else if uvN x 8 = 5 then incS st r (uvN y 3) (uvN (y >>> (nI 2 &&& 31)) 6) else if uvN x 8 = 6 then excS st r (uvN y 3) (uvN (y >>> (nI 2 &&& 31)) 6) else delS st r (uvN y 3)
theorem Iv_updF {st : St} {B r : Nat} (x y : Int32) (hr : r < 4) (hB : B + 1 < 2 ^ 31) (h : Iv st B) : Iv (updF st r x y) (B + 1) := by
  have hw : uvN y 3 < 6 := Nat.lt_trans (uvN_lt y (by decide)) (by decide)
  have hv : ¬ nI (uvN (y >>> (nI 2 &&& 31)) 1000) < 0 := nI_pos (Nat.lt_trans (uvN_lt _ (by decide)) (by decide))
  have he : uvN (y >>> (nI 2 &&& 31)) 6 < 16 := Nat.lt_trans (uvN_lt _ (by decide)) (by decide)
  rw [updF]
  split
  · exact Iv_put hr hw (by decide) hv hB h
  · split
    · exact Iv_put hr hw (by decide) hv hB h
    · split
      · exact Iv_put hr hw (by decide) hv hB h
      · split
        · exact Iv_add _ hr hw hB h
        · split
          · exact Iv_inc hr hw he hB h
          · split
            · exact Iv_exc hr hw he hB h
            · exact Iv_del hr hw hB h
