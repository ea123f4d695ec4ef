/-! worlds up to order: frames, calls with a tail -/
theorem D_iff {A : Nat → Prop} {ws : va_W} : va_D A ws ↔ (ws.map Prod.fst).Nodup ∧ ∀ x ∈ ws, A x.1 := by
  constructor
  · intro h
    refine ⟨?_, fun x hx => ?_⟩
    · unfold List.Nodup
      rw [List.pairwise_iff_getElem]
      intro i j hi hj hij he
      rw [List.getElem_map, List.getElem_map] at he
      rw [List.length_map] at hi hj
      have := h.1 i j _ _ (List.getElem?_eq_getElem hi) (List.getElem?_eq_getElem hj) he
      omega
    · obtain ⟨k, hk⟩ := List.getElem?_of_mem hx
      exact h.2 k x hk
  · intro h
    refine ⟨fun i j p q hi hj he => ?_, fun k q hk => h.2 q (List.mem_of_getElem? hk)⟩
    have hn := List.pairwise_iff_getElem.mp h.1
    have ei : (ws.map Prod.fst)[i]? = some p.1 := by rw [List.getElem?_map, hi]; rfl
    have ej : (ws.map Prod.fst)[j]? = some q.1 := by rw [List.getElem?_map, hj]; rfl
    obtain ⟨li, vi⟩ := List.getElem?_eq_some_iff.mp ei
    obtain ⟨lj, vj⟩ := List.getElem?_eq_some_iff.mp ej
    rcases Nat.lt_trichotomy i j with hlt | hlt | hlt
    · exact absurd (by rw [vi, vj, he]) (hn i j li lj hlt)
    · exact hlt
    · exact absurd (by rw [vi, vj, he]) (hn j i lj li hlt)
theorem P_iff {D : va_G} {cl : List vw_C} {ws : va_W} {H : Heap} : va_P D cl ws H ↔ ∀ x ∈ ws, va_at D cl x H := by
  constructor
  · intro h x hx
    obtain ⟨k, hk⟩ := List.getElem?_of_mem hx
    exact h k x hk
  · intro h k q hk
    exact h q (List.mem_of_getElem? hk)
theorem A_iff {ws : va_W} {sz q : Nat} : va_A ws sz q ↔ (∃ x ∈ ws, x.1 = q) ∨ sz ≤ q := by
  unfold va_A
  constructor
  · rintro (⟨k, e, h⟩ | h)
    · exact Or.inl ⟨_, List.mem_of_getElem? h, rfl⟩
    · exact Or.inr h
  · rintro (⟨x, h, rfl⟩ | h)
    · obtain ⟨k, hk⟩ := List.getElem?_of_mem h
      exact Or.inl ⟨k, x.2, hk⟩
    · exact Or.inr h
theorem P_perm {D : va_G} {cl : List vw_C} {ws ws' : va_W} {H : Heap} (hp : ws.Perm ws') (h : va_P D cl ws H) : va_P D cl ws' H := P_iff.mpr fun x hx => P_iff.mp h x (hp.mem_iff.mpr hx)
theorem D_perm {A : Nat → Prop} {ws ws' : va_W} (hp : ws.Perm ws') (h : va_D A ws) : va_D A ws' := by
  have h1 := D_iff.mp h
  exact D_iff.mpr ⟨(hp.map Prod.fst).nodup_iff.mp h1.1, fun x hx => h1.2 x (hp.mem_iff.mpr hx)⟩
theorem Wd.perm {D : va_G} {A : Nat → Prop} {tys : List (ClassId × FieldType)} {ws ws' : va_W} {s : State} {H0 H : Heap} {locs : List Loc} (hw : Wd D A tys ws s H0 H locs) (hp : ws.Perm ws') : Wd D A tys ws' s H0 H locs := ⟨hw.1, P_perm hp hw.2.1, D_perm hp hw.2.2.1, hw.2.2.2⟩
/-- what a callee leaves beside what it didn't touch -/
theorem fr_join {D : va_G} {cl : List vw_C} {A0 : Nat → Prop} {w wc wr w1 : va_W} {H H1 : Heap} (hP : va_P D cl w H) (hD : va_D A0 w) (hp : w.Perm (wc ++ wr)) (hP1 : va_P D cl w1 H1) (hD1 : va_D (va_A wc H.size) w1) (hk : ∀ q : Nat, q < H.size → ¬ va_A wc H.size q → H1[q]? = H[q]?) : va_P D cl (w1 ++ wr) H1 ∧ ∀ A : Nat → Prop, (∀ q, va_A wc H.size q → A q) → (∀ x ∈ wr, A x.1) → va_D A (w1 ++ wr) := by
  have hP' := P_iff.mp (P_perm hp hP)
  have hD' := (D_iff.mp (D_perm hp hD)).1
  rw [List.map_append, List.nodup_append] at hD'
  have hout : ∀ x ∈ wr, x.1 < H.size ∧ ¬ va_A wc H.size x.1 := fun x hx => by
    have h1 : x.1 < H.size := (hP' x (List.mem_append_right _ hx)).lt
    refine ⟨h1, fun h => ?_⟩
    rcases A_iff.mp h with ⟨y, hy, he⟩ | h
    · exact hD'.2.2 y.1 (List.mem_map_of_mem hy) x.1 (List.mem_map_of_mem hx) he
    · omega
  refine ⟨P_iff.mpr fun x hx => ?_, fun A hA1 hA2 => D_iff.mpr ⟨?_, fun x hx => ?_⟩⟩
  · rcases List.mem_append.mp hx with h | h
    · exact P_iff.mp hP1 x h
    · exact (hP' x (List.mem_append_right _ h)).kept (hk x.1 (hout x h).1 (hout x h).2)
  · have h1 := D_iff.mp hD1
    rw [List.map_append, List.nodup_append]
    refine ⟨h1.1, hD'.2.1, fun a ha b hb he => ?_⟩
    obtain ⟨x, hx, rfl⟩ := List.mem_map.mp ha
    obtain ⟨y, hy, rfl⟩ := List.mem_map.mp hb
    exact (hout y hy).2 (he ▸ h1.2 x hx)
  · rcases List.mem_append.mp hx with h | h
    · exact hA1 _ ((D_iff.mp hD1).2 x h)
    · exact hA2 x h
theorem Met.cons {l : Launch} {y : MethodName} {ws : List Cond} {rm : Room} {Pc Pc' : Array Value → State → Prop} {Qc Qc' : Array Value → State → Outcome → State → Prop} {mc ms : Nat} {free free' : Addr → Prop} (hM : Met l y ws rm Pc Qc mc ms free) (h1 : ∀ a U, Pc' a U → Pc a U) (h2 : ∀ a U o t, Pc' a U → Qc a U o t → Qc' a U o t) (h3 : ∀ q, free q → free' q) : Met l y ws rm Pc' Qc' mc ms free' := by
  intro p e he hf hc s m args below hs ha hP hK
  obtain ⟨n, o, g1, g2, g3, g4, L, g5, g6⟩ := hM p e he hf hc s m args below hs ha (h1 _ _ hP) hK
  exact ⟨n, o, g1, g2, g3, h2 _ _ _ _ hP g4, L, g5, fun q hq => h3 _ (g6 q hq)⟩
theorem A_sub {w wc wr : va_W} {sz : Nat} (hp : w.Perm (wc ++ wr)) : ∀ q, va_A wc sz q → va_A w sz q := fun q h => by
  rcases A_iff.mp h with ⟨x, hx, he⟩ | h
  · exact A_iff.mpr (Or.inl ⟨x, hp.mem_iff.mpr (List.mem_append_left _ hx), he⟩)
  · exact A_iff.mpr (Or.inr h)
/-- a contract over more cells -/
theorem MXv.frame {S S' : Type} {l : Launch} {y : MethodName} {ws : List Cond} {rm : Room} {av : List Value} {D : va_G} {tysC tys : List (ClassId × FieldType)} {w0 : va_W} {sz : Nat} {post : S → Prop} {tys1 : S → List (ClassId × FieldType)} {w1 : S → va_W} {mc ms : Nat} (hM : MXv l y ws rm av D tysC w0 sz post tys1 w1 mc ms) (W0 wr : va_W) (hp : W0.Perm (w0 ++ wr)) (ht : ∀ x ∈ tysC, x ∈ tys) (post' : S' → Prop) (W1 : S' → va_W)
    (hu : ∀ u, post u → tys1 u = [] ∧ ∃ u', post' u' ∧ (w1 u ++ wr).Perm (W1 u')) : MXv l y ws rm av D tys W0 sz post' (fun _ => []) W1 mc ms := by
  refine Met.cons hM ?_ ?_ (A_sub hp)
  · rintro a U ⟨h0, hz, h1, h2, h3, h4⟩
    have hP := P_perm hp h2
    have hD := D_iff.mp (D_perm hp h4)
    refine ⟨h0, hz, h1, P_iff.mpr fun x hx => P_iff.mp hP x (List.mem_append_left _ hx), ⟨h3.1, fun k q hk => ?_⟩, D_iff.mpr ⟨?_, fun x _ => trivial⟩⟩
    · obtain ⟨j, hj⟩ := List.getElem?_of_mem (ht q (List.mem_of_getElem? hk))
      exact h3.2 j q hj
    · have := hD.1
      rw [List.map_append, List.nodup_append] at this
      exact this.1
  · rintro a U o t ⟨h0, hz, h1, h2, h3, h4⟩ ⟨⟨u, g1, g2, g3, g4, g5⟩, g6⟩
    obtain ⟨e1, u', hu1, hu2⟩ := hu u g2
    subst h1
    have hj := fr_join h2 h4 hp g3 g5 g6.2
    refine ⟨⟨u', g1, hu1, P_perm hu2 hj.1, by rw [e1] at g4; exact g4, D_perm hu2 (hj.2 _ (A_sub hp) fun x hx => A_iff.mpr (Or.inl ⟨x, hp.mem_iff.mpr (List.mem_append_right _ hx), rfl⟩))⟩, g6.1, fun q h hq => g6.2 q h fun hz => hq (A_sub hp q hz)⟩
