theorem c_X3_put_e1 (l : Launch) (D : va_G) (sz : Nat) (hl9 : l.stackTraces = false) (x9 : Nat) (p0 p1 p2 p3 : Int32) (hv : ¬ ((inP p0 (nI 0) (nI 3) ∧ inP p1 (nI 0) (nI 5)) ∧ inP p2 (nI 0) (nI 2))) : MTi l yX3_put wsX3_put rmX3_put_x1 [.ref x9, .int p0, .int p1, .int p2, .int p3] D [] [] sz "java/lang/IndexOutOfBoundsException" (fun (_ : Unit) => True) (fun u9 => []) := by
  by_cases h0 : inP p0 (nI 0) (nI 3)
  · obtain ⟨r, hr, rfl⟩ := inP_to1 (n := 3) (by decide) h0
    by_cases h1 : inP p1 (nI 0) (nI 5)
    · obtain ⟨w, hw5, rfl⟩ := inP_to1 (n := 5) (by decide) h1
      exact c_X3_put_x3 l D sz hl9 x9 r w p2 p3 hr hw5 (fun z => hv ⟨⟨h0, h1⟩, z⟩)
    · exact c_X3_put_x2 l D sz hl9 x9 r p1 p2 p3 hr h1
  · exact c_X3_put_x1 l D sz hl9 x9 p0 p1 p2 p3 h0
theorem c_X3_add_e1 (l : Launch) (D : va_G) (sz : Nat) (hl9 : l.stackTraces = false) (x9 : Nat) (p0 p1 p2 : Int32) (hv : ¬ (inP p0 (nI 0) (nI 3) ∧ inP p1 (nI 0) (nI 5))) : MTi l yX3_add wsX3_add rmX3_add_x1 [.ref x9, .int p0, .int p1, .int p2] D [] [] sz "java/lang/IndexOutOfBoundsException" (fun (_ : Unit) => True) (fun u9 => []) := by
  by_cases h0 : inP p0 (nI 0) (nI 3)
  · obtain ⟨r, hr, rfl⟩ := inP_to1 (n := 3) (by decide) h0
    by_cases h1 : inP p1 (nI 0) (nI 5)
    · obtain ⟨w, hw5, rfl⟩ := inP_to1 (n := 5) (by decide) h1
      exact absurd ⟨h0, h1⟩ hv
    · exact c_X3_add_x2 l D sz hl9 x9 r p1 p2 hr h1
  · exact c_X3_add_x1 l D sz hl9 x9 p0 p1 p2 h0
theorem c_X3_include_e1 (l : Launch) (D : va_G) (sz : Nat) (hl9 : l.stackTraces = false) (x9 : Nat) (p0 p1 p2 : Int32) (hv : ¬ (inP p0 (nI 0) (nI 3) ∧ inP p1 (nI 0) (nI 5))) : MTi l yX3_include wsX3_include rmX3_include_x1 [.ref x9, .int p0, .int p1, .int p2] D [] [] sz "java/lang/IndexOutOfBoundsException" (fun (_ : Unit) => True) (fun u9 => []) := by
  by_cases h0 : inP p0 (nI 0) (nI 3)
  · obtain ⟨r, hr, rfl⟩ := inP_to1 (n := 3) (by decide) h0
    by_cases h1 : inP p1 (nI 0) (nI 5)
    · obtain ⟨w, hw5, rfl⟩ := inP_to1 (n := 5) (by decide) h1
      exact absurd ⟨h0, h1⟩ hv
    · exact c_X3_include_x2 l D sz hl9 x9 r p1 p2 hr h1
  · exact c_X3_include_x1 l D sz hl9 x9 p0 p1 p2 h0
theorem c_X3_exclude_e1 (l : Launch) (D : va_G) (sz : Nat) (hl9 : l.stackTraces = false) (x9 : Nat) (p0 p1 p2 : Int32) (hv : ¬ (inP p0 (nI 0) (nI 3) ∧ inP p1 (nI 0) (nI 5))) : MTi l yX3_exclude wsX3_exclude rmX3_exclude_x1 [.ref x9, .int p0, .int p1, .int p2] D [] [] sz "java/lang/IndexOutOfBoundsException" (fun (_ : Unit) => True) (fun u9 => []) := by
  by_cases h0 : inP p0 (nI 0) (nI 3)
  · obtain ⟨r, hr, rfl⟩ := inP_to1 (n := 3) (by decide) h0
    by_cases h1 : inP p1 (nI 0) (nI 5)
    · obtain ⟨w, hw5, rfl⟩ := inP_to1 (n := 5) (by decide) h1
      exact absurd ⟨h0, h1⟩ hv
    · exact c_X3_exclude_x2 l D sz hl9 x9 r p1 p2 hr h1
  · exact c_X3_exclude_x1 l D sz hl9 x9 p0 p1 p2 h0
theorem c_X3_delete_e1 (l : Launch) (D : va_G) (sz : Nat) (hl9 : l.stackTraces = false) (x9 : Nat) (p0 p1 : Int32) (hv : ¬ (inP p0 (nI 0) (nI 3) ∧ inP p1 (nI 0) (nI 5))) : MTi l yX3_delete wsX3_delete rmX3_delete_x1 [.ref x9, .int p0, .int p1] D [] [] sz "java/lang/IndexOutOfBoundsException" (fun (_ : Unit) => True) (fun u9 => []) := by
  by_cases h0 : inP p0 (nI 0) (nI 3)
  · obtain ⟨r, hr, rfl⟩ := inP_to1 (n := 3) (by decide) h0
    by_cases h1 : inP p1 (nI 0) (nI 5)
    · obtain ⟨w, hw5, rfl⟩ := inP_to1 (n := 5) (by decide) h1
      exact absurd ⟨h0, h1⟩ hv
    · exact c_X3_delete_x2 l D sz hl9 x9 r p1  hr h1
  · exact c_X3_delete_x1 l D sz hl9 x9 p0 p1  h0
theorem c_X3_latest_e1 (l : Launch) (D : va_G) (sz : Nat) (hl9 : l.stackTraces = false) (x9 : Nat) (p0 p1 : Int32) (hv : ¬ (inP p0 (nI 0) (nI 3) ∧ inP p1 (nI 0) (nI 5))) : MTi l yX3_latest wsX3_latest rmX3_latest_x1 [.ref x9, .int p0, .int p1] D [] [] sz "java/lang/IndexOutOfBoundsException" (fun (_ : Unit) => True) (fun u9 => []) := by
  by_cases h0 : inP p0 (nI 0) (nI 3)
  · obtain ⟨r, hr, rfl⟩ := inP_to1 (n := 3) (by decide) h0
    by_cases h1 : inP p1 (nI 0) (nI 5)
    · obtain ⟨w, hw5, rfl⟩ := inP_to1 (n := 5) (by decide) h1
      exact absurd ⟨h0, h1⟩ hv
    · exact c_X3_latest_x2 l D sz hl9 x9 r p1  hr h1
  · exact c_X3_latest_x1 l D sz hl9 x9 p0 p1  h0
theorem c_X3_greatest_e1 (l : Launch) (D : va_G) (sz : Nat) (hl9 : l.stackTraces = false) (x9 : Nat) (p0 p1 : Int32) (hv : ¬ (inP p0 (nI 0) (nI 3) ∧ inP p1 (nI 0) (nI 5))) : MTi l yX3_greatest wsX3_greatest rmX3_greatest_x1 [.ref x9, .int p0, .int p1] D [] [] sz "java/lang/IndexOutOfBoundsException" (fun (_ : Unit) => True) (fun u9 => []) := by
  by_cases h0 : inP p0 (nI 0) (nI 3)
  · obtain ⟨r, hr, rfl⟩ := inP_to1 (n := 3) (by decide) h0
    by_cases h1 : inP p1 (nI 0) (nI 5)
    · obtain ⟨w, hw5, rfl⟩ := inP_to1 (n := 5) (by decide) h1
      exact absurd ⟨h0, h1⟩ hv
    · exact c_X3_greatest_x2 l D sz hl9 x9 r p1  hr h1
  · exact c_X3_greatest_x1 l D sz hl9 x9 p0 p1  h0
theorem c_X3_counter_e1 (l : Launch) (D : va_G) (sz : Nat) (hl9 : l.stackTraces = false) (x9 : Nat) (p0 p1 : Int32) (hv : ¬ (inP p0 (nI 0) (nI 3) ∧ inP p1 (nI 0) (nI 5))) : MTi l yX3_counter wsX3_counter rmX3_counter_x1 [.ref x9, .int p0, .int p1] D [] [] sz "java/lang/IndexOutOfBoundsException" (fun (_ : Unit) => True) (fun u9 => []) := by
  by_cases h0 : inP p0 (nI 0) (nI 3)
  · obtain ⟨r, hr, rfl⟩ := inP_to1 (n := 3) (by decide) h0
    by_cases h1 : inP p1 (nI 0) (nI 5)
    · obtain ⟨w, hw5, rfl⟩ := inP_to1 (n := 5) (by decide) h1
      exact absurd ⟨h0, h1⟩ hv
    · exact c_X3_counter_x2 l D sz hl9 x9 r p1  hr h1
  · exact c_X3_counter_x1 l D sz hl9 x9 p0 p1  h0
theorem c_X3_elements_e1 (l : Launch) (D : va_G) (sz : Nat) (hl9 : l.stackTraces = false) (x9 : Nat) (p0 p1 : Int32) (hv : ¬ (inP p0 (nI 0) (nI 3) ∧ inP p1 (nI 0) (nI 5))) : MTi l yX3_elements wsX3_elements rmX3_elements_x1 [.ref x9, .int p0, .int p1] D [] [] sz "java/lang/IndexOutOfBoundsException" (fun (_ : Unit) => True) (fun u9 => []) := by
  by_cases h0 : inP p0 (nI 0) (nI 3)
  · obtain ⟨r, hr, rfl⟩ := inP_to1 (n := 3) (by decide) h0
    by_cases h1 : inP p1 (nI 0) (nI 5)
    · obtain ⟨w, hw5, rfl⟩ := inP_to1 (n := 5) (by decide) h1
      exact absurd ⟨h0, h1⟩ hv
    · exact c_X3_elements_x2 l D sz hl9 x9 r p1  hr h1
  · exact c_X3_elements_x1 l D sz hl9 x9 p0 p1  h0
theorem c_X3_exists_e1 (l : Launch) (D : va_G) (sz : Nat) (hl9 : l.stackTraces = false) (x9 : Nat) (p0 p1 : Int32) (hv : ¬ (inP p0 (nI 0) (nI 3) ∧ inP p1 (nI 0) (nI 5))) : MTi l yX3_exists wsX3_exists rmX3_exists_x1 [.ref x9, .int p0, .int p1] D [] [] sz "java/lang/IndexOutOfBoundsException" (fun (_ : Unit) => True) (fun u9 => []) := by
  by_cases h0 : inP p0 (nI 0) (nI 3)
  · obtain ⟨r, hr, rfl⟩ := inP_to1 (n := 3) (by decide) h0
    by_cases h1 : inP p1 (nI 0) (nI 5)
    · obtain ⟨w, hw5, rfl⟩ := inP_to1 (n := 5) (by decide) h1
      exact absurd ⟨h0, h1⟩ hv
    · exact c_X3_exists_x2 l D sz hl9 x9 r p1  hr h1
  · exact c_X3_exists_x1 l D sz hl9 x9 p0 p1  h0
theorem c_X3_mean_e1 (l : Launch) (D : va_G) (sz : Nat) (hl9 : l.stackTraces = false) (x9 : Nat) (p0 p1 : Int32) (hv : ¬ (inP p0 (nI 0) (nI 3) ∧ inP p1 (nI 0) (nI 5))) : MTf l yX3_mean wsX3_mean rmX3_mean_x1 [.ref x9, .int p0, .int p1] D [] [] sz "java/lang/IndexOutOfBoundsException" (fun (_ : Unit) => True) (fun u9 => []) := by
  by_cases h0 : inP p0 (nI 0) (nI 3)
  · obtain ⟨r, hr, rfl⟩ := inP_to1 (n := 3) (by decide) h0
    by_cases h1 : inP p1 (nI 0) (nI 5)
    · obtain ⟨w, hw5, rfl⟩ := inP_to1 (n := 5) (by decide) h1
      exact absurd ⟨h0, h1⟩ hv
    · exact c_X3_mean_x2 l D sz hl9 x9 r p1  hr h1
  · exact c_X3_mean_x1 l D sz hl9 x9 p0 p1  h0
theorem c_X3_sibling_e1 (l : Launch) (D : va_G) (sz : Nat) (hl9 : l.stackTraces = false) (x9 : Nat) (p0 p1 p2 : Int32) (hv : ¬ ((inP p0 (nI 0) (nI 3) ∧ inP p1 (nI 0) (nI 5)) ∧ ¬ p2 < 0)) : MTi l yX3_sibling wsX3_sibling rmX3_sibling_x1 [.ref x9, .int p0, .int p1, .int p2] D [] [] sz "java/lang/IndexOutOfBoundsException" (fun (_ : Unit) => True) (fun u9 => []) := by
  by_cases h0 : inP p0 (nI 0) (nI 3)
  · obtain ⟨r, hr, rfl⟩ := inP_to1 (n := 3) (by decide) h0
    by_cases h1 : inP p1 (nI 0) (nI 5)
    · obtain ⟨w, hw5, rfl⟩ := inP_to1 (n := 5) (by decide) h1
      exact c_X3_sibling_x3 l D sz hl9 x9 r w p2 hr hw5 (Decidable.byContradiction fun z => hv ⟨⟨h0, h1⟩, z⟩)
    · exact c_X3_sibling_x2 l D sz hl9 x9 r p1 p2 hr h1
  · exact c_X3_sibling_x1 l D sz hl9 x9 p0 p1 p2 h0
theorem c_X3_entries_e1 (l : Launch) (D : va_G) (sz : Nat) (hl9 : l.stackTraces = false) (x9 : Nat) (p0 p1 p2 : Int32) (hv : ¬ ((inP p0 (nI 0) (nI 3) ∧ inP p1 (nI 0) (nI 5)) ∧ inP p2 (nI 0) (nI 4))) : MTi l yX3_entries wsX3_entries rmX3_entries_x1 [.ref x9, .int p0, .int p1, .int p2] D [] [] sz "java/lang/IndexOutOfBoundsException" (fun (_ : Unit) => True) (fun u9 => []) := by
  by_cases h0 : inP p0 (nI 0) (nI 3)
  · obtain ⟨r, hr, rfl⟩ := inP_to1 (n := 3) (by decide) h0
    by_cases h1 : inP p1 (nI 0) (nI 5)
    · obtain ⟨w, hw5, rfl⟩ := inP_to1 (n := 5) (by decide) h1
      exact c_X3_entries_x3 l D sz hl9 x9 r w p2 hr hw5 (fun z => hv ⟨⟨h0, h1⟩, z⟩)
    · exact c_X3_entries_x2 l D sz hl9 x9 r p1 p2 hr h1
  · exact c_X3_entries_x1 l D sz hl9 x9 p0 p1 p2 h0
theorem c_X3_merge_e1 (l : Launch) (D : va_G) (sz : Nat) (hl9 : l.stackTraces = false) (x9 : Nat) (p0 p1 : Int32) (hv : ¬ (inP p0 (nI 0) (nI 3) ∧ inP p1 (nI 0) (nI 3))) : MTi l yX3_merge wsX3_merge rmX3_merge_x1 [.ref x9, .int p0, .int p1] D [] [] sz "java/lang/IndexOutOfBoundsException" (fun (_ : Unit) => True) (fun u9 => []) := by
  by_cases h0 : inP p0 (nI 0) (nI 3)
  · obtain ⟨r, hr, rfl⟩ := inP_to1 (n := 3) (by decide) h0
    by_cases h1 : inP p1 (nI 0) (nI 3)
    · obtain ⟨w, hw5, rfl⟩ := inP_to1 (n := 3) (by decide) h1
      exact absurd ⟨h0, h1⟩ hv
    · exact c_X3_merge_x2 l D sz hl9 x9 r p1  hr h1
  · exact c_X3_merge_x1 l D sz hl9 x9 p0 p1  h0
theorem c_X3_seen_e1 (l : Launch) (D : va_G) (sz : Nat) (hl9 : l.stackTraces = false) (x9 : Nat) (p0 p1 : Int32) (hv : ¬ (inP p0 (nI 0) (nI 3) ∧ inP p1 (nI 0) (nI 3))) : MTi l yX3_seen wsX3_seen rmX3_seen_x1 [.ref x9, .int p0, .int p1] D [] [] sz "java/lang/IndexOutOfBoundsException" (fun (_ : Unit) => True) (fun u9 => []) := by
  by_cases h0 : inP p0 (nI 0) (nI 3)
  · obtain ⟨r, hr, rfl⟩ := inP_to1 (n := 3) (by decide) h0
    by_cases h1 : inP p1 (nI 0) (nI 3)
    · obtain ⟨w, hw5, rfl⟩ := inP_to1 (n := 3) (by decide) h1
      exact absurd ⟨h0, h1⟩ hv
    · exact c_X3_seen_x2 l D sz hl9 x9 r p1  hr h1
  · exact c_X3_seen_x1 l D sz hl9 x9 p0 p1  h0
theorem c_X3_relation_e1 (l : Launch) (D : va_G) (sz : Nat) (hl9 : l.stackTraces = false) (x9 : Nat) (p0 p1 : Int32) (hv : ¬ (inP p0 (nI 0) (nI 3) ∧ inP p1 (nI 0) (nI 3))) : MTi l yX3_relation wsX3_relation rmX3_relation_x1 [.ref x9, .int p0, .int p1] D [] [] sz "java/lang/IndexOutOfBoundsException" (fun (_ : Unit) => True) (fun u9 => []) := by
  by_cases h0 : inP p0 (nI 0) (nI 3)
  · obtain ⟨r, hr, rfl⟩ := inP_to1 (n := 3) (by decide) h0
    by_cases h1 : inP p1 (nI 0) (nI 3)
    · obtain ⟨w, hw5, rfl⟩ := inP_to1 (n := 3) (by decide) h1
      exact absurd ⟨h0, h1⟩ hv
    · exact c_X3_relation_x2 l D sz hl9 x9 r p1  hr h1
  · exact c_X3_relation_x1 l D sz hl9 x9 p0 p1  h0
theorem c_X3_ifMerged_e1 (l : Launch) (D : va_G) (sz : Nat) (hl9 : l.stackTraces = false) (x9 : Nat) (p0 p1 p2 : Int32) (hv : ¬ (inP p0 (nI 0) (nI 3) ∧ inP p1 (nI 0) (nI 3))) : MTi l yX3_ifMerged wsX3_ifMerged rmX3_ifMerged_x1 [.ref x9, .int p0, .int p1, .int p2] D [] [] sz "java/lang/IndexOutOfBoundsException" (fun (_ : Unit) => True) (fun u9 => []) := by
  by_cases h0 : inP p0 (nI 0) (nI 3)
  · obtain ⟨r, hr, rfl⟩ := inP_to1 (n := 3) (by decide) h0
    by_cases h1 : inP p1 (nI 0) (nI 3)
    · obtain ⟨w, hw5, rfl⟩ := inP_to1 (n := 3) (by decide) h1
      exact absurd ⟨h0, h1⟩ hv
    · exact c_X3_ifMerged_x2 l D sz hl9 x9 r p1 p2 hr h1
  · exact c_X3_ifMerged_x1 l D sz hl9 x9 p0 p1 p2 h0
theorem c_X3_clock_e1 (l : Launch) (D : va_G) (sz : Nat) (hl9 : l.stackTraces = false) (x9 : Nat) (p0 : Int32) (hv : ¬ inP p0 (nI 0) (nI 3)) : MTi l yX3_clock wsX3_clock rmX3_clock_x1 [.ref x9, .int p0] D [] [] sz "java/lang/IndexOutOfBoundsException" (fun (_ : Unit) => True) (fun u9 => []) := by
  exact c_X3_clock_x1 l D sz hl9 x9 p0 hv
theorem c_X3_conflicts_e1 (l : Launch) (D : va_G) (sz : Nat) (hl9 : l.stackTraces = false) (x9 : Nat) (p0 : Int32) (hv : ¬ inP p0 (nI 0) (nI 3)) : MTi l yX3_conflicts wsX3_conflicts rmX3_conflicts_x1 [.ref x9, .int p0] D [] [] sz "java/lang/IndexOutOfBoundsException" (fun (_ : Unit) => True) (fun u9 => []) := by
  exact c_X3_conflicts_x1 l D sz hl9 x9 p0 hv
theorem c_X3_latestMerge_e1 (l : Launch) (D : va_G) (sz : Nat) (hl9 : l.stackTraces = false) (x9 : Nat) (p0 : Int32) (hv : ¬ inP p0 (nI 0) (nI 3)) : MTi l yX3_latestMerge wsX3_latestMerge rmX3_latestMerge_x1 [.ref x9, .int p0] D [] [] sz "java/lang/IllegalArgumentException" (fun (_ : Unit) => True) (fun u9 => []) := by
  exact c_X3_latestMerge_x1 l D sz hl9 x9 p0 hv
theorem c_X3_appendText_e1 (l : Launch) (D : va_G) (sz : Nat) (hl9 : l.stackTraces = false) (x9 : Nat) (p0 : Int32) (hv : ¬ inP p0 (nI 32) (nI 126)) : MTi l yX3_appendText wsX3_appendText rmX3_appendText_x1 [.ref x9, .int p0] D [] [] sz "java/lang/IllegalArgumentException" (fun (_ : Unit) => True) (fun u9 => []) := by
  exact c_X3_appendText_x1 l D sz hl9 x9 p0 hv
theorem c_X3_put_e2 (l : Launch) (D : va_G) (sz : Nat) (hl9 : l.stackTraces = false) (x9 : Nat) (r w g : Nat) (v : Int32) (hr : r < 4) (hw5 : w < 6) (hg : g < 3) (hv : ¬ inP v (nI 0) (nI 999)) : MTi l yX3_put wsX3_put rmX3_put_x1 [.ref x9, .int (nI r), .int (nI w), .int (nI g), .int v] D [] [] sz "java/lang/IllegalArgumentException" (fun (_ : Unit) => True) (fun u9 => []) := by
  exact c_X3_put_x4 l D sz hl9 x9 r w g v hr hw5 hg hv
theorem c_X3_add_e2 (l : Launch) (D : va_G) (sz : Nat) (hl9 : l.stackTraces = false) (x9 : Nat) (r w : Nat) (v : Int32) (hr : r < 4) (hw5 : w < 6) (hv : v = 0 ∨ ¬ inP v (-99) (nI 99)) : MTi l yX3_add wsX3_add rmX3_add_x1 [.ref x9, .int (nI r), .int (nI w), .int v] D [] [] sz "java/lang/IllegalArgumentException" (fun (_ : Unit) => True) (fun u9 => []) := by
  exact c_X3_add_x3 l D sz hl9 x9 r w v hr hw5 hv
theorem c_X3_include_e2 (l : Launch) (D : va_G) (sz : Nat) (hl9 : l.stackTraces = false) (x9 : Nat) (r w : Nat) (p2 : Int32) (hr : r < 4) (hw5 : w < 6) (hv : ¬ inP p2 (nI 0) (nI 15)) : MTi l yX3_include wsX3_include rmX3_include_x1 [.ref x9, .int (nI r), .int (nI w), .int p2] D [] [] sz "java/lang/IllegalArgumentException" (fun (_ : Unit) => True) (fun u9 => []) := by
  exact c_X3_include_x3 l D sz hl9 x9 r w p2 hr hw5 hv
theorem c_X3_exclude_e2 (l : Launch) (D : va_G) (sz : Nat) (hl9 : l.stackTraces = false) (x9 : Nat) (r w : Nat) (p2 : Int32) (hr : r < 4) (hw5 : w < 6) (hv : ¬ inP p2 (nI 0) (nI 15)) : MTi l yX3_exclude wsX3_exclude rmX3_exclude_x1 [.ref x9, .int (nI r), .int (nI w), .int p2] D [] [] sz "java/lang/IllegalArgumentException" (fun (_ : Unit) => True) (fun u9 => []) := by
  exact c_X3_exclude_x3 l D sz hl9 x9 r w p2 hr hw5 hv
theorem c_X3_merge_e2 (l : Launch) (D : va_G) (sz : Nat) (hl9 : l.stackTraces = false) (x9 : Nat) (f : Nat) (hf4 : f < 4) : MTi l yX3_merge wsX3_merge rmX3_merge_x1 [.ref x9, .int (nI f), .int (nI f)] D [] [] sz "java/lang/IllegalArgumentException" (fun (_ : Unit) => True) (fun u9 => []) := by
  exact c_X3_merge_x3 l D sz hl9 x9 f hf4
theorem c_X3_ifMerged_e2 (l : Launch) (D : va_G) (sz : Nat) (hl9 : l.stackTraces = false) (x9 : Nat) (f t : Nat) (p2 : Int32) (hf4 : f < 4) (ht4 : t < 4) (hv : f = t ∨ ¬ inP p2 (nI 2) (nI 3)) : MTi l yX3_ifMerged wsX3_ifMerged rmX3_ifMerged_x1 [.ref x9, .int (nI f), .int (nI t), .int p2] D [] [] sz "java/lang/IllegalArgumentException" (fun (_ : Unit) => True) (fun u9 => []) := by
  by_cases e : f = t
  · subst e; exact c_X3_ifMerged_x3 l D sz hl9 x9 f p2 hf4
  · exact c_X3_ifMerged_x4 l D sz hl9 x9 f t p2 hf4 ht4 e (hv.resolve_left e)
abbrev c_X3_appendText_e2 := @c_X3_appendText_x2
abbrev c_X3_undo_e1 := @c_X3_undo_x1
abbrev c_X3_runText_e1 := @c_X3_runText_x1
