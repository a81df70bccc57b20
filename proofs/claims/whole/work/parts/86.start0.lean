/-! what the law's entry gives: classes of arrays, links of nest mates, the constant text -/
theorem st_arr {args : Array Value} {s : State} {ty : FieldType} (h : (Cond.arrayClass ty).before args s = true) : ∃ cA, ArrOfT s cA ty ∧ s.vm.findClass ("[" ++ ty.toString) = some cA := by
  obtain ⟨cA, kA, comp, h1, h2, h3⟩ := Cond.arrayClass_spec h
  exact ⟨cA, fun n z => ⟨fun k h => (by cases h), kA, h2, comp, h3⟩, h1⟩
theorem st_aoa {s : State} (h : va_AOA .int s) : ∃ cA, ArrOfT s cA (.array .int) ∧ s.vm.findClass ("[" ++ (FieldType.array .int).toString) = some cA := by
  unfold va_AOA at h
  simp only [Cond.before, Cond.holds, Cond.value, beq_iff_eq, Option.bind_eq_some_iff, Option.map_eq_some_iff] at h
  obtain ⟨comp, h1, cA, h2, kA, h3, h4⟩ := h
  split at h4
  · rename_i comp2 ty2 hk
    simp only [Bool.and_eq_true, decide_eq_true_eq] at h4
    obtain ⟨h5, h6⟩ := h4
    subst h5
    exact ⟨cA, fun n z => ⟨fun k h => (by cases h), kA, h3, comp2, hk⟩, h6⟩
  · cases h4
theorem st_q_N {args : Array Value} {s : State} (h : ∀ w ∈ lw_tbl, w.before args s = true) : q_N s := by
  intro q hq
  have hm : Cond.methodLinkNest q.1 q.2.1 q.2.2.1 q.2.2.2 ∈ lw_tbl := by
    revert q
    decide +kernel
  exact va_Nw.of rfl (h _ hm)
