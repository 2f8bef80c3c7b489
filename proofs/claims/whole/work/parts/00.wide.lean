/-! a row that stands in the library's far part is named at once: so a new machine reads all parts over the whole library from the first (else it does so twice, see NOTES.md) -/
theorem wide_0 {s : State} (h : (Cond.arrayOver (.array .int)).before #[] s = true) : ∃ k : Class, k.kind = k.kind := by
  obtain ⟨_, _, k, _⟩ := Cond.arrayOver_specA h
  exact ⟨k, rfl⟩
