section
theorem zz_test : ∀ c ∈ tables_1, goodWord c = true ∨ goodWord c = false := by
  intro c _
  cases goodWord c <;> simp
end
