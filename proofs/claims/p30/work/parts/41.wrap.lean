/-! the law's wrappers -/
theorem vok_ref {n k : Nat} (h : k < n) : vok n (.ref k) = true := by
  simp only [vok, Bool.or_eq_true, decide_eq_true_eq]; exact Or.inl h
