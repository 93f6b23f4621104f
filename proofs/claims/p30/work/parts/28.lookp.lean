theorem comM_lo {m : List Int32} {q : Nat} {h : Int32} {j : Nat} (hj : j < 42) (h7 : j ≠ 7) (h8 : j ≠ 8) : (comM m q h).getD j 0 = m.getD j 0 := by
  unfold comM
  rw [getD_set_ne (Ne.symm h8), getD_set_ne (Ne.symm h7), getD_set_ne (by omega), getD_set_ne (by omega), comM0_lo hj h7]
theorem comM_7 {m : List Int32} {q : Nat} {h : Int32} (Vl : m.length = 162) : (comM m q h).getD 7 0 = nI (comQ q + 1) := by
  unfold comM
  rw [getD_set_ne (by omega), getD_set_self (by simp only [List.length_set, comM0_len, Vl]; omega)]
theorem tk_7 {m : List Int32} {q k : Nat} {f : Nat → Int32} {h : Int32} (Vl : m.length = 162) : (putAll (comM m q h) (42 + 10 * comQ q + 2) f k).getD 7 0 = nI (comQ q + 1) := by
  rw [putAll_out (by omega), comM_7 Vl]
