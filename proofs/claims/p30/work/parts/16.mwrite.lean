theorem drp_7 {m : List Int32} {q p i : Nat} {F : Nat → Int32} (Vl : m.length = 162) : (putAll (m.set 7 (nI (q - 1))) (42 + 10 * p) F i).getD 7 0 = nI (q - 1) := by
  rw [putAll_out (by omega), getD_set_self (by omega)]
theorem drpM_7 {m : List Int32} {q p : Nat} (Vl : m.length = 162) : (drpM m q p).getD 7 0 = nI (q - 1) := drp_7 Vl
theorem drpM_lo {m : List Int32} {q p j : Nat} (h : j < 42) (h7 : j ≠ 7) : (drpM m q p).getD j 0 = m.getD j 0 := by
  unfold drpM
  rw [putAll_out (by omega), getD_set_ne (Ne.symm h7)]
