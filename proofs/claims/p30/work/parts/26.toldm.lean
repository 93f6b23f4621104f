theorem m1_nI0 : (-1 : Int32) = nI 0 - 1 := by decide
theorem tr_pos {ρ : Nat → Int32} {n : Nat} (hn : n ≤ 8) (h : ¬ trF ρ n = 0) : 0 < trF ρ n ∧ ∃ k, k < n ∧ ρ k = 0 := by
  have h9 := trN_le ρ n
  rw [trF_nI] at h ⊢
  have hp : 0 < trN ρ n := by
    rcases Nat.eq_zero_or_pos (trN ρ n) with e | e
    · rw [e] at h; exact absurd rfl h
    · exact e
  exact ⟨nI_lt (a := 0) hp (by omega), trN_ex hp⟩
theorem rt_ne1 (μ : Nat → Int32) (k : Nat) : ¬ rtF μ k = -1 := by
  unfold rtF
  obtain ⟨r, h1, h2⟩ := rootF_bd (10000 * μ k)
  rw [h2]
  intro e
  have h3 := nI_le (a := 0) (b := r) (by omega) (by omega)
  rw [e] at h3
  exact absurd h3 (by decide)
theorem md_up {a : Int32} : mdS (-1) a = a := by unfold mdS; rw [if_pos rfl]
theorem md_dn {a : Int32} (h : ¬ a = -1) : mdS a (-1) = a := by unfold mdS; rw [if_neg h, if_pos rfl]
theorem md_two {a b : Int32} (h : ¬ a = -1) (h2 : ¬ b = -1) : (b + a) / 2 = mdS a b := by unfold mdS; rw [if_neg h, if_neg h2, Int32.add_comm]
/-- what is told of hole k -/
noncomputable def holV (m : List Int32) (n q k w : Nat) : Int32 :=
  if w = 0 then distF m k n else if w = 1 then m.getD (10 + 4 * k) 0 else if w = 2 then m.getD (10 + 4 * k + 1) 0 else if w = 3 then m.getD (10 + 4 * k + 2) 0 else if w = 4 then speedF m k n else if w = 5 then headF m k n else if w = 6 then feltF m k n
  else if w = 7 then (if cgF m q = 0 then -1 else meF m q k) else if w = 8 then reT m n q (-1) (meF m q) k else if w = 9 then (if trT m n q (-1) (meF m q) = 0 then -1 else spT m n q (-1) (meF m q) k) else if w = 10 then flT m n q (-1) (meF m q) k 1 else m.getD (10 + 4 * k + 3) 0
noncomputable def floV (m : List Int32) (n q w : Nat) : Int32 :=
  if w = 0 then flT m n q (-1) (meF m q) 0 n else if w = 1 then flT m n q (-1) (meF m q) 0 (n / 2) else if w = 2 then flT m n q (-1) (meF m q) (n / 2) (n - n / 2) else trueF m n
noncomputable def reaV (m : List Int32) (j w : Nat) : Int32 :=
  if w = 8 then m.getD (42 + 10 * j) 0 else if w = 9 then m.getD (42 + 10 * j + 1) 0 else if w = 10 then cntF m j else if nI w < m.getD (42 + 10 * j) 0 then m.getD (42 + 10 * j + (2 + w)) 0 else -1
noncomputable def couV (m : List Int32) (n q c : Nat) (w : Nat) : Int32 :=
  if w = 0 then nI n else if w = 1 then m.getD 5 0 else if w = 2 then nI q else if w = 3 then cgF m q else if w = 9 then 5 * m.getD 8 0 + m.getD 9 0 + workF m n else if w = 10 then 5 * m.getD 8 0 else if w = 11 then m.getD 9 0 else if w = 12 then m.getD 8 0 else if w = 13 then nI c
  else sumTo (fun k => if reT m n q (-1) (meF m q) k = nI (w - 4) then 1 else 0) n
