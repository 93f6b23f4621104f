theorem wb_tb (n : Nat) : (lN n).toBitVec = BitVec.ofNat 64 n := rfl
theorem wb_inj {a b : Int64} (h : a.toBitVec = b.toBitVec) : a = b := Int64.toBitVec_inj.mp h
theorem wb_c : ∀ k, k < 64 → ((nI k).toInt64 &&& 63) = lN k := by decide +kernel
theorem wb_sm : ∀ k, k < 64 → (BitVec.ofNat 64 k).smod 64 = BitVec.ofNat 64 k := by decide +kernel
theorem wb_shl (n : Nat) {k : Nat} (hk : k < 64) : lN n <<< ((nI k).toInt64 &&& 63) = lN (n * 2 ^ k) := by
  rw [wb_c k hk]
  apply wb_inj
  rw [Int64.toBitVec_shiftLeft, wb_tb, wb_tb, wb_tb, wb_sm k hk]
  apply BitVec.eq_of_toNat_eq
  rw [BitVec.shiftLeft_eq', BitVec.toNat_shiftLeft, BitVec.toNat_ofNat, BitVec.toNat_ofNat, BitVec.toNat_ofNat, Nat.mod_eq_of_lt (show k < 2 ^ 64 by omega), Nat.shiftLeft_eq, Nat.mul_mod, Nat.mod_mod, ← Nat.mul_mod]
/-! whole roots -/
theorem root_ex : ∀ n : Nat, ∃ r : Nat, r * r ≤ n ∧ n < (r + 1) * (r + 1)
  | 0 => ⟨0, by omega, by omega⟩
  | n + 1 => by
    obtain ⟨r, h1, h2⟩ := root_ex n
    rcases Nat.lt_or_ge (n + 1) ((r + 1) * (r + 1)) with h | h
    · exact ⟨r, by omega, h⟩
    · refine ⟨r + 1, h, ?_⟩
      have : (r + 1 + 1) * (r + 1 + 1) = (r + 1) * (r + 1) + 2 * r + 3 := by
        simp only [Nat.add_mul, Nat.mul_add]; omega
      omega
noncomputable def rootN (n : Nat) : Nat := Classical.choose (root_ex n)
theorem rootN_le (n : Nat) : rootN n * rootN n ≤ n := (Classical.choose_spec (root_ex n)).1
theorem rootN_lt (n : Nat) : n < (rootN n + 1) * (rootN n + 1) := (Classical.choose_spec (root_ex n)).2
theorem sq_mono {a b : Nat} (h : a ≤ b) : a * a ≤ b * b := Nat.mul_le_mul h h
theorem rootN_is {n r : Nat} (h1 : r * r ≤ n) (h2 : n < (r + 1) * (r + 1)) : rootN n = r := by
  have a := rootN_le n
  have b := rootN_lt n
  rcases Nat.lt_trichotomy (rootN n) r with h | h | h
  · have := sq_mono (show rootN n + 1 ≤ r by omega)
    omega
  · exact h
  · have := sq_mono (show r + 1 ≤ rootN n by omega)
    omega
theorem rootN_small {n : Nat} (h : n < 2 ^ 31) : rootN n ≤ 46340 := by
  rcases Nat.lt_or_ge 46340 (rootN n) with q | q
  · have h1 := sq_mono (show 46341 ≤ rootN n by omega)
    have h2 := rootN_le n
    omega
  · exact q
noncomputable def rootF (v : Int32) : Int32 := if v < 0 then 0 else nI (rootN v.toNatClampNeg)
theorem rootF_nI {n : Nat} (h : n < 2 ^ 31) : rootF (nI n) = nI (rootN n) := by
  unfold rootF
  rw [if_neg (nI_pos h), nI_clamp h]
theorem rootF_neg {v : Int32} (h : v < 0) : rootF v = 0 := by unfold rootF; rw [if_pos h]
theorem rootF_bd (v : Int32) : ∃ r : Nat, r ≤ 46340 ∧ rootF v = nI r := by
  by_cases h : v < 0
  · exact ⟨0, by omega, (rootF_neg h).trans nI_0.symm⟩
  · obtain ⟨j, hj, rfl⟩ := nI_of h
    exact ⟨rootN j, rootN_small hj, rootF_nI hj⟩
