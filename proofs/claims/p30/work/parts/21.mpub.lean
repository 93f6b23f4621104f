theorem inF_ok {h a b : Nat} (h1 : a ≤ h) (h2 : h ≤ b) (hb : b < 2 ^ 31) : ¬ inF (nI h) (nI a) (nI b) = 0 := inF_1.mpr ⟨nI_le h1 (by omega), nI_le h2 hb⟩
theorem inF_hole {k n : Nat} (h : k < n) (hn : n < 2 ^ 31) : ¬ inF (nI k) 0 (nI n - 1) = 0 := by
  rw [show (1 : Int32) = nI 1 from rfl, pk_sub (by omega)]
  exact inF_ok (a := 0) (by omega) (by omega) (by omega)
def tesF (m : List Int32) (k : Nat) : Int32 := if m.getD 4 0 < m.getD (10 + 4 * k + 1) 0 then 2 else 1
def mostN (i : Nat) : Int32 := [20000, 100, 2000, 100, 50].getD i 0
