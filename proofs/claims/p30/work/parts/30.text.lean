/-! texts: one reader that the class's scanner and the model's reader both follow -/
def dg (c : Int32) : Bool := decide (48 ≤ c) && decide (c ≤ 57)
def dgI (c : Int32) : Int32 := if dg c = true then 1 else 0
def dv (c : Int32) : Nat := (c - 48).toNatClampNeg
theorem dg_of {c : Int32} (h : dg c = true) : ∃ x, x ≤ 9 ∧ c = nI (48 + x) ∧ dv c = x := by
  simp only [dg, Bool.and_eq_true, decide_eq_true_eq] at h
  obtain ⟨j, hj, rfl⟩ := nI_of (x := c) (fun q => absurd (Int32.lt_of_le_of_lt h.1 q) (by decide))
  have h1 : 48 ≤ j := (nI_leI (a := 48) (by omega) hj).mp h.1
  have h2 : j ≤ 57 := (nI_leI (b := 57) hj (by omega)).mp h.2
  refine ⟨j - 48, by omega, by congr 1; omega, ?_⟩
  unfold dv
  rw [show (48 : Int32) = nI 48 from rfl, pk_sub h1, nI_clamp (by omega)]
theorem dgI_0 {c : Int32} (h : dgI c = 0) : dg c = false := by
  unfold dgI at h
  by_cases q : dg c = true
  · rw [if_pos q] at h; exact absurd h (by decide)
  · exact Bool.eq_false_iff.mpr q
theorem dgI_1 {c : Int32} (h : ¬ dgI c = 0) : dg c = true := by
  unfold dgI at h
  by_cases q : dg c = true
  · exact q
  · rw [if_neg q] at h; exact absurd rfl h
theorem dg_44 {c : Int32} (h : c = 44) : dg c = false := by rw [h]; decide
def acc (l : Nat → Int32) (i d : Nat) (z : Bool) : Bool := dg (l i) && decide (d < 5) && !z
def pa (l : Nat → Int32) : Nat → Nat → Nat → Nat → Bool → Nat → List Nat → Nat × Bool × List Nat
  | 0, i, _, d, _, v, hs => (i, decide (0 < d), hs ++ [v])
  | t + 1, i, c, d, z, v, hs =>
    if acc l i d z = true then pa l t (i + 1) c (d + 1) (d == 0 && l i == 48) (10 * v + dv (l i)) hs
    else if l i = 44 ∧ 0 < d ∧ c + 1 < 8 then pa l t (i + 1) (c + 1) 0 false 0 (hs ++ [v]) else (i, false, hs)
theorem pa_acc {l : Nat → Int32} {t i c d : Nat} {z : Bool} {v : Nat} {hs : List Nat} (h : acc l i d z = true) : pa l (t + 1) i c d z v hs = pa l t (i + 1) c (d + 1) (d == 0 && l i == 48) (10 * v + dv (l i)) hs := by
  simp only [pa]; rw [if_pos h]
theorem pa_com {l : Nat → Int32} {t i c d : Nat} {z : Bool} {v : Nat} {hs : List Nat} (h : acc l i d z = false) (h2 : l i = 44 ∧ 0 < d ∧ c + 1 < 8) : pa l (t + 1) i c d z v hs = pa l t (i + 1) (c + 1) 0 false 0 (hs ++ [v]) := by
  simp only [pa]; rw [if_neg (by rw [h]; decide), if_pos h2]
theorem pa_err {l : Nat → Int32} {t i c d : Nat} {z : Bool} {v : Nat} {hs : List Nat} (h : acc l i d z = false) (h2 : ¬ (l i = 44 ∧ 0 < d ∧ c + 1 < 8)) : pa l (t + 1) i c d z v hs = (i, false, hs) := by
  simp only [pa]; rw [if_neg (by rw [h]; decide), if_neg h2]
theorem acc_1 {l : Nat → Int32} {i d : Nat} {z : Bool} (h1 : dg (l i) = true) (h2 : d < 5) (h3 : z = false) : acc l i d z = true := by
  unfold acc; rw [h1, h3, decide_eq_true h2]; rfl
theorem acc_dg {l : Nat → Int32} {i d : Nat} {z : Bool} (h : dg (l i) = false) : acc l i d z = false := by unfold acc; rw [h]; rfl
theorem acc_d {l : Nat → Int32} {i d : Nat} {z : Bool} (h : ¬ d < 5) : acc l i d z = false := by unfold acc; rw [decide_eq_false h, Bool.and_false]; rfl
theorem acc_z {l : Nat → Int32} {i d : Nat} {z : Bool} (h : z = true) : acc l i d z = false := by unfold acc; rw [h, Bool.not_true, Bool.and_false]
theorem acc_of {l : Nat → Int32} {i d : Nat} {z : Bool} (h : acc l i d z = true) : dg (l i) = true ∧ d < 5 ∧ z = false := by
  unfold acc at h
  simp only [Bool.and_eq_true, decide_eq_true_eq, Bool.not_eq_true'] at h
  exact ⟨h.1.1, h.1.2, h.2⟩
theorem nx_hc {v : Nat} {c : Int32} {x : Nat} (hc : c = nI (48 + x)) : 10 * nI v + (c - 48) = nI (10 * v + x) := by
  rw [hc, show (10 : Int32) = nI 10 from rfl, show (48 : Int32) = nI 48 from rfl, pk_mul, pk_sub (by omega), nI_add]
  congr 1; omega
def bI (z : Bool) : Int32 := if z = true then 1 else 0
/-- what a text of y characters says -/
def tx (bf : List Int32) (y : Nat) : Nat × Bool × List Nat := pa (fun i => bf.getD i 0) y 0 0 0 false 0 []
/-- at the end of a text that tells a reading a digit stands -/
theorem pa_end (l : Nat → Int32) : ∀ (t i c d : Nat) (z : Bool) (v : Nat) (hs : List Nat), (0 < d → 0 < i ∧ dg (l (i - 1)) = true) → (d = 0 → 0 < i → dg (l (i - 1)) = false) → d ≤ 5 →
    ((pa l t i c d z v hs).2.1 = true ↔ 0 < i + t ∧ dg (l (i + t - 1)) = true ∧ (pa l t i c d z v hs).1 = i + t)
  | 0, i, c, d, z, v, hs, h1, h2, _ => by
    simp only [pa, decide_eq_true_eq, Nat.add_zero]
    constructor
    · intro h; exact ⟨(h1 h).1, (h1 h).2, trivial⟩
    · rintro ⟨a, b, -⟩
      rcases Nat.eq_zero_or_pos d with q | q
      · rw [h2 q a] at b; cases b
      · exact q
  | t + 1, i, c, d, z, v, hs, h1, h2, h3 => by
    by_cases q : acc l i d z = true
    · obtain ⟨a1, a2, a3⟩ := acc_of q
      rw [pa_acc q, show i + (t + 1) = i + 1 + t by omega]
      exact pa_end l t (i + 1) c (d + 1) _ _ _ (fun _ => ⟨by omega, by rw [Nat.add_sub_cancel]; exact a1⟩) (fun h => by omega) (by omega)
    · have q' := Bool.eq_false_iff.mpr q
      by_cases w : l i = 44 ∧ 0 < d ∧ c + 1 < 8
      · rw [pa_com q' w, show i + (t + 1) = i + 1 + t by omega]
        exact pa_end l t (i + 1) (c + 1) 0 _ _ _ (fun h => by omega) (fun _ _ => by rw [Nat.add_sub_cancel]; exact dg_44 w.1) (by omega)
      · rw [pa_err q' w]
        constructor
        · intro h; cases h
        · rintro ⟨-, -, h⟩
          simp only at h
          omega
theorem pa_le (l : Nat → Int32) : ∀ (t i c d : Nat) (z : Bool) (v : Nat) (hs : List Nat), (pa l t i c d z v hs).1 ≤ i + t
  | 0, i, c, d, z, v, hs => Nat.le_refl _
  | t + 1, i, c, d, z, v, hs => by
    by_cases q : acc l i d z = true
    · rw [pa_acc q]; have := pa_le l t (i + 1) c (d + 1) (d == 0 && l i == 48) (10 * v + dv (l i)) hs; omega
    · have q' := Bool.eq_false_iff.mpr q
      by_cases w : l i = 44 ∧ 0 < d ∧ c + 1 < 8
      · rw [pa_com q' w]; have := pa_le l t (i + 1) (c + 1) 0 false 0 (hs ++ [v]); omega
      · rw [pa_err q' w]; omega
theorem tx_end (bf : List Int32) (y : Nat) : (tx bf y).2.1 = true ↔ 0 < y ∧ dg (bf.getD (y - 1) 0) = true ∧ (tx bf y).1 = y := by
  have h := pa_end (fun i => bf.getD i 0) y 0 0 0 false 0 [] (fun h => by omega) (fun _ h => by omega) (by omega)
  simp only [Nat.zero_add] at h
  exact h
