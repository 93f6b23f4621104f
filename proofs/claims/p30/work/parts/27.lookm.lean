theorem half_nI {n : Nat} (h : n < 1000) : nI n / 2 = nI (n / 2) := by
  have : ∀ k, k < 1000 → nI k / 2 = nI (k / 2) := by decide +kernel
  exact this n h
/-- the hole that matters most, among the first k; and how much -/
def wsF (f : Nat → Int32) (w : Int32) : Nat → Int32 × Int32
  | 0 => (-1, -1)
  | k + 1 => if ¬ f k = -1 ∧ (wsF f w k).2 < (if 0 ≤ f k - w then f k - w else 0 - (f k - w)) then (nI k, if 0 ≤ f k - w then f k - w else 0 - (f k - w)) else wsF f w k
noncomputable def woV (m : List Int32) (n q : Nat) : Int32 := if flT m n q (-1) (meF m q) 0 n = -1 then -1 else (wsF (wrT m n q) (flT m n q (-1) (meF m q) 0 n) n).1
theorem sp_bd {ρ μ : Nat → Int32} {n k : Nat} (hn : n ≤ 8) (hk : k < n) (h : ¬ trF ρ n = 0) : ∃ s, s ≤ 46340 ∧ spF ρ (rtF μ) n k = nI s := by
  have hr : ∀ i, ∃ s, s ≤ 46340 ∧ rtF μ i = nI s := fun i => rootF_bd _
  obtain ⟨-, z, hz, hz0⟩ := tr_pos hn h
  unfold spF
  by_cases c : ρ k = 0
  · rw [if_pos c]; exact hr k
  · rw [if_neg c]
    rcases up_or ρ (rtF μ) n (n - 1 - k) (by omega) with ⟨u1, u2, u3⟩ | ⟨i, u0, u1, u2, u3, u4⟩
    · rcases dn_or ρ (rtF μ) k with ⟨v1, v2, v3⟩ | ⟨j, v1, v2, v3, v4⟩
      · rcases Nat.lt_trichotomy z k with q | q | q
        · exact absurd hz0 (v3 z q)
        · rw [q] at hz0; exact absurd hz0 c
        · exact absurd hz0 (u3 z (by omega) hz)
      · rw [u2, v4, md_dn (rt_ne1 μ j)]; exact hr j
    · rcases dn_or ρ (rtF μ) k with ⟨v1, v2, v3⟩ | ⟨j, v1, v2, v3, v4⟩
      · rw [u4, v2, md_up]; exact hr i
      · rw [u4, v4, ← md_two (rt_ne1 μ j) (rt_ne1 μ i)]
        obtain ⟨a, ha, ea⟩ := hr i
        obtain ⟨b, hb, eb⟩ := hr j
        exact ⟨(a + b) / 2, by omega, by rw [ea, eb, nI_add, show (2 : Int32) = nI 2 from rfl, pk_div (by omega) (by omega) (by omega)]⟩
theorem ring_bd {m : List Int32} {n r s : Nat} (V5 : m.getD 5 0 = nI r) (hr : r ≤ 500) (hn : 2 ≤ n) (hn8 : n ≤ 8) (hs : s ≤ 46340) : ∃ z, z ≤ 57925000 ∧ ringF m (nI s) n = nI z := by
  have h1 : r * r ≤ 250000 := Nat.mul_le_mul hr hr
  have h2 : r * r / 100 ≤ 2500 := by omega
  have h3 : s * (r * r / 100) ≤ 115850000 := Nat.mul_le_mul hs h2
  refine ⟨s * (r * r / 100) / n, ?_, ?_⟩
  · have : s * (r * r / 100) / n ≤ s * (r * r / 100) / 2 := Nat.div_le_div_left hn (by omega)
    omega
  · unfold ringF
    rw [V5, pk_mul, show (100 : Int32) = nI 100 from rfl, pk_div (by omega) (by omega) (by omega), pk_mul, pk_div (by omega) (by omega) (by omega)]
theorem sum_bd {f : Nat → Int32} {B : Nat} : ∀ c, (∀ i, i < c → ∃ z, z ≤ B ∧ f i = nI z) → ∃ z, z ≤ c * B ∧ sumTo f c = nI z
  | 0, _ => ⟨0, by omega, rfl⟩
  | c + 1, h => by
    obtain ⟨z, h1, h2⟩ := sum_bd c (fun i hi => h i (by omega))
    obtain ⟨y, h3, h4⟩ := h c (by omega)
    exact ⟨z + y, by rw [Nat.add_mul]; omega, by simp only [sumTo]; rw [h2, h4, nI_add]⟩
theorem fl_bd {m : List Int32} {n q r a c : Nat} {R : Int32} {μ : Nat → Int32} (V : VM m n q r) (hac : a + c ≤ n) : (trT m n q R μ = 0 ∧ flT m n q R μ a c = -1) ∨ (¬ trT m n q R μ = 0 ∧ ∃ z, z < 2 ^ 30 ∧ flT m n q R μ a c = nI z) := by
  obtain ⟨Vl, V6, V7, V5, Vn2, Vn8, Vq, Vr0, Vr1⟩ := V
  unfold flT
  by_cases h : trT m n q R μ = 0
  · rw [if_pos h]; exact Or.inl ⟨h, rfl⟩
  · rw [if_neg h]
    refine Or.inr ⟨h, ?_⟩
    obtain ⟨z, h1, h2⟩ := sum_bd (f := fun i => ringF m (spT m n q R μ (a + i)) n) (B := 57925000) c (fun i hi => by
      obtain ⟨s, hs, es⟩ := sp_bd (ρ := reT m n q R μ) (μ := μ) Vn8 (show a + i < n by omega) h
      show ∃ z, z ≤ 57925000 ∧ ringF m (spF (reT m n q R μ) (rtF μ) n (a + i)) n = nI z
      rw [es]
      exact ring_bd V5 Vr1 Vn2 Vn8 hs)
    exact ⟨z, by omega, h2⟩
noncomputable def fnF (m : List Int32) (mo : Int32) : Nat → Int32
  | 0 => 8
  | j + 1 => if (if 0 ≤ trueF m (7 - j) - trueF m 8 then trueF m (7 - j) - trueF m 8 else 0 - (trueF m (7 - j) - trueF m 8)) ≤ mo then nI (7 - j) else fnF m mo j
theorem hi_bd {ς : Nat → Int32} : ∀ {k : Nat}, (∀ i, i ≤ k → ∃ z, z ≤ 46340 ∧ ς i = nI z) → ∃ z, z ≤ 46340 ∧ hiF ς k = nI z
  | 0, h => h 0 (Nat.le_refl 0)
  | k + 1, h => by
    simp only [hiF]
    split
    · exact h (k + 1) (Nat.le_refl _)
    · exact hi_bd (fun i hi => h i (by omega))
def DV : Prop := ∀ x y : Int32, ¬ y ≤ 0 → vf_n64 (FP.ddiv (FP.i2d x) (FP.i2d y))
noncomputable def evT (m : List Int32) (n q : Nat) : UInt64 := evF (trT m n q (-1) (meF m q)) (spT m n q (-1) (meF m q)) n
theorem sp_bd9 {m : List Int32} {n q r : Nat} (V : VM m n q r) (h : ¬ trT m n q (-1) (meF m q) = 0) : ∀ i, i ≤ n - 1 → ∃ z, z ≤ 46340 ∧ spT m n q (-1) (meF m q) i = nI z := by
  obtain ⟨Vl, V6, V7, V5, Vn2, Vn8, Vq, Vr0, Vr1⟩ := V
  exact fun i hi => sp_bd Vn8 (by omega) h
