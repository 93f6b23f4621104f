/-! texts: one reader that the class's scanner and the model's reader both follow -/
def dg (c : Int32) : Bool := decide (48 ≤ c) && decide (c ≤ 57)
def dgI (c : Int32) : Int32 := if dg c = true then 1 else 0
def dv (c : Int32) : Nat := (c - 48).toNatClampNeg
theorem dg_of {c : Int32} (h : dg c = true) : ∃ x, x ≤ 9 ∧ c = nI (48 + x) ∧ dv c = x := by
  simp only [dg, Bool.and_eq_true, decide_eq_true_eq] at h
  obtain ⟨j, hj, rfl⟩ := nI_of (x := c) (fun q => absurd (Int32.lt_of_le_of_lt h.1 q) (by decide))
  have h1 : 48 ≤ j := (nI_leI (a := 48) (by omega) hj).mp h.1
  have h2 : j ≤ 57 := (nI_leI (b := 57) hj (by omega)).mp h.2
  refine ⟨j - 48, by omega, by congr 1; omega, ?_⟩
  unfold dv
  rw [show (48 : Int32) = nI 48 from rfl, pk_sub h1, nI_clamp (by omega)]
theorem dgI_0 {c : Int32} (h : dgI c = 0) : dg c = false := by
  unfold dgI at h
  by_cases q : dg c = true
  · rw [if_pos q] at h; exact absurd h (by decide)
  · exact Bool.eq_false_iff.mpr q
theorem dgI_1 {c : Int32} (h : ¬ dgI c = 0) : dg c = true := by
  unfold dgI at h
  by_cases q : dg c = true
  · exact q
  · rw [if_neg q] at h; exact absurd rfl h
theorem dg_44 {c : Int32} (h : c = 44) : dg c = false := by rw [h]; decide
def acc (l : Nat → Int32) (i d : Nat) (z : Bool) : Bool := dg (l i) && decide (d < 5) && !z
def pa (l : Nat → Int32) : Nat → Nat → Nat → Nat → Bool → Nat → List Nat → Nat × Bool × List Nat
  | 0, i, _, d, _, v, hs => (i, decide (0 < d), hs ++ [v])
  | t + 1, i, c, d, z, v, hs =>
    if acc l i d z = true then pa l t (i + 1) c (d + 1) (d == 0 && l i == 48) (10 * v + dv (l i)) hs
    else if l i = 44 ∧ 0 < d ∧ c + 1 < 8 then pa l t (i + 1) (c + 1) 0 false 0 (hs ++ [v]) else (i, false, hs)
theorem pa_acc {l : Nat → Int32} {t i c d : Nat} {z : Bool} {v : Nat} {hs : List Nat} (h : acc l i d z = true) : pa l (t + 1) i c d z v hs = pa l t (i + 1) c (d + 1) (d == 0 && l i == 48) (10 * v + dv (l i)) hs := by
  simp only [pa]; rw [if_pos h]
theorem pa_com {l : Nat → Int32} {t i c d : Nat} {z : Bool} {v : Nat} {hs : List Nat} (h : acc l i d z = false) (h2 : l i = 44 ∧ 0 < d ∧ c + 1 < 8) : pa l (t + 1) i c d z v hs = pa l t (i + 1) (c + 1) 0 false 0 (hs ++ [v]) := by
  simp only [pa]; rw [if_neg (by rw [h]; decide), if_pos h2]
theorem pa_err {l : Nat → Int32} {t i c d : Nat} {z : Bool} {v : Nat} {hs : List Nat} (h : acc l i d z = false) (h2 : ¬ (l i = 44 ∧ 0 < d ∧ c + 1 < 8)) : pa l (t + 1) i c d z v hs = (i, false, hs) := by
  simp only [pa]; rw [if_neg (by rw [h]; decide), if_neg h2]
theorem acc_1 {l : Nat → Int32} {i d : Nat} {z : Bool} (h1 : dg (l i) = true) (h2 : d < 5) (h3 : z = false) : acc l i d z = true := by
  unfold acc; rw [h1, h3, decide_eq_true h2]; rfl
theorem acc_dg {l : Nat → Int32} {i d : Nat} {z : Bool} (h : dg (l i) = false) : acc l i d z = false := by unfold acc; rw [h]; rfl
theorem acc_d {l : Nat → Int32} {i d : Nat} {z : Bool} (h : ¬ d < 5) : acc l i d z = false := by unfold acc; rw [decide_eq_false h, Bool.and_false]; rfl
theorem acc_z {l : Nat → Int32} {i d : Nat} {z : Bool} (h : z = true) : acc l i d z = false := by unfold acc; rw [h, Bool.not_true, Bool.and_false]
theorem acc_of {l : Nat → Int32} {i d : Nat} {z : Bool} (h : acc l i d z = true) : dg (l i) = true ∧ d < 5 ∧ z = false := by
  unfold acc at h
  simp only [Bool.and_eq_true, decide_eq_true_eq, Bool.not_eq_true'] at h
  exact ⟨h.1.1, h.1.2, h.2⟩
/-- a value of d digits: z says that it is the single digit 0 -/
def cons9 (v d : Nat) (z : Bool) : Prop := (z = true ∧ v = 0 ∧ d = 1) ∨ (z = false ∧ ((d = 1 ∧ 1 ≤ v ∧ v ≤ 9) ∨ (d = 2 ∧ 10 ≤ v ∧ v ≤ 99) ∨ (d = 3 ∧ 100 ≤ v ∧ v ≤ 999) ∨ (d = 4 ∧ 1000 ≤ v ∧ v ≤ 9999) ∨ (d = 5 ∧ 10000 ≤ v ∧ v ≤ 99999)))
theorem cons_d {v d : Nat} {z : Bool} (h : cons9 v d z) : 0 < d ∧ d ≤ 5 ∧ v ≤ 99999 := by unfold cons9 at h; omega
theorem cons_1 {x : Nat} (hx : x ≤ 9) {c : Int32} (hc : c = nI (48 + x)) : cons9 x 1 (c == 48) := by
  unfold cons9
  by_cases h : x = 0
  · subst h; left; rw [hc]; exact ⟨by decide, rfl, rfl⟩
  · right
    refine ⟨?_, Or.inl ⟨rfl, by omega, hx⟩⟩
    rw [hc]
    exact beq_eq_false_iff_ne.mpr (fun q => h (by have := (nI_eq (a := 48 + x) (b := 48) (by omega) (by omega)).mp q; omega))
/-- the model's test for one digit more is the class's -/
theorem cons_acc {l : Nat → Int32} {i v d : Nat} {z : Bool} (h : cons9 v d z) : acc l i d z = true ↔ 0 < v ∧ dg (l i) = true ∧ 10 * v + dv (l i) ≤ 99999 := by
  constructor
  · intro q
    obtain ⟨h1, h2, h3⟩ := acc_of q
    obtain ⟨x, hx, -, e⟩ := dg_of h1
    rw [e]
    unfold cons9 at h
    rw [h3] at h
    simp only [Bool.false_eq_true, false_and, false_or, true_and] at h
    exact ⟨by omega, h1, by omega⟩
  · rintro ⟨h1, h2, h3⟩
    obtain ⟨x, hx, -, e⟩ := dg_of h2
    rw [e] at h3
    unfold cons9 at h
    refine acc_1 h2 (by omega) ?_
    rcases h with h | h
    · omega
    · exact h.1
theorem cons_s {l : Nat → Int32} {i v d : Nat} {z : Bool} (h : cons9 v d z) (q : acc l i d z = true) : cons9 (10 * v + dv (l i)) (d + 1) (d == 0 && l i == 48) := by
  obtain ⟨h1, h2, h3⟩ := acc_of q
  obtain ⟨x, hx, -, e⟩ := dg_of h1
  have hd := cons_d h
  rw [show (d == 0) = false from beq_eq_false_iff_ne.mpr (by omega), Bool.false_and, e]
  unfold cons9 at h ⊢
  rw [h3] at h
  simp only [Bool.false_eq_true, false_and, false_or, true_and] at h ⊢
  omega
/-- the model's head goes on: fuel, place, value -/
def rhF (l : Nat → Int32) : Nat → Nat → Nat → Nat × Nat × Nat
  | 0, i, v => (0, i, v)
  | t + 1, i, v => if 0 < v ∧ dg (l i) = true ∧ 10 * v + dv (l i) ≤ 99999 then rhF l t (i + 1) (10 * v + dv (l i)) else (t + 1, i, v)
theorem rh_pa (l : Nat → Int32) (c : Nat) (hs : List Nat) : ∀ (t i d : Nat) (z : Bool) (v : Nat), cons9 v d z → ∃ d' z', cons9 (rhF l t i v).2.2 d' z' ∧ pa l t i c d z v hs = pa l (rhF l t i v).1 (rhF l t i v).2.1 c d' z' (rhF l t i v).2.2 hs ∧ ((rhF l t i v).1 = 0 ∨ acc l (rhF l t i v).2.1 d' z' = false) ∧ (rhF l t i v).2.1 + (rhF l t i v).1 = i + t
  | 0, i, d, z, v, h => ⟨d, z, h, rfl, Or.inl rfl, rfl⟩
  | t + 1, i, d, z, v, h => by
    by_cases q : acc l i d z = true
    · have q2 := (cons_acc h).mp q
      have e : rhF l (t + 1) i v = rhF l t (i + 1) (10 * v + dv (l i)) := by simp only [rhF]; rw [if_pos q2]
      obtain ⟨d', z', a1, a2, a3, a4⟩ := rh_pa l c hs t (i + 1) (d + 1) _ _ (cons_s h q)
      refine ⟨d', z', ?_, ?_, ?_, ?_⟩
      · rw [e]; exact a1
      · rw [e, pa_acc q]; exact a2
      · rw [e]; exact a3
      · rw [e, a4]; omega
    · have e : rhF l (t + 1) i v = (t + 1, i, v) := by simp only [rhF]; rw [if_neg (fun z9 => q ((cons_acc h).mpr z9))]
      rw [e]
      exact ⟨d, z, h, rfl, Or.inr (Bool.eq_false_iff.mpr q), rfl⟩
theorem nx_hd {v : Nat} {c : Int32} {x : Nat} (hc : c = nI (48 + x)) : (10 * nI v + c) - 48 = nI (10 * v + x) := by
  rw [hc, show (10 : Int32) = nI 10 from rfl, show (48 : Int32) = nI 48 from rfl, pk_mul, nI_add, pk_sub (by omega)]
  congr 1; omega
theorem nx_hc {v : Nat} {c : Int32} {x : Nat} (hc : c = nI (48 + x)) : 10 * nI v + (c - 48) = nI (10 * v + x) := by
  rw [hc, show (10 : Int32) = nI 10 from rfl, show (48 : Int32) = nI 48 from rfl, pk_mul, pk_sub (by omega), nI_add]
  congr 1; omega
theorem nx_h0 {c : Int32} {x : Nat} (hc : c = nI (48 + x)) : c - 48 = nI x := by
  rw [hc, show (48 : Int32) = nI 48 from rfl, pk_sub (by omega)]
  congr 1; omega
theorem inF_dg (c : Int32) : inF c 48 57 = dgI c := by
  unfold inF dgI dg
  by_cases h : 48 ≤ c ∧ c ≤ 57
  · rw [if_pos h, if_pos (by rw [decide_eq_true h.1, decide_eq_true h.2]; rfl)]
  · rw [if_neg h, if_neg (by
      simp only [Bool.and_eq_true, decide_eq_true_eq]; exact h)]
def bI (z : Bool) : Int32 := if z = true then 1 else 0
/-- what a text of y characters says -/
def tx (bf : List Int32) (y : Nat) : Nat × Bool × List Nat := pa (fun i => bf.getD i 0) y 0 0 0 false 0 []
/-- at the end of a text that tells a reading a digit stands -/
theorem pa_end (l : Nat → Int32) : ∀ (t i c d : Nat) (z : Bool) (v : Nat) (hs : List Nat), (0 < d → 0 < i ∧ dg (l (i - 1)) = true) → (d = 0 → 0 < i → dg (l (i - 1)) = false) → d ≤ 5 →
    ((pa l t i c d z v hs).2.1 = true ↔ 0 < i + t ∧ dg (l (i + t - 1)) = true ∧ (pa l t i c d z v hs).1 = i + t)
  | 0, i, c, d, z, v, hs, h1, h2, _ => by
    simp only [pa, decide_eq_true_eq, Nat.add_zero]
    constructor
    · intro h; exact ⟨(h1 h).1, (h1 h).2, trivial⟩
    · rintro ⟨a, b, -⟩
      rcases Nat.eq_zero_or_pos d with q | q
      · rw [h2 q a] at b; cases b
      · exact q
  | t + 1, i, c, d, z, v, hs, h1, h2, h3 => by
    by_cases q : acc l i d z = true
    · obtain ⟨a1, a2, a3⟩ := acc_of q
      rw [pa_acc q, show i + (t + 1) = i + 1 + t by omega]
      exact pa_end l t (i + 1) c (d + 1) _ _ _ (fun _ => ⟨by omega, by rw [Nat.add_sub_cancel]; exact a1⟩) (fun h => by omega) (by omega)
    · have q' := Bool.eq_false_iff.mpr q
      by_cases w : l i = 44 ∧ 0 < d ∧ c + 1 < 8
      · rw [pa_com q' w, show i + (t + 1) = i + 1 + t by omega]
        exact pa_end l t (i + 1) (c + 1) 0 _ _ _ (fun h => by omega) (fun _ _ => by rw [Nat.add_sub_cancel]; exact dg_44 w.1) (by omega)
      · rw [pa_err q' w]
        constructor
        · intro h; cases h
        · rintro ⟨-, -, h⟩
          simp only at h
          omega
theorem pa_le (l : Nat → Int32) : ∀ (t i c d : Nat) (z : Bool) (v : Nat) (hs : List Nat), (pa l t i c d z v hs).1 ≤ i + t
  | 0, i, c, d, z, v, hs => Nat.le_refl _
  | t + 1, i, c, d, z, v, hs => by
    by_cases q : acc l i d z = true
    · rw [pa_acc q]; have := pa_le l t (i + 1) c (d + 1) (d == 0 && l i == 48) (10 * v + dv (l i)) hs; omega
    · have q' := Bool.eq_false_iff.mpr q
      by_cases w : l i = 44 ∧ 0 < d ∧ c + 1 < 8
      · rw [pa_com q' w]; have := pa_le l t (i + 1) (c + 1) 0 false 0 (hs ++ [v]); omega
      · rw [pa_err q' w]; omega
theorem tx_end (bf : List Int32) (y : Nat) : (tx bf y).2.1 = true ↔ 0 < y ∧ dg (bf.getD (y - 1) 0) = true ∧ (tx bf y).1 = y := by
  have h := pa_end (fun i => bf.getD i 0) y 0 0 0 false 0 [] (fun h => by omega) (fun _ h => by omega) (by omega)
  simp only [Nat.zero_add] at h
  exact h
