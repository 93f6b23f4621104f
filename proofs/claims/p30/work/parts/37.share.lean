/-! the bits of a share: floating point -/
theorem fp_fits {c : Nat} {q : Int} (h1 : 2 ^ 52 ≤ c) (h2 : c < 2 ^ 53) (hq : -1074 ≤ q) (hq2 : q ≤ 971) : FP.Core.fits FP.Core.b64 (.fin false c q) := by
  refine ⟨h2, ?_, ?_, Or.inr h1⟩
  · rw [show FP.Core.b64.qmin = -1074 from by decide]; exact hq
  · rw [show FP.Core.b64.qmax = 971 from by decide]; exact hq2
theorem fp_nn {r : UInt64} (h : FP.Core.val64 r ≠ .nan) : vf_n64 r := by
  unfold vf_n64
  rw [UInt64.le_iff_toNat_le, UInt64.toNat_and, show (0x7fffffffffffffff : UInt64).toNat = 2 ^ 63 - 1 from rfl, Nat.and_two_pow_sub_one_eq_mod]
  rcases Nat.lt_or_ge (0x7ff0000000000000 : UInt64).toNat (r.toNat % 2 ^ 63) with hc | hc
  · exfalso
    apply h
    have hv : (0x7ff0000000000000 : UInt64).toNat = 2047 * 2 ^ 52 := rfl
    rw [hv] at hc
    show FP.Core.decode FP.Core.b64 r.toNat = .nan
    generalize r.toNat = n at hc ⊢
    have e0 : FP.Core.b64.tails = 2 ^ 52 := rfl
    have e1 : FP.Core.b64.exps = 2 ^ 11 := rfl
    unfold FP.Core.decode FP.Core.fieldE FP.Core.fieldT
    rw [e0, e1, if_pos (by omega), if_neg (by omega)]
  · exact hc
theorem fp_cmp0 {x : UInt64} {c : Nat} {q : Int} (h : FP.Core.val64 x = .fin false c q) (h1 : 2 ^ 52 ≤ c) : FP.dcmp x FP.dconst0 = some .gt := by
  show FP.Core.order (FP.Core.val64 x) (FP.Core.val64 FP.Core.dconst0) = _
  rw [h, FP.Core.val64_dconst0]
  simp only [FP.Core.order, FP.Core.signed, FP.Core.inUnits, Nat.zero_mul]
  have p := Nat.two_pow_pos (q - min q FP.Core.b64.qmin).toNat
  have p2 : 0 < c * 2 ^ (q - min q FP.Core.b64.qmin).toNat := Nat.mul_pos (by omega) p
  generalize c * 2 ^ (q - min q FP.Core.b64.qmin).toNat = z at p2
  congr 1
  simp only [compare, compareOfLessAndEq]
  rw [if_neg (by simp), if_neg (by simp; omega)]
theorem fp_lt1 {x : UInt64} {c : Nat} {q : Int} (h : FP.Core.val64 x = .fin false c q) (h1 : 2 ^ 52 ≤ c) (h2 : c < 2 ^ 53) (hq : q < -52) : FP.dcmp x FP.dconst1 = some .lt := by
  show FP.Core.order (FP.Core.val64 x) (FP.Core.val64 FP.Core.dconst1) = _
  rw [h, FP.Core.val64_dconst1]
  simp only [FP.Core.order, FP.Core.signed, FP.Core.inUnits]
  rw [show (min q (-52)) = q by omega, show (q - q).toNat = 0 by omega, show (-52 - q).toNat = (-53 - q).toNat + 1 by omega, show 2 ^ ((-53 - q).toNat + 1) = 2 ^ (-53 - q).toNat * 2 from Nat.pow_succ 2 _]
  have p := Nat.two_pow_pos (-53 - q).toNat
  generalize 2 ^ (-53 - q).toNat = z at p ⊢
  have e : c * 2 ^ 0 < 2 ^ 52 * (z * 2) := by omega
  generalize c * 2 ^ 0 = u at e ⊢
  generalize 2 ^ 52 * (z * 2) = v at e ⊢
  congr 1
  simp only [compare, compareOfLessAndEq]
  rw [if_pos (by simp; omega)]
theorem fp_ge1 {x : UInt64} {c : Nat} (h : FP.Core.val64 x = .fin false c (-52)) (h1 : 2 ^ 52 ≤ c) : FP.dcmp x FP.dconst1 = some .eq ∨ FP.dcmp x FP.dconst1 = some .gt := by
  have e : FP.dcmp x FP.dconst1 = some (compare (c : Int) ((2 ^ 52 : Nat) : Int)) := by
    show FP.Core.order (FP.Core.val64 x) (FP.Core.val64 FP.Core.dconst1) = _
    rw [h, FP.Core.val64_dconst1]
    simp only [FP.Core.order, FP.Core.signed, FP.Core.inUnits]
    simp
  rw [e]
  simp only [compare, compareOfLessAndEq]
  rw [if_neg (by omega)]
  split
  · exact Or.inl rfl
  · exact Or.inr rfl
/-- 0.0, or a share that is not above 1 -/
def SHR (x : UInt64) : Prop := x = FP.dconst0 ∨ ∃ (c j : Nat), FP.Core.val64 x = .fin false c (-52 - j) ∧ 2 ^ 52 ≤ c ∧ c < 2 ^ 53 ∧ j ≤ 1000
theorem fp_i2d (i : Int32) : ∃ (s : Bool) (c : Nat) (q : Int), FP.Core.val64 (FP.i2d i) = .fin s c q ∧ FP.Core.Whole i.toInt (.fin s c q) := by
  have h := FP.Core.whole_round FP.Core.good_b64 FP.Core.wide_b64 (i := i.toInt) (by
    have h1 := Int32.toInt_lt i
    have h2 := Int32.le_toInt i
    show i.toInt.natAbs ≤ 2 ^ 53
    omega) (FP.Core.whole_ofInt i.toInt)
  have e : FP.Core.val64 (FP.i2d i) = FP.Core.round FP.Core.b64 (FP.Core.ofInt i.toInt) := FP.Core.val64_i2d i
  rw [← e] at h
  revert h
  cases FP.Core.val64 (FP.i2d i) with
  | nan => exact fun h => h.elim
  | inf s => exact fun h => h.elim
  | fin s c q => exact fun h => ⟨s, c, q, rfl, h⟩
theorem fp_rr (f : FP.Core.Fmt) (s : Bool) (A B : Nat) (e : Int) : FP.Core.roundRatio f s A B e ≠ .nan := by
  unfold FP.Core.roundRatio
  split
  · simp
  · unfold FP.Core.roundAt FP.Core.settle FP.Core.bound
    split <;> split <;> simp
theorem dv_ok : DV := by
  intro x y hy
  obtain ⟨s, c, q, e1, w1⟩ := fp_i2d x
  obtain ⟨s2, c2, q2, e2, w2⟩ := fp_i2d y
  apply fp_nn
  show FP.Core.val64 (FP.Core.ddiv (FP.i2d x) (FP.i2d y)) ≠ _
  rw [FP.Core.val64_ddiv, e1, e2]
  have hc : ¬ c2 = 0 := by
    rw [FP.Core.whole_zero w2]
    intro h0
    apply hy
    rw [Int32.le_iff_toInt_le, h0]
    decide
  show (if c2 = 0 then _ else _) ≠ _
  rw [if_neg hc]
  exact fp_rr _ _ _ _ _
theorem fp_quo {a b : Nat} (hb : 0 < b) (hab : a ≤ b) (hb2 : b ≤ 46340) : FP.Core.val64 (FP.ddiv (FP.i2d (nI a)) (FP.i2d (nI b))) = FP.Core.roundRatio FP.Core.b64 false a b 0 := by
  obtain ⟨s, c, q, e1, w1⟩ := fp_i2d (nI a)
  obtain ⟨s2, c2, q2, e2, w2⟩ := fp_i2d (nI b)
  rw [nI_toInt (by omega)] at w1 w2
  show FP.Core.val64 (FP.Core.ddiv (FP.i2d (nI a)) (FP.i2d (nI b))) = _
  rw [FP.Core.val64_ddiv, e1, e2]
  have hc2 : ¬ c2 = 0 := by rw [FP.Core.whole_zero w2]; omega
  show (if c2 = 0 then _ else _) = _
  rw [if_neg hc2]
  have hs2 : s2 = false := by rw [FP.Core.whole_sign w2 (by omega)]; simp
  have n1 := FP.Core.whole_natAbs w1
  have n2 := FP.Core.whole_natAbs w2
  simp only [Int.natAbs_natCast] at n1 n2
  have hs : (s != s2) = false ∨ a = 0 := by
    rcases Nat.eq_zero_or_pos a with h | h
    · exact Or.inr h
    · refine Or.inl ?_
      rw [hs2, FP.Core.whole_sign w1 (by omega)]; simp
  have hsz : (s != s2) = false := by
    rcases hs with h | h
    · exact h
    · have : FP.Core.val64 (FP.i2d (nI a)) = .fin false 0 FP.Core.b64.qmin := by rw [h]; decide +kernel
      rw [e1] at this
      cases this
      rw [hs2]; rfl
  rw [hsz]
  refine FP.Core.roundRatio_congr (by omega) hb ?_
  have p1 := Nat.two_pow_pos (-q).toNat
  have p2 := Nat.two_pow_pos q2.toNat
  refine Nat.eq_of_mul_eq_mul_right p1 (Nat.eq_of_mul_eq_mul_right p2 ?_)
  have x1 : (q - q2 - 0).toNat + (-q).toNat + q2.toNat = q.toNat + (-q2).toNat + (0 - (q - q2)).toNat := by omega
  calc c * b * 2 ^ (q - q2 - 0).toNat * 2 ^ (-q).toNat * 2 ^ q2.toNat = c * b * 2 ^ ((q - q2 - 0).toNat + (-q).toNat + q2.toNat) := by simp only [Nat.pow_add]; ac_rfl
    _ = (c * 2 ^ q.toNat) * (b * 2 ^ (-q2).toNat) * 2 ^ (0 - (q - q2)).toNat := by rw [x1]; simp only [Nat.pow_add]; ac_rfl
    _ = (a * 2 ^ (-q).toNat) * (c2 * 2 ^ q2.toNat) * 2 ^ (0 - (q - q2)).toNat := by rw [n1, n2]
    _ = a * c2 * 2 ^ (0 - (q - q2)).toNat * 2 ^ (-q).toNat * 2 ^ q2.toNat := by ac_rfl
theorem fp_share {a b : Nat} (ha : 0 < a) (hab : a ≤ b) (hb2 : b ≤ 46340) : ∃ (c j : Nat), FP.Core.roundRatio FP.Core.b64 false a b 0 = .fin false c (-52 - j) ∧ 2 ^ 52 ≤ c ∧ c < 2 ^ 53 ∧ j ≤ 1000 := by
  rcases Nat.lt_or_ge a b with h | h
  · have L := FP.Core.leading_spec (A := a) (B := b) ha (by omega)
    have u1 : FP.Core.leading a b ≤ -1 := by
      have hb : FP.Core.Below a b 0 := by unfold FP.Core.Below; simpa using h
      have := FP.Core.lt_of_below L.1 hb
      omega
    have u2 : -16 ≤ FP.Core.leading a b := by
      have hb : ¬ FP.Core.Below a b (-16) := by unfold FP.Core.Below; simp; omega
      have := FP.Core.lt_of_below hb L.2
      omega
    have hq : FP.Core.quantum FP.Core.b64 a b 0 = FP.Core.leading a b - 52 := by
      unfold FP.Core.quantum
      rw [show FP.Core.b64.qmin = -1074 from by decide, show (FP.Core.b64.p : Int) = 53 from rfl]
      omega
    have le := FP.Core.nearest_units_le (f := FP.Core.b64) (A := a) (B := b) ha (by omega) 0
    have ge : 2 ^ 52 ≤ FP.Core.nearest (FP.Core.unitsNum a 0 (FP.Core.quantum FP.Core.b64 a b 0)) (FP.Core.unitsDen b 0 (FP.Core.quantum FP.Core.b64 a b 0)) := by
      refine FP.Core.nearest_ge (FP.Core.unitsDen_pos (by omega) _ _) ?_
      rcases FP.Core.quantum_not_below (f := FP.Core.b64) ha (show 0 < b by omega) 0 with h2 | h2
      · rw [hq, show FP.Core.b64.qmin = -1074 from by decide] at h2; omega
      · rw [show (FP.Core.b64.p : Int) - 1 = ((52 : Nat) : Int) from rfl, ← FP.Core.units_below] at h2
        exact Nat.le_of_not_lt h2
    unfold FP.Core.roundRatio
    rw [if_neg (by omega)]
    unfold FP.Core.roundAt
    rw [hq] at le ge ⊢
    generalize FP.Core.nearest _ _ = k at le ge ⊢
    generalize FP.Core.leading a b = l at u1 u2
    have e3 : FP.Core.b64.qmax = 971 := by decide
    unfold FP.Core.settle FP.Core.bound
    rw [e3]
    by_cases hk : k < 2 ^ FP.Core.b64.p
    · rw [if_pos hk, if_pos (by omega)]
      exact ⟨k, (-l).toNat, by rw [show (-52 : Int) - (((-l).toNat : Nat) : Int) = l - 52 by omega], ge, hk, by omega⟩
    · rw [if_neg hk, if_pos (by omega)]
      exact ⟨2 ^ 52, (-l - 1).toNat, by rw [show (-52 : Int) - (((-l - 1).toNat : Nat) : Int) = l - 52 + 1 by omega]; rfl, Nat.le_refl _, by decide, by omega⟩
  · have : a = b := by omega
    subst this
    refine ⟨2 ^ 52, 0, ?_, Nat.le_refl _, by decide, by omega⟩
    exact FP.Core.roundRatio_exact FP.Core.good_b64 ha (fp_fits (Nat.le_refl _) (by decide) (by omega) (by omega)) (by simp [Nat.mul_comm])
theorem lo_le {ς : Nat → Int32} : ∀ k, loF ς k ≤ ς 0
  | 0 => Int32.le_refl _
  | k + 1 => by
    simp only [loF]
    split
    · rename_i h; exact Int32.le_trans (Int32.le_of_lt h) (lo_le k)
    · exact lo_le k
theorem hi_ge {ς : Nat → Int32} : ∀ k, ς 0 ≤ hiF ς k
  | 0 => Int32.le_refl _
  | k + 1 => by
    simp only [hiF]
    split
    · rename_i h; exact Int32.le_trans (hi_ge k) (Int32.le_of_lt h)
    · exact hi_ge k
theorem lo_bd {ς : Nat → Int32} : ∀ {k : Nat}, (∀ i, i ≤ k → ∃ z, z ≤ 46340 ∧ ς i = nI z) → ∃ z, z ≤ 46340 ∧ loF ς k = nI z
  | 0, h => h 0 (Nat.le_refl 0)
  | k + 1, h => by
    simp only [loF]
    split
    · exact h (k + 1) (Nat.le_refl _)
    · exact lo_bd (fun i hi => h i (by omega))
theorem shr_ok {m : List Int32} {n q r : Nat} (V : VM m n q r) : SHR (evT m n q) := by
  unfold evT evF
  split
  · exact Or.inl rfl
  · rename_i htr
    split
    · rename_i hh
      have B := sp_bd9 V htr
      obtain ⟨z1, b1, e1⟩ := lo_bd B
      obtain ⟨z2, b2, e2⟩ := hi_bd B
      have hle := Int32.le_trans (lo_le (ς := spT m n q (-1) (meF m q)) (n - 1)) (hi_ge (n - 1))
      rw [e1, e2] at hle
      rw [e2] at hh
      rw [e1, e2]
      have hz : z1 ≤ z2 := by
        rw [Int32.le_iff_toInt_le, nI_toInt (by omega), nI_toInt (by omega)] at hle; omega
      have hz2 : 0 < z2 := by
        rcases Nat.eq_zero_or_pos z2 with e | e
        · rw [e] at hh; exact absurd hh (by decide)
        · exact e
      have Q := fp_quo hz2 hz b2
      rcases Nat.eq_zero_or_pos z1 with e | e
      · left
        rw [e] at Q ⊢
        refine FP.Core.val64_inj (by rw [Q]; exact fp_rr _ _ _ _ _) ?_
        rw [Q, show FP.Core.val64 FP.dconst0 = _ from FP.Core.val64_dconst0]
        unfold FP.Core.roundRatio
        rw [if_pos rfl]
      · right
        obtain ⟨c, j, h1, h2, h3, h4⟩ := fp_share e hz b2
        exact ⟨c, j, Q.trans h1, h2, h3, h4⟩
    · exact Or.inl rfl
