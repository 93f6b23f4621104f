/-! the bits of a share: floating point -/
theorem fp_fits {c : Nat} {q : Int} (h1 : 2 ^ 52 ≤ c) (h2 : c < 2 ^ 53) (hq : -1074 ≤ q) (hq2 : q ≤ 971) : FP.Core.fits FP.Core.b64 (.fin false c q) := by
  refine ⟨h2, ?_, ?_, Or.inr h1⟩
  · rw [show FP.Core.b64.qmin = -1074 from by decide]; exact hq
  · rw [show FP.Core.b64.qmax = 971 from by decide]; exact hq2
theorem fp_nn {r : UInt64} (h : FP.Core.val64 r ≠ .nan) : vf_n64 r := by
  unfold vf_n64
  rw [UInt64.le_iff_toNat_le, UInt64.toNat_and, show (0x7fffffffffffffff : UInt64).toNat = 2 ^ 63 - 1 from rfl, Nat.and_two_pow_sub_one_eq_mod]
  rcases Nat.lt_or_ge (0x7ff0000000000000 : UInt64).toNat (r.toNat % 2 ^ 63) with hc | hc
  · exfalso
    apply h
    have hv : (0x7ff0000000000000 : UInt64).toNat = 2047 * 2 ^ 52 := rfl
    rw [hv] at hc
    show FP.Core.decode FP.Core.b64 r.toNat = .nan
    generalize r.toNat = n at hc ⊢
    have e0 : FP.Core.b64.tails = 2 ^ 52 := rfl
    have e1 : FP.Core.b64.exps = 2 ^ 11 := rfl
    unfold FP.Core.decode FP.Core.fieldE FP.Core.fieldT
    rw [e0, e1, if_pos (by omega), if_neg (by omega)]
  · exact hc
theorem fp_bits {x : UInt64} {c : Nat} {q : Int} (h : FP.Core.val64 x = .fin false c q) (h1 : 2 ^ 52 ≤ c) (h2 : c < 2 ^ 53) (hq : -1074 ≤ q) (hq2 : q ≤ 0) : x.toNat = (q + 1075).toNat * 2 ^ 52 + (c - 2 ^ 52) := by
  have a := FP.Core.of64_val64 (a := x) (by rw [h]; simp)
  rw [h] at a
  rw [← a]
  have e0 : FP.Core.b64.tails = 2 ^ 52 := rfl
  have e1 : FP.Core.b64.exps = 2 ^ 11 := rfl
  have e2 : FP.Core.b64.qmin = -1074 := by decide
  unfold FP.Core.of64 FP.Core.encode
  simp only
  rw [e0, if_neg (by omega)]
  unfold FP.Core.assemble
  rw [e0, e1, e2]
  show (BitVec.ofNat 64 _).toNat = _
  rw [BitVec.toNat_ofNat, show (q - -1074).toNat + 1 = (q + 1075).toNat by omega]
  simp only [Bool.toNat_false, Nat.zero_mul, Nat.zero_add]
  exact Nat.mod_eq_of_lt (by omega)
theorem fp_dbl {x : UInt64} {c : Nat} {q : Int} (h : FP.Core.val64 x = .fin false c q) (h1 : 2 ^ 52 ≤ c) (h2 : c < 2 ^ 53) (hq : -1074 ≤ q) (hq2 : q ≤ 0) : FP.Core.val64 (FP.dmul x 4611686018427387904) = .fin false c (q + 1) := by
  show FP.Core.val64 (FP.Core.dmul x _) = _
  rw [FP.Core.val64_dmul, h, show FP.Core.val64 4611686018427387904 = .fin false (2 ^ 52) (-51) from by decide +kernel]
  show FP.Core.roundRatio FP.Core.b64 (false != false) (c * 2 ^ 52) 1 (q + -51) = _
  exact FP.Core.roundRatio_exact FP.Core.good_b64 (by decide) (fp_fits h1 h2 (by omega) (by omega)) (by
    rw [show ((q + -51) - (q + 1)).toNat = 0 by omega, show ((q + 1) - (q + -51)).toNat = 52 by omega]; simp)
theorem fp_cmp0 {x : UInt64} {c : Nat} {q : Int} (h : FP.Core.val64 x = .fin false c q) (h1 : 2 ^ 52 ≤ c) : FP.dcmp x FP.dconst0 = some .gt := by
  show FP.Core.order (FP.Core.val64 x) (FP.Core.val64 FP.Core.dconst0) = _
  rw [h, FP.Core.val64_dconst0]
  simp only [FP.Core.order, FP.Core.signed, FP.Core.inUnits, Nat.zero_mul]
  have p := Nat.two_pow_pos (q - min q FP.Core.b64.qmin).toNat
  have p2 : 0 < c * 2 ^ (q - min q FP.Core.b64.qmin).toNat := Nat.mul_pos (by omega) p
  generalize c * 2 ^ (q - min q FP.Core.b64.qmin).toNat = z at p2
  congr 1
  simp only [compare, compareOfLessAndEq]
  rw [if_neg (by simp), if_neg (by simp; omega)]
theorem fp_lt1 {x : UInt64} {c : Nat} {q : Int} (h : FP.Core.val64 x = .fin false c q) (h1 : 2 ^ 52 ≤ c) (h2 : c < 2 ^ 53) (hq : q < -52) : FP.dcmp x FP.dconst1 = some .lt := by
  show FP.Core.order (FP.Core.val64 x) (FP.Core.val64 FP.Core.dconst1) = _
  rw [h, FP.Core.val64_dconst1]
  simp only [FP.Core.order, FP.Core.signed, FP.Core.inUnits]
  rw [show (min q (-52)) = q by omega, show (q - q).toNat = 0 by omega, show (-52 - q).toNat = (-53 - q).toNat + 1 by omega, show 2 ^ ((-53 - q).toNat + 1) = 2 ^ (-53 - q).toNat * 2 from Nat.pow_succ 2 _]
  have p := Nat.two_pow_pos (-53 - q).toNat
  generalize 2 ^ (-53 - q).toNat = z at p ⊢
  have e : c * 2 ^ 0 < 2 ^ 52 * (z * 2) := by omega
  generalize c * 2 ^ 0 = u at e ⊢
  generalize 2 ^ 52 * (z * 2) = v at e ⊢
  congr 1
  simp only [compare, compareOfLessAndEq]
  rw [if_pos (by simp; omega)]
theorem fp_ge1 {x : UInt64} {c : Nat} (h : FP.Core.val64 x = .fin false c (-52)) (h1 : 2 ^ 52 ≤ c) : FP.dcmp x FP.dconst1 = some .eq ∨ FP.dcmp x FP.dconst1 = some .gt := by
  have e : FP.dcmp x FP.dconst1 = some (compare (c : Int) ((2 ^ 52 : Nat) : Int)) := by
    show FP.Core.order (FP.Core.val64 x) (FP.Core.val64 FP.Core.dconst1) = _
    rw [h, FP.Core.val64_dconst1]
    simp only [FP.Core.order, FP.Core.signed, FP.Core.inUnits]
    simp
  rw [e]
  simp only [compare, compareOfLessAndEq]
  rw [if_neg (by omega)]
  split
  · exact Or.inl rfl
  · exact Or.inr rfl
/-- what is over 1, times 2^52, as a long -/
theorem fp_frac {x : UInt64} {c : Nat} (h : FP.Core.val64 x = .fin false c (-52)) (h1 : 2 ^ 52 ≤ c) (h2 : c < 2 ^ 53) : FP.Core.val64 (FP.dsub x FP.dconst1) ≠ .nan ∧ FP.Core.val64 (FP.dmul (FP.dsub x FP.dconst1) 4841369599423283200) ≠ .nan ∧ FP.d2l (FP.dmul (FP.dsub x FP.dconst1) 4841369599423283200) = lN (c - 2 ^ 52) := by
  have K : FP.Core.val64 4841369599423283200 = .fin false (2 ^ 52) 0 := by decide +kernel
  have S : FP.Core.val64 (FP.dsub x FP.dconst1) = FP.Core.roundRatio FP.Core.b64 false (c - 2 ^ 52) 1 (-52) := by
    show FP.Core.val64 (FP.Core.dsub x FP.Core.dconst1) = _
    rw [FP.Core.val64_dsub, h, FP.Core.val64_dconst1]
    have hs : FP.Core.sumUnits false c (-52) (!false) (2 ^ 52) (-52) (min (-52) (-52)) = ((c - 2 ^ 52 : Nat) : Int) := by
      simp only [FP.Core.sumUnits, FP.Core.signed, FP.Core.inUnits]
      simp
      omega
    show FP.Core.round FP.Core.b64 (FP.Core.Datum.fin _ _ _) = _
    rw [hs]
    have hg : FP.Core.sumSign false (!false) ((c - 2 ^ 52 : Nat) : Int) = false := by
      unfold FP.Core.sumSign
      split
      · rfl
      · simp
    rw [hg, Int.natAbs_natCast]; rfl
  generalize hd : FP.dsub x FP.dconst1 = y at S
  have M : FP.Core.val64 (FP.dmul y 4841369599423283200) = FP.Core.round FP.Core.b64 (FP.Core.exactProduct (FP.Core.val64 y) (.fin false (2 ^ 52) 0)) := by
    show FP.Core.val64 (FP.Core.dmul y _) = _
    rw [FP.Core.val64_dmul, K]
  rcases Nat.eq_zero_or_pos (c - 2 ^ 52) with ht | ht
  · rw [ht] at S ⊢
    have S2 : FP.Core.val64 y = .fin false 0 FP.Core.b64.qmin := by rw [S]; unfold FP.Core.roundRatio; rw [if_pos rfl]
    have M2 : FP.Core.val64 (FP.dmul y 4841369599423283200) = .fin false 0 FP.Core.b64.qmin := by
      rw [M, S2]
      show FP.Core.roundRatio FP.Core.b64 (false != false) (0 * 2 ^ 52) 1 _ = _
      unfold FP.Core.roundRatio
      rw [if_pos (by simp)]; rfl
    refine ⟨by rw [S2]; simp, by rw [M2]; simp, ?_⟩
    show FP.Core.toL (FP.Core.val64 _) = _
    rw [M2]; decide +kernel
  · have hL : (c - 2 ^ 52).log2 < 52 := (Nat.log2_lt (by omega)).mpr (by omega)
    have l1 : 2 ^ (c - 2 ^ 52).log2 ≤ c - 2 ^ 52 := Nat.log2_self_le (by omega)
    have l2 : c - 2 ^ 52 < 2 ^ ((c - 2 ^ 52).log2 + 1) := Nat.lt_log2_self
    generalize c - 2 ^ 52 = t at S ht hL l1 l2 ⊢
    generalize t.log2 = L at hL l1 l2
    have e1 : 2 ^ L * 2 ^ (52 - L) = 2 ^ 52 := by rw [← Nat.pow_add]; congr 1; omega
    have e2 : 2 ^ (L + 1) * 2 ^ (52 - L) = 2 ^ 53 := by rw [← Nat.pow_add]; congr 1; omega
    have c1 : 2 ^ 52 ≤ t * 2 ^ (52 - L) := by rw [← e1]; exact Nat.mul_le_mul_right _ l1
    have c2 : t * 2 ^ (52 - L) < 2 ^ 53 := by rw [← e2]; exact Nat.mul_lt_mul_of_pos_right l2 (Nat.two_pow_pos _)
    have S2 : FP.Core.val64 y = .fin false (t * 2 ^ (52 - L)) ((L : Int) - 104) := by
      rw [S]
      exact FP.Core.roundRatio_exact FP.Core.good_b64 (by decide) (fp_fits c1 c2 (by omega) (by omega)) (by
        rw [show (-52 - ((L : Int) - 104)).toNat = 52 - L by omega, show (((L : Int) - 104) - -52).toNat = 0 by omega]; simp)
    have M2 : FP.Core.val64 (FP.dmul y 4841369599423283200) = .fin false (t * 2 ^ (52 - L)) ((L : Int) - 52) := by
      rw [M, S2]
      show FP.Core.roundRatio FP.Core.b64 (false != false) (t * 2 ^ (52 - L) * 2 ^ 52) 1 (((L : Int) - 104) + 0) = _
      exact FP.Core.roundRatio_exact FP.Core.good_b64 (by decide) (fp_fits c1 c2 (by omega) (by omega)) (by
        rw [show ((L : Int) - 104 + 0 - ((L : Int) - 52)).toNat = 0 by omega, show (((L : Int) - 52) - ((L : Int) - 104 + 0)).toNat = 52 by omega]; simp)
    refine ⟨by rw [S2]; simp, by rw [M2]; simp, ?_⟩
    show FP.Core.toL (FP.Core.val64 _) = _
    rw [M2]
    have e3 : FP.Core.truncate false (t * 2 ^ (52 - L)) ((L : Int) - 52) = (t : Int) := by
      unfold FP.Core.truncate FP.Core.signed
      rw [show ((L : Int) - 52).toNat = 0 by omega, show (-((L : Int) - 52)).toNat = 52 - L by omega, Nat.pow_zero, Nat.mul_one, Nat.mul_div_cancel _ (Nat.two_pow_pos _)]
      simp
    have e4 : t < 2 ^ 52 := Nat.lt_of_lt_of_le l2 (Nat.pow_le_pow_right (by omega) (by omega))
    unfold FP.Core.toL FP.Core.toInt
    simp only [e3]
    rw [show min ((2 : Int) ^ 63 - 1) (t : Int) = t by omega, show max (-(2 : Int) ^ 63) (t : Int) = t by omega]
    exact wb_inj (by rw [wb_tb]; exact BitVec.ofInt_natCast 64 t)
/-- 0.0, or a share that is not above 1 -/
def SHR (x : UInt64) : Prop := x = FP.dconst0 ∨ ∃ (c j : Nat), FP.Core.val64 x = .fin false c (-52 - j) ∧ 2 ^ 52 ≤ c ∧ c < 2 ^ 53 ∧ j ≤ 1000
theorem fp_i2d (i : Int32) : ∃ (s : Bool) (c : Nat) (q : Int), FP.Core.val64 (FP.i2d i) = .fin s c q ∧ FP.Core.Whole i.toInt (.fin s c q) := by
  have h := FP.Core.whole_round FP.Core.good_b64 FP.Core.wide_b64 (i := i.toInt) (by
    have h1 := Int32.toInt_lt i
    have h2 := Int32.le_toInt i
    show i.toInt.natAbs ≤ 2 ^ 53
    omega) (FP.Core.whole_ofInt i.toInt)
  have e : FP.Core.val64 (FP.i2d i) = FP.Core.round FP.Core.b64 (FP.Core.ofInt i.toInt) := FP.Core.val64_i2d i
  rw [← e] at h
  revert h
  cases FP.Core.val64 (FP.i2d i) with
  | nan => exact fun h => h.elim
  | inf s => exact fun h => h.elim
  | fin s c q => exact fun h => ⟨s, c, q, rfl, h⟩
theorem fp_rr (f : FP.Core.Fmt) (s : Bool) (A B : Nat) (e : Int) : FP.Core.roundRatio f s A B e ≠ .nan := by
  unfold FP.Core.roundRatio
  split
  · simp
  · unfold FP.Core.roundAt FP.Core.settle FP.Core.bound
    split <;> split <;> simp
theorem dv_ok : DV := by
  intro x y hy
  obtain ⟨s, c, q, e1, w1⟩ := fp_i2d x
  obtain ⟨s2, c2, q2, e2, w2⟩ := fp_i2d y
  apply fp_nn
  show FP.Core.val64 (FP.Core.ddiv (FP.i2d x) (FP.i2d y)) ≠ _
  rw [FP.Core.val64_ddiv, e1, e2]
  have hc : ¬ c2 = 0 := by
    rw [FP.Core.whole_zero w2]
    intro h0
    apply hy
    rw [Int32.le_iff_toInt_le, h0]
    decide
  show (if c2 = 0 then _ else _) ≠ _
  rw [if_neg hc]
  exact fp_rr _ _ _ _ _
theorem nn_of {x : UInt64} (h : FP.Core.val64 x ≠ .nan) : NN x := by
  unfold NN
  rw [show FP.dcmp x x = some .eq from FP.Core.dcmp_self h]
  rfl
theorem nn_ok (m : List Int32) (n q : Nat) : NN (evT m n q) := by
  unfold evT evF
  split
  · exact nn_of (by rw [show FP.Core.val64 FP.dconst0 = _ from FP.Core.val64_dconst0]; simp)
  · split
    · rename_i h
      apply nn_of
      generalize hiF _ _ = y at h
      generalize loF _ _ = x
      obtain ⟨s, c, q, e1, w1⟩ := fp_i2d x
      obtain ⟨s2, c2, q2, e2, w2⟩ := fp_i2d y
      show FP.Core.val64 (FP.Core.ddiv (FP.i2d x) (FP.i2d y)) ≠ _
      rw [FP.Core.val64_ddiv, e1, e2]
      have hc : ¬ c2 = 0 := by
        rw [FP.Core.whole_zero w2]
        intro h0
        rw [Int32.lt_iff_toInt_lt, h0] at h
        exact absurd h (by decide)
      show (if c2 = 0 then _ else _) ≠ _
      rw [if_neg hc]
      exact fp_rr _ _ _ _ _
    · exact nn_of (by rw [show FP.Core.val64 FP.dconst0 = _ from FP.Core.val64_dconst0]; simp)
theorem fp_quo {a b : Nat} (hb : 0 < b) (hab : a ≤ b) (hb2 : b ≤ 46340) : FP.Core.val64 (FP.ddiv (FP.i2d (nI a)) (FP.i2d (nI b))) = FP.Core.roundRatio FP.Core.b64 false a b 0 := by
  obtain ⟨s, c, q, e1, w1⟩ := fp_i2d (nI a)
  obtain ⟨s2, c2, q2, e2, w2⟩ := fp_i2d (nI b)
  rw [nI_toInt (by omega)] at w1 w2
  show FP.Core.val64 (FP.Core.ddiv (FP.i2d (nI a)) (FP.i2d (nI b))) = _
  rw [FP.Core.val64_ddiv, e1, e2]
  have hc2 : ¬ c2 = 0 := by rw [FP.Core.whole_zero w2]; omega
  show (if c2 = 0 then _ else _) = _
  rw [if_neg hc2]
  have hs2 : s2 = false := by rw [FP.Core.whole_sign w2 (by omega)]; simp
  have n1 := FP.Core.whole_natAbs w1
  have n2 := FP.Core.whole_natAbs w2
  simp only [Int.natAbs_natCast] at n1 n2
  have hs : (s != s2) = false ∨ a = 0 := by
    rcases Nat.eq_zero_or_pos a with h | h
    · exact Or.inr h
    · refine Or.inl ?_
      rw [hs2, FP.Core.whole_sign w1 (by omega)]; simp
  have hsz : (s != s2) = false := by
    rcases hs with h | h
    · exact h
    · have : FP.Core.val64 (FP.i2d (nI a)) = .fin false 0 FP.Core.b64.qmin := by rw [h]; decide +kernel
      rw [e1] at this
      cases this
      rw [hs2]; rfl
  rw [hsz]
  refine FP.Core.roundRatio_congr (by omega) hb ?_
  have p1 := Nat.two_pow_pos (-q).toNat
  have p2 := Nat.two_pow_pos q2.toNat
  refine Nat.eq_of_mul_eq_mul_right p1 (Nat.eq_of_mul_eq_mul_right p2 ?_)
  have x1 : (q - q2 - 0).toNat + (-q).toNat + q2.toNat = q.toNat + (-q2).toNat + (0 - (q - q2)).toNat := by omega
  calc c * b * 2 ^ (q - q2 - 0).toNat * 2 ^ (-q).toNat * 2 ^ q2.toNat = c * b * 2 ^ ((q - q2 - 0).toNat + (-q).toNat + q2.toNat) := by simp only [Nat.pow_add]; ac_rfl
    _ = (c * 2 ^ q.toNat) * (b * 2 ^ (-q2).toNat) * 2 ^ (0 - (q - q2)).toNat := by rw [x1]; simp only [Nat.pow_add]; ac_rfl
    _ = (a * 2 ^ (-q).toNat) * (c2 * 2 ^ q2.toNat) * 2 ^ (0 - (q - q2)).toNat := by rw [n1, n2]
    _ = a * c2 * 2 ^ (0 - (q - q2)).toNat * 2 ^ (-q).toNat * 2 ^ q2.toNat := by ac_rfl
theorem fp_share {a b : Nat} (ha : 0 < a) (hab : a ≤ b) (hb2 : b ≤ 46340) : ∃ (c j : Nat), FP.Core.roundRatio FP.Core.b64 false a b 0 = .fin false c (-52 - j) ∧ 2 ^ 52 ≤ c ∧ c < 2 ^ 53 ∧ j ≤ 1000 := by
  rcases Nat.lt_or_ge a b with h | h
  · have L := FP.Core.leading_spec (A := a) (B := b) ha (by omega)
    have u1 : FP.Core.leading a b ≤ -1 := by
      have hb : FP.Core.Below a b 0 := by unfold FP.Core.Below; simpa using h
      have := FP.Core.lt_of_below L.1 hb
      omega
    have u2 : -16 ≤ FP.Core.leading a b := by
      have hb : ¬ FP.Core.Below a b (-16) := by unfold FP.Core.Below; simp; omega
      have := FP.Core.lt_of_below hb L.2
      omega
    have hq : FP.Core.quantum FP.Core.b64 a b 0 = FP.Core.leading a b - 52 := by
      unfold FP.Core.quantum
      rw [show FP.Core.b64.qmin = -1074 from by decide, show (FP.Core.b64.p : Int) = 53 from rfl]
      omega
    have le := FP.Core.nearest_units_le (f := FP.Core.b64) (A := a) (B := b) ha (by omega) 0
    have ge : 2 ^ 52 ≤ FP.Core.nearest (FP.Core.unitsNum a 0 (FP.Core.quantum FP.Core.b64 a b 0)) (FP.Core.unitsDen b 0 (FP.Core.quantum FP.Core.b64 a b 0)) := by
      refine FP.Core.nearest_ge (FP.Core.unitsDen_pos (by omega) _ _) ?_
      rcases FP.Core.quantum_not_below (f := FP.Core.b64) ha (show 0 < b by omega) 0 with h2 | h2
      · rw [hq, show FP.Core.b64.qmin = -1074 from by decide] at h2; omega
      · rw [show (FP.Core.b64.p : Int) - 1 = ((52 : Nat) : Int) from rfl, ← FP.Core.units_below] at h2
        exact Nat.le_of_not_lt h2
    unfold FP.Core.roundRatio
    rw [if_neg (by omega)]
    unfold FP.Core.roundAt
    rw [hq] at le ge ⊢
    generalize FP.Core.nearest _ _ = k at le ge ⊢
    generalize FP.Core.leading a b = l at u1 u2
    have e3 : FP.Core.b64.qmax = 971 := by decide
    unfold FP.Core.settle FP.Core.bound
    rw [e3]
    by_cases hk : k < 2 ^ FP.Core.b64.p
    · rw [if_pos hk, if_pos (by omega)]
      exact ⟨k, (-l).toNat, by rw [show (-52 : Int) - (((-l).toNat : Nat) : Int) = l - 52 by omega], ge, hk, by omega⟩
    · rw [if_neg hk, if_pos (by omega)]
      exact ⟨2 ^ 52, (-l - 1).toNat, by rw [show (-52 : Int) - (((-l - 1).toNat : Nat) : Int) = l - 52 + 1 by omega]; rfl, Nat.le_refl _, by decide, by omega⟩
  · have : a = b := by omega
    subst this
    refine ⟨2 ^ 52, 0, ?_, Nat.le_refl _, by decide, by omega⟩
    exact FP.Core.roundRatio_exact FP.Core.good_b64 ha (fp_fits (Nat.le_refl _) (by decide) (by omega) (by omega)) (by simp [Nat.mul_comm])
theorem lo_le {ς : Nat → Int32} : ∀ k, loF ς k ≤ ς 0
  | 0 => Int32.le_refl _
  | k + 1 => by
    simp only [loF]
    split
    · rename_i h; exact Int32.le_trans (Int32.le_of_lt h) (lo_le k)
    · exact lo_le k
theorem hi_ge {ς : Nat → Int32} : ∀ k, ς 0 ≤ hiF ς k
  | 0 => Int32.le_refl _
  | k + 1 => by
    simp only [hiF]
    split
    · rename_i h; exact Int32.le_trans (hi_ge k) (Int32.le_of_lt h)
    · exact hi_ge k
theorem lo_bd {ς : Nat → Int32} : ∀ {k : Nat}, (∀ i, i ≤ k → ∃ z, z ≤ 46340 ∧ ς i = nI z) → ∃ z, z ≤ 46340 ∧ loF ς k = nI z
  | 0, h => h 0 (Nat.le_refl 0)
  | k + 1, h => by
    simp only [loF]
    split
    · exact h (k + 1) (Nat.le_refl _)
    · exact lo_bd (fun i hi => h i (by omega))
theorem shr_ok {m : List Int32} {n q r : Nat} (V : VM m n q r) : SHR (evT m n q) := by
  unfold evT evF
  split
  · exact Or.inl rfl
  · rename_i htr
    split
    · rename_i hh
      have B := sp_bd9 V htr
      obtain ⟨z1, b1, e1⟩ := lo_bd B
      obtain ⟨z2, b2, e2⟩ := hi_bd B
      have hle := Int32.le_trans (lo_le (ς := spT m n q (-1) (meF m q)) (n - 1)) (hi_ge (n - 1))
      rw [e1, e2] at hle
      rw [e2] at hh
      rw [e1, e2]
      have hz : z1 ≤ z2 := by
        rw [Int32.le_iff_toInt_le, nI_toInt (by omega), nI_toInt (by omega)] at hle; omega
      have hz2 : 0 < z2 := by
        rcases Nat.eq_zero_or_pos z2 with e | e
        · rw [e] at hh; exact absurd hh (by decide)
        · exact e
      have Q := fp_quo hz2 hz b2
      rcases Nat.eq_zero_or_pos z1 with e | e
      · left
        rw [e] at Q ⊢
        refine FP.Core.val64_inj (by rw [Q]; exact fp_rr _ _ _ _ _) ?_
        rw [Q, show FP.Core.val64 FP.dconst0 = _ from FP.Core.val64_dconst0]
        unfold FP.Core.roundRatio
        rw [if_pos rfl]
      · right
        obtain ⟨c, j, h1, h2, h3, h4⟩ := fp_share e hz b2
        exact ⟨c, j, Q.trans h1, h2, h3, h4⟩
    · exact Or.inl rfl
theorem shr_end {x : UInt64} {c j : Nat} (h : FP.Core.val64 x = .fin false c (-52 - j)) (h1 : 2 ^ 52 ≤ c) (h2 : c < 2 ^ 53) (hj : j ≤ 1000) : lN (1023 - j) <<< ((nI 52).toInt64 &&& 63) + lN (c - 2 ^ 52) = x.toInt64 := by
  have hb := fp_bits h h1 h2 (by omega) (by omega)
  rw [wb_shl _ (by omega), lN_add]
  rw [show ((-52 : Int) - (j : Int) + 1075).toNat = 1023 - j by omega] at hb
  rw [← hb]
  apply wb_inj
  rw [wb_tb]
  apply BitVec.eq_of_toNat_eq
  rw [BitVec.toNat_ofNat, Nat.mod_eq_of_lt x.toNat_lt]
  rfl
set_option maxHeartbeats 4000000 in
set_option maxRecDepth 100000 in
theorem ct_X0_bitsOfShare (g : AG) (d : Nat) (σ : AS) (x : UInt64) (hx : SHR x) : CT g yX0_bitsOfShare mX0_bitsOfShare (d + 0) 0 0 [.double x] σ (rX (some (.long (x.toInt64))) σ) := by
  refine ct_of (by decide) rfl (by decide) (Nat.le_of_ble_eq_true rfl) (fun _ _ h => nomatch h.1) (L := [(0, .double x)]) rfl ?_
  rcases hx with rfl | ⟨c, J, hc, h1, h2, hJ⟩
  · refine aw_dload_n (i := 0) dX0_bitsOfShare_0 rfl rfl ?_
    refine aw_dconst0 dX0_bitsOfShare_1 ?_
    refine aw_dcmp dX0_bitsOfShare_2 ?_
    refine aw_if_gt (tgt := 8) dX0_bitsOfShare_3 (by decide) (fun c_1 => ?_) (fun c_1 => ?_)
    · exact absurd c_1 (by decide +kernel)
    · refine aw_lconst (v := 0) dX0_bitsOfShare_6 rfl ?_
      exact aw_lreturn dX0_bitsOfShare_7 rfl (rX_l (by decide +kernel) (rfl))
  · refine aw_dload_n (i := 0) dX0_bitsOfShare_0 rfl rfl ?_
    refine aw_dconst0 dX0_bitsOfShare_1 ?_
    refine aw_dcmp dX0_bitsOfShare_2 ?_
    refine aw_if_gt (tgt := 8) dX0_bitsOfShare_3 (by decide) (fun c_2 => ?_) (fun c_2 => ?_)
    · refine aw_dload_n (i := 0) dX0_bitsOfShare_8 rfl rfl ?_
      refine aw_dstore_n (L' := [(2, .double x), (0, .double x)]) dX0_bitsOfShare_9 rfl (Nat.le_of_ble_eq_true rfl) rfl ?_
      refine aw_ldc2 (v := 1023) dX0_bitsOfShare_10 rfl wq_X0_7 ?_
      refine aw_lstore (L' := [(4, .long 1023), (2, .double x), (0, .double x)]) dX0_bitsOfShare_13 (Nat.le_of_ble_eq_true rfl) rfl ?_
      refine aw_iconst (v := 0) dX0_bitsOfShare_15 rfl ?_
      refine aw_istore (L' := [(6, .int 0), (4, .long 1023), (2, .double x), (0, .double x)]) dX0_bitsOfShare_16 (Nat.le_of_ble_eq_true rfl) rfl ?_
      have LOOP : ∀ (t j : Nat) (z : UInt64), j + t = J → FP.Core.val64 z = .fin false c (-52 - t) → AW g mX0_bitsOfShare (d + 0) 18 [(6, .int (nI j)), (4, .long (lN (1023 - j))), (2, .double z), (0, .double x)] [] σ 0 0 (rX (some (.long (x.toInt64))) σ) := by
        intro t
        induction t with
        | zero =>
          intro j z hj hz
          have hz2 : FP.Core.val64 z = .fin false c (-52) := hz
          obtain ⟨k1, k2, k3⟩ := fp_frac hz2 h1 h2
          refine aw_iload (i := 0) dX0_bitsOfShare_18 rfl ?_
          refine aw_sipush (v := 1022) dX0_bitsOfShare_20 rfl ?_
          refine aw_icmp_ge (tgt := 50) dX0_bitsOfShare_23 (by decide) (fun c_3 => ?_) (fun c_3 => ?_)
          · exact absurd (show nI 1022 ≤ nI j from c_3) (nI_ge (by omega) (by omega))
          · refine aw_dload_n (i := 2) dX0_bitsOfShare_26 rfl rfl ?_
            refine aw_dconst1 dX0_bitsOfShare_27 ?_
            refine aw_dcmp dX0_bitsOfShare_28 ?_
            refine aw_if_ge (tgt := 50) dX0_bitsOfShare_29 (by decide) (fun c_4 => ?_) (fun c_4 => ?_)
            · refine aw_dload_n (i := 2) dX0_bitsOfShare_50 rfl rfl ?_
              refine aw_dconst1 dX0_bitsOfShare_51 ?_
              refine aw_dsub dX0_bitsOfShare_52 (fp_nn k1) ?_
              refine aw_ldc2d (v := 4841369599423283200) dX0_bitsOfShare_53 rfl wq_X0_11 ?_
              refine aw_dmul dX0_bitsOfShare_56 (fp_nn k2) ?_
              refine aw_d2l dX0_bitsOfShare_57 ?_
              refine aw_lstore (L' := [(6, .long (FP.d2l (FP.dmul (FP.dsub z FP.dconst1) 4841369599423283200))), (4, .long (lN (1023 - j))), (2, .double z), (0, .double x)]) dX0_bitsOfShare_58 (Nat.le_of_ble_eq_true rfl) rfl ?_
              refine aw_lload (i := 1) dX0_bitsOfShare_60 rfl ?_
              refine aw_bipush (v := 52) dX0_bitsOfShare_62 rfl ?_
              refine aw_S (st' := [.int (nI 52), .long (lN (1023 - j))]) rfl ?_
              refine aw_lshl dX0_bitsOfShare_64 ?_
              refine aw_lload (i := 0) dX0_bitsOfShare_65 rfl ?_
              refine aw_ladd dX0_bitsOfShare_67 ?_
              exact aw_lreturn dX0_bitsOfShare_68 rfl (rX_l (by rw [k3, show j = J by omega]; exact shr_end hc h1 h2 hJ) (rfl))
            · exact absurd (show 0 ≤ Op.cmpValue (FP.dcmp z FP.dconst1) .g from by rcases fp_ge1 hz2 h1 with e | e <;> rw [e] <;> decide) c_4
        | succ t ih =>
          intro j z hj hz
          have hd := fp_dbl hz h1 h2 (by omega) (by omega)
          rw [show (-52 : Int) - ((t + 1 : Nat) : Int) + 1 = -52 - (t : Int) by omega] at hd
          refine aw_iload (i := 0) dX0_bitsOfShare_18 rfl ?_
          refine aw_sipush (v := 1022) dX0_bitsOfShare_20 rfl ?_
          refine aw_icmp_ge (tgt := 50) dX0_bitsOfShare_23 (by decide) (fun c_5 => ?_) (fun c_5 => ?_)
          · exact absurd (show nI 1022 ≤ nI j from c_5) (nI_ge (by omega) (by omega))
          · refine aw_dload_n (i := 2) dX0_bitsOfShare_26 rfl rfl ?_
            refine aw_dconst1 dX0_bitsOfShare_27 ?_
            refine aw_dcmp dX0_bitsOfShare_28 ?_
            refine aw_if_ge (tgt := 50) dX0_bitsOfShare_29 (by decide) (fun c_6 => ?_) (fun c_6 => ?_)
            · exact absurd c_6 (show ¬ 0 ≤ Op.cmpValue (FP.dcmp z FP.dconst1) .g from by rw [fp_lt1 hz h1 h2 (by omega)]; decide)
            · refine aw_dload_n (i := 2) dX0_bitsOfShare_32 rfl rfl ?_
              refine aw_ldc2d (v := 4611686018427387904) dX0_bitsOfShare_33 rfl wq_X0_9 ?_
              refine aw_dmul dX0_bitsOfShare_36 (fp_nn (by rw [hd]; simp)) ?_
              refine aw_dstore_n (L' := [(2, .double (FP.dmul z 4611686018427387904)), (6, .int (nI j)), (4, .long (lN (1023 - j))), (0, .double x)]) dX0_bitsOfShare_37 rfl (Nat.le_of_ble_eq_true rfl) rfl ?_
              refine aw_lload (i := 2) dX0_bitsOfShare_38 rfl ?_
              refine aw_lconst (v := 1) dX0_bitsOfShare_40 rfl ?_
              refine aw_lsub dX0_bitsOfShare_41 ?_
              refine aw_lstore (L' := [(4, .long ((lN (1023 - j)) - 1)), (2, .double (FP.dmul z 4611686018427387904)), (6, .int (nI j)), (0, .double x)]) dX0_bitsOfShare_42 (Nat.le_of_ble_eq_true rfl) rfl ?_
              refine aw_iinc (i := 2) (v := (nI j) + 1) (L' := [(6, .int ((nI j) + 1)), (4, .long ((lN (1023 - j)) - 1)), (2, .double (FP.dmul z 4611686018427387904)), (0, .double x)]) dX0_bitsOfShare_44 rfl rfl (Nat.le_of_ble_eq_true rfl) rfl ?_
              refine aw_goto (tgt := 18) dX0_bitsOfShare_47 (by decide) ?_
              refine aw_sub (L' := [(6, .int (nI j + 1)), (4, .long (lN (1023 - j) - 1)), (2, .double (FP.dmul z 4611686018427387904)), (0, .double x)]) [0, 1, 2, 3] rfl ?_
              refine aw_L (L' := [(6, .int (nI (j + 1))), (4, .long (lN (1023 - j - 1))), (2, .double (FP.dmul z 4611686018427387904)), (0, .double x)]) (by rw [nI_1, show (1 : Int64) = lN 1 from rfl, lN_sub (by omega)]) ?_
              exact ih (j + 1) _ (by omega) hd
      refine aw_sub (L' := [(6, .int 0), (4, .long 1023), (2, .double x), (0, .double x)]) [0, 1, 2, 3] rfl ?_
      refine aw_L (L' := [(6, .int (nI 0)), (4, .long (lN (1023 - 0))), (2, .double x), (0, .double x)]) rfl ?_
      exact LOOP J 0 x (by omega) hc
    · exact absurd (show 0 < Op.cmpValue (FP.dcmp x FP.dconst0) .g from by rw [fp_cmp0 hc h1]; decide) c_2
