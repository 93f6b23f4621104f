/-! THE SHARE: between 0.0 and 1.0 -/
theorem fp_shar2 {a b : Nat} (ha : 0 < a) (hab : a ≤ b) (hb2 : b ≤ 46340) : ∃ (c j : Nat), FP.Core.roundRatio FP.Core.b64 false a b 0 = .fin false c (-52 - j) ∧ 2 ^ 52 ≤ c ∧ c < 2 ^ 53 ∧ j ≤ 1000 ∧ (j = 0 → c = 2 ^ 52) := by
  rcases Nat.lt_or_ge a b with h | h
  · have L := FP.Core.leading_spec (A := a) (B := b) ha (by omega)
    have u1 : FP.Core.leading a b ≤ -1 := by
      have hb : FP.Core.Below a b 0 := by unfold FP.Core.Below; simpa using h
      have := FP.Core.lt_of_below L.1 hb
      omega
    have u2 : -16 ≤ FP.Core.leading a b := by
      have hb : ¬ FP.Core.Below a b (-16) := by unfold FP.Core.Below; simp; omega
      have := FP.Core.lt_of_below hb L.2
      omega
    have hq : FP.Core.quantum FP.Core.b64 a b 0 = FP.Core.leading a b - 52 := by
      unfold FP.Core.quantum
      rw [show FP.Core.b64.qmin = -1074 from by decide, show (FP.Core.b64.p : Int) = 53 from rfl]
      omega
    have le := FP.Core.nearest_units_le (f := FP.Core.b64) (A := a) (B := b) ha (by omega) 0
    have ge : 2 ^ 52 ≤ FP.Core.nearest (FP.Core.unitsNum a 0 (FP.Core.quantum FP.Core.b64 a b 0)) (FP.Core.unitsDen b 0 (FP.Core.quantum FP.Core.b64 a b 0)) := by
      refine FP.Core.nearest_ge (FP.Core.unitsDen_pos (by omega) _ _) ?_
      rcases FP.Core.quantum_not_below (f := FP.Core.b64) ha (show 0 < b by omega) 0 with h2 | h2
      · rw [hq, show FP.Core.b64.qmin = -1074 from by decide] at h2; omega
      · rw [show (FP.Core.b64.p : Int) - 1 = ((52 : Nat) : Int) from rfl, ← FP.Core.units_below] at h2
        exact Nat.le_of_not_lt h2
    unfold FP.Core.roundRatio
    rw [if_neg (by omega)]
    unfold FP.Core.roundAt
    rw [hq] at le ge ⊢
    generalize FP.Core.nearest _ _ = k at le ge ⊢
    generalize FP.Core.leading a b = l at u1 u2
    have e3 : FP.Core.b64.qmax = 971 := by decide
    unfold FP.Core.settle FP.Core.bound
    rw [e3]
    by_cases hk : k < 2 ^ FP.Core.b64.p
    · rw [if_pos hk, if_pos (by omega)]
      exact ⟨k, (-l).toNat, by rw [show (-52 : Int) - (((-l).toNat : Nat) : Int) = l - 52 by omega], ge, hk, by omega, fun e => by omega⟩
    · rw [if_neg hk, if_pos (by omega)]
      exact ⟨2 ^ 52, (-l - 1).toNat, by rw [show (-52 : Int) - (((-l - 1).toNat : Nat) : Int) = l - 52 + 1 by omega]; rfl, Nat.le_refl _, by decide, by omega, fun _ => rfl⟩
  · have : a = b := by omega
    subst this
    refine ⟨2 ^ 52, 0, ?_, Nat.le_refl _, by decide, by omega, fun _ => rfl⟩
    exact FP.Core.roundRatio_exact FP.Core.good_b64 ha (fp_fits (Nat.le_refl _) (by decide) (by omega) (by omega)) (by simp [Nat.mul_comm])
def SHR2 (x : UInt64) : Prop := x = FP.dconst0 ∨ ∃ (c j : Nat), FP.Core.val64 x = .fin false c (-52 - j) ∧ 2 ^ 52 ≤ c ∧ c < 2 ^ 53 ∧ j ≤ 1000 ∧ (j = 0 → c = 2 ^ 52)
theorem shr_ok2 {m : List Int32} {n q r : Nat} (V : VM m n q r) : SHR2 (evT m n q) := by
  unfold evT evF
  split
  · exact Or.inl rfl
  · rename_i htr
    split
    · rename_i hh
      have B := sp_bd9 V htr
      obtain ⟨z1, b1, e1⟩ := lo_bd B
      obtain ⟨z2, b2, e2⟩ := hi_bd B
      have hle := Int32.le_trans (lo_le (ς := spT m n q (-1) (meF m q)) (n - 1)) (hi_ge (n - 1))
      rw [e1, e2] at hle
      rw [e2] at hh
      rw [e1, e2]
      have hz : z1 ≤ z2 := by
        rw [Int32.le_iff_toInt_le, nI_toInt (by omega), nI_toInt (by omega)] at hle; omega
      have hz2 : 0 < z2 := by
        rcases Nat.eq_zero_or_pos z2 with e | e
        · rw [e] at hh; exact absurd hh (by decide)
        · exact e
      have Q := fp_quo hz2 hz b2
      rcases Nat.eq_zero_or_pos z1 with e | e
      · left
        rw [e] at Q ⊢
        refine FP.Core.val64_inj (by rw [Q]; exact fp_rr _ _ _ _ _) ?_
        rw [Q, show FP.Core.val64 FP.dconst0 = _ from FP.Core.val64_dconst0]
        unfold FP.Core.roundRatio
        rw [if_pos rfl]
      · right
        obtain ⟨c, j, h1, h2, h3, h4, h5⟩ := fp_shar2 e hz b2
        exact ⟨c, j, Q.trans h1, h2, h3, h4, h5⟩
    · exact Or.inl rfl
theorem ev_lo {x : UInt64} (h : SHR2 x) : ¬ Op.cmpValue (FP.dcmp x FP.dconst0) .l < 0 := by
  rcases h with rfl | ⟨c, j, h1, h2, -⟩
  · decide +kernel
  · rw [fp_cmp0 h1 h2]; decide
theorem ev_hi {x : UInt64} (h : SHR2 x) : ¬ 0 < Op.cmpValue (FP.dcmp x FP.dconst1) .g := by
  rcases h with rfl | ⟨c, j, h1, h2, h3, h4, h5⟩
  · decide +kernel
  · rcases Nat.eq_zero_or_pos j with e | e
    · have e2 := h5 e
      subst e; subst e2
      have q : FP.dcmp x FP.dconst1 = some .eq := by
        show FP.Core.order (FP.Core.val64 x) (FP.Core.val64 FP.Core.dconst1) = _
        rw [h1, FP.Core.val64_dconst1]
        decide
      rw [q]; decide
    · rw [fp_lt1 h1 h2 h3 (by omega)]; decide
