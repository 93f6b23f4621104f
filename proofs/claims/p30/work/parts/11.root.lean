theorem root_step {r n k : Nat} (h1 : r * r ≤ n) (h2 : n < (r + 2 ^ (k + 1)) * (r + 2 ^ (k + 1))) : (r + 2 ^ k) * (r + 2 ^ k) ≤ n → (r + 2 ^ k) * (r + 2 ^ k) ≤ n ∧ n < (r + 2 ^ k + 2 ^ k) * (r + 2 ^ k + 2 ^ k) := by
  intro h
  refine ⟨h, ?_⟩
  rw [show r + 2 ^ k + 2 ^ k = r + 2 ^ (k + 1) by rw [Nat.pow_succ]; omega]
  exact h2
theorem lN_i2l {n : Nat} (h : n < 2 ^ 31) : (nI n).toInt64 = lN n := nI_l h
theorem lN_neg_lt {v : Int32} {n : Nat} (hv : v < 0) (hn : n < 2 ^ 63) : v.toInt64 < lN n := by
  have e1 : v.toInt64.toInt = v.toInt := Int32.toInt_toInt64 v
  rw [Int64.lt_iff_toInt_lt, e1, pk_lT hn]
  have := Int32.lt_iff_toInt_lt.mp hv
  simp at this
  omega
theorem start_I (v : Int32) : ((v < 0 ∧ (0 : Nat) = 0) ∨ ∃ q, q < 2 ^ 31 ∧ v = nI q ∧ 0 * 0 ≤ q ∧ q < (0 + 2 ^ 16) * (0 + 2 ^ 16)) := by
  by_cases h : v < 0
  · exact Or.inl ⟨h, rfl⟩
  · obtain ⟨q, hq, rfl⟩ := nI_of h
    exact Or.inr ⟨q, hq, rfl, by omega, by omega⟩
theorem root_end {v : Int32} {r : Nat} (hr : r + 2 ^ 0 ≤ 65536) (hI : ((v < 0 ∧ r = 0) ∨ ∃ q, q < 2 ^ 31 ∧ v = nI q ∧ r * r ≤ q ∧ q < (r + 2 ^ 0) * (r + 2 ^ 0))) : rootF v = nI r := by
  rcases hI with ⟨h, rfl⟩ | ⟨q, hq, rfl, h1, h2⟩
  · rw [rootF_neg h]; rfl
  · rw [rootF_nI hq, rootN_is h1 h2]
theorem sq63 {a : Nat} (h : a ≤ 65536) : a * a < 2 ^ 63 := by
  have := sq_mono h
  omega
theorem took_I {v : Int32} {r n : Nat} (hc : ¬ 0 < lg_cmp (lN (r + 2 ^ n) * lN (r + 2 ^ n)) v.toInt64) (hr : r + 2 ^ (n + 1) ≤ 65536) (hI : ((v < 0 ∧ r = 0) ∨ ∃ q, q < 2 ^ 31 ∧ v = nI q ∧ r * r ≤ q ∧ q < (r + 2 ^ (n + 1)) * (r + 2 ^ (n + 1)))) : ((v < 0 ∧ r + 2 ^ n = 0) ∨ ∃ q, q < 2 ^ 31 ∧ v = nI q ∧ (r + 2 ^ n) * (r + 2 ^ n) ≤ q ∧ q < (r + 2 ^ n + 2 ^ n) * (r + 2 ^ n + 2 ^ n)) := by
  have hs : r + 2 ^ n ≤ 65536 := by rw [Nat.pow_succ] at hr; omega
  rw [lN_mul, lg_cmp_gt] at hc
  rcases hI with ⟨h, rfl⟩ | ⟨q, hq, rfl, h1, h2⟩
  · exact absurd (lN_neg_lt h (sq63 hs)) hc
  · rw [lN_i2l hq, pk_lLT (by omega) (sq63 hs)] at hc
    obtain ⟨a, b⟩ := root_step h1 h2 (by omega)
    exact Or.inr ⟨q, hq, rfl, a, b⟩
theorem skip_I {v : Int32} {r n : Nat} (hc : 0 < lg_cmp (lN (r + 2 ^ n) * lN (r + 2 ^ n)) v.toInt64) (hr : r + 2 ^ (n + 1) ≤ 65536) (hI : ((v < 0 ∧ r = 0) ∨ ∃ q, q < 2 ^ 31 ∧ v = nI q ∧ r * r ≤ q ∧ q < (r + 2 ^ (n + 1)) * (r + 2 ^ (n + 1)))) : ((v < 0 ∧ r = 0) ∨ ∃ q, q < 2 ^ 31 ∧ v = nI q ∧ r * r ≤ q ∧ q < (r + 2 ^ n) * (r + 2 ^ n)) := by
  have hs : r + 2 ^ n ≤ 65536 := by rw [Nat.pow_succ] at hr; omega
  rw [lN_mul, lg_cmp_gt] at hc
  rcases hI with ⟨h, rfl⟩ | ⟨q, hq, rfl, h1, h2⟩
  · exact Or.inl ⟨h, rfl⟩
  · rw [lN_i2l hq, pk_lLT (by omega) (sq63 hs)] at hc
    exact Or.inr ⟨q, hq, rfl, h1, hc⟩
set_option maxHeartbeats 4000000 in
set_option maxRecDepth 100000 in
theorem ct_X0_wholeRoot (g : AG) (d : Nat) (σ : AS) (v : Int32) : CT g yX0_wholeRoot mX0_wholeRoot (d + 0) 0 0 [.int v] σ (rX (some (.int (rootF v))) σ) := by
  refine ct_of (by decide) rfl (by decide) (Nat.le_of_ble_eq_true rfl) (fun _ _ h => nomatch h.1) (L := [(0, .int v)]) rfl ?_
  refine aw_lconst (v := 0) dX0_wholeRoot_0 rfl ?_
  refine aw_lstore_n (L' := [(1, .long 0), (0, .int v)]) dX0_wholeRoot_1 rfl (Nat.le_of_ble_eq_true rfl) rfl ?_
  refine aw_bipush (v := 15) dX0_wholeRoot_2 rfl ?_
  refine aw_istore_n (L' := [(3, .int 15), (1, .long 0), (0, .int v)]) dX0_wholeRoot_4 rfl (Nat.le_of_ble_eq_true rfl) rfl ?_
  have LOOP : ∀ (n : Nat) (B : Int32) (r : Nat), (∀ j, n = j + 1 → B = nI j) → (n = 0 → B = -1) → r + 2 ^ n ≤ 65536 → ((v < 0 ∧ r = 0) ∨ ∃ q, q < 2 ^ 31 ∧ v = nI q ∧ r * r ≤ q ∧ q < (r + 2 ^ n) * (r + 2 ^ n)) → AW g mX0_wholeRoot (d + 0) 5 [(3, .int B), (1, .long (lN r)), (0, .int v)] [] σ 0 0 (rX (some (.int (rootF v))) σ) := by
    intro n
    induction n with
    | zero =>
      intro B r hB hB0 hr hI
      rw [hB0 rfl]
      refine aw_iload_n (i := 0) dX0_wholeRoot_5 rfl rfl ?_
      refine aw_if_lt (tgt := 36) dX0_wholeRoot_6 (by decide) (fun c_1 => ?_) (fun c_1 => ?_)
      · refine aw_lload_n (i := 1) dX0_wholeRoot_36 rfl rfl ?_
        refine aw_l2i dX0_wholeRoot_37 ?_
        exact aw_ireturn dX0_wholeRoot_38 rfl rfl (rX_i (by rw [lN_i]; exact (root_end (by omega) hI).symm) (rfl))
      · exact absurd (by decide) c_1
    | succ n ih =>
      intro B r hB hB0 hr hI
      rw [hB n rfl]
      have hn16 : n < 16 := by
        rcases Nat.lt_or_ge n 16 with h | h
        · exact h
        · exact absurd hr (by have := Nat.pow_le_pow_right (show 1 ≤ 2 by omega) (show 17 ≤ n + 1 by omega); omega)
      refine aw_iload_n (i := 0) dX0_wholeRoot_5 rfl rfl ?_
      refine aw_if_lt (tgt := 36) dX0_wholeRoot_6 (by decide) (fun c_2 => ?_) (fun c_2 => ?_)
      · exact absurd c_2 (nI_pos (by omega))
      · refine aw_lload_n (i := 1) dX0_wholeRoot_9 rfl rfl ?_
        refine aw_lconst (v := 1) dX0_wholeRoot_10 rfl ?_
        refine aw_iload_n (i := 0) dX0_wholeRoot_11 rfl rfl ?_
        refine aw_lshl dX0_wholeRoot_12 ?_
        refine aw_ladd dX0_wholeRoot_13 ?_
        refine aw_S (st' := [.long (lN (r + 2 ^ n))]) (by rw [show (1 : Int64) = lN 1 from rfl, wb_shl 1 (by omega), lN_add, Nat.one_mul]) ?_
        refine aw_lstore (L' := [(4, .long (lN (r + 2 ^ n))), (3, .int (nI n)), (1, .long (lN r)), (0, .int v)]) dX0_wholeRoot_14 (Nat.le_of_ble_eq_true rfl) rfl ?_
        refine aw_lload (i := 0) dX0_wholeRoot_16 rfl ?_
        refine aw_lload (i := 0) dX0_wholeRoot_18 rfl ?_
        refine aw_lmul dX0_wholeRoot_20 ?_
        refine aw_iload_n (i := 3) dX0_wholeRoot_21 rfl rfl ?_
        refine aw_i2l dX0_wholeRoot_22 ?_
        refine aw_lcmp dX0_wholeRoot_23 ?_
        refine aw_if_gt (tgt := 30) dX0_wholeRoot_24 (by decide) (fun c_3 => ?_) (fun c_3 => ?_)
        · refine aw_sub (L' := [(3, .int (nI n)), (1, .long (lN r)), (0, .int v)]) [1, 2, 3] rfl ?_
          refine aw_iinc (i := 0) (v := nI n + (-1)) (L' := [(3, .int (nI n + (-1))), (1, .long (lN r)), (0, .int v)]) dX0_wholeRoot_30 rfl rfl (Nat.le_of_ble_eq_true rfl) rfl ?_
          refine aw_goto (tgt := 5) dX0_wholeRoot_33 (by decide) ?_
          exact ih _ r (fun j hj => by rw [hj]; exact pk_m1 j) (fun h0 => by rw [h0]; rfl) (by rw [Nat.pow_succ] at hr; omega) (skip_I c_3 hr hI)
        · refine aw_lload (i := 0) dX0_wholeRoot_27 rfl ?_
          refine aw_lstore_n (L' := [(1, .long (lN (r + 2 ^ n))), (4, .long (lN (r + 2 ^ n))), (3, .int (nI n)), (0, .int v)]) dX0_wholeRoot_29 rfl (Nat.le_of_ble_eq_true rfl) rfl ?_
          refine aw_sub (L' := [(3, .int (nI n)), (1, .long (lN (r + 2 ^ n))), (0, .int v)]) [2, 0, 3] rfl ?_
          refine aw_iinc (i := 0) (v := nI n + (-1)) (L' := [(3, .int (nI n + (-1))), (1, .long (lN (r + 2 ^ n))), (0, .int v)]) dX0_wholeRoot_30 rfl rfl (Nat.le_of_ble_eq_true rfl) rfl ?_
          refine aw_goto (tgt := 5) dX0_wholeRoot_33 (by decide) ?_
          exact ih _ (r + 2 ^ n) (fun j hj => by rw [hj]; exact pk_m1 j) (fun h0 => by rw [h0]; rfl) (by rw [Nat.pow_succ] at hr; omega) (took_I c_3 hr hI)
  refine aw_L (L' := [(3, .int 15), (1, .long (lN 0)), (0, .int v)]) rfl ?_
  exact LOOP 16 15 0 (fun j hj => by rw [show j = 15 by omega]; rfl) (fun h => by omega) (by omega) (start_I v)
