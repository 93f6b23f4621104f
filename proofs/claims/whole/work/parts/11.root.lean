theorem root_step {r n k : Nat} (h1 : r * r ≤ n) (h2 : n < (r + 2 ^ (k + 1)) * (r + 2 ^ (k + 1))) : (r + 2 ^ k) * (r + 2 ^ k) ≤ n → (r + 2 ^ k) * (r + 2 ^ k) ≤ n ∧ n < (r + 2 ^ k + 2 ^ k) * (r + 2 ^ k + 2 ^ k) := by
  intro h
  refine ⟨h, ?_⟩
  rw [show r + 2 ^ k + 2 ^ k = r + 2 ^ (k + 1) by rw [Nat.pow_succ]; omega]
  exact h2
theorem lN_i2l {n : Nat} (h : n < 2 ^ 31) : (nI n).toInt64 = lN n := nI_l h
theorem lN_neg_lt {v : Int32} {n : Nat} (hv : v < 0) (hn : n < 2 ^ 63) : v.toInt64 < lN n := by
  have e1 : v.toInt64.toInt = v.toInt := Int32.toInt_toInt64 v
  rw [Int64.lt_iff_toInt_lt, e1, pk_lT hn]
  have := Int32.lt_iff_toInt_lt.mp hv
  simp at this
  omega
theorem start_I (v : Int32) : ((v < 0 ∧ (0 : Nat) = 0) ∨ ∃ q, q < 2 ^ 31 ∧ v = nI q ∧ 0 * 0 ≤ q ∧ q < (0 + 2 ^ 16) * (0 + 2 ^ 16)) := by
  by_cases h : v < 0
  · exact Or.inl ⟨h, rfl⟩
  · obtain ⟨q, hq, rfl⟩ := nI_of h
    exact Or.inr ⟨q, hq, rfl, by omega, by omega⟩
theorem root_end {v : Int32} {r : Nat} (hr : r + 2 ^ 0 ≤ 65536) (hI : ((v < 0 ∧ r = 0) ∨ ∃ q, q < 2 ^ 31 ∧ v = nI q ∧ r * r ≤ q ∧ q < (r + 2 ^ 0) * (r + 2 ^ 0))) : rootF v = nI r := by
  rcases hI with ⟨h, rfl⟩ | ⟨q, hq, rfl, h1, h2⟩
  · rw [rootF_neg h]; rfl
  · rw [rootF_nI hq, rootN_is h1 h2]
theorem sq63 {a : Nat} (h : a ≤ 65536) : a * a < 2 ^ 63 := by
  have := sq_mono h
  omega
theorem took_I {v : Int32} {r n : Nat} (hc : ¬ 0 < lg_cmp (lN (r + 2 ^ n) * lN (r + 2 ^ n)) v.toInt64) (hr : r + 2 ^ (n + 1) ≤ 65536) (hI : ((v < 0 ∧ r = 0) ∨ ∃ q, q < 2 ^ 31 ∧ v = nI q ∧ r * r ≤ q ∧ q < (r + 2 ^ (n + 1)) * (r + 2 ^ (n + 1)))) : ((v < 0 ∧ r + 2 ^ n = 0) ∨ ∃ q, q < 2 ^ 31 ∧ v = nI q ∧ (r + 2 ^ n) * (r + 2 ^ n) ≤ q ∧ q < (r + 2 ^ n + 2 ^ n) * (r + 2 ^ n + 2 ^ n)) := by
  have hs : r + 2 ^ n ≤ 65536 := by rw [Nat.pow_succ] at hr; omega
  rw [lN_mul, lg_cmp_gt] at hc
  rcases hI with ⟨h, rfl⟩ | ⟨q, hq, rfl, h1, h2⟩
  · exact absurd (lN_neg_lt h (sq63 hs)) hc
  · rw [lN_i2l hq, pk_lLT (by omega) (sq63 hs)] at hc
    obtain ⟨a, b⟩ := root_step h1 h2 (by omega)
    exact Or.inr ⟨q, hq, rfl, a, b⟩
theorem skip_I {v : Int32} {r n : Nat} (hc : 0 < lg_cmp (lN (r + 2 ^ n) * lN (r + 2 ^ n)) v.toInt64) (hr : r + 2 ^ (n + 1) ≤ 65536) (hI : ((v < 0 ∧ r = 0) ∨ ∃ q, q < 2 ^ 31 ∧ v = nI q ∧ r * r ≤ q ∧ q < (r + 2 ^ (n + 1)) * (r + 2 ^ (n + 1)))) : ((v < 0 ∧ r = 0) ∨ ∃ q, q < 2 ^ 31 ∧ v = nI q ∧ r * r ≤ q ∧ q < (r + 2 ^ n) * (r + 2 ^ n)) := by
  have hs : r + 2 ^ n ≤ 65536 := by rw [Nat.pow_succ] at hr; omega
  rw [lN_mul, lg_cmp_gt] at hc
  rcases hI with ⟨h, rfl⟩ | ⟨q, hq, rfl, h1, h2⟩
  · exact Or.inl ⟨h, rfl⟩
  · rw [lN_i2l hq, pk_lLT (by omega) (sq63 hs)] at hc
    exact Or.inr ⟨q, hq, rfl, h1, hc⟩
set_option maxHeartbeats 4000000 in
set_option maxRecDepth 100000 in
theorem ct_X0_wholeRoot (g : AG) (d : Nat) (σ : AS) (v : Int32) : CT g yX0_wholeRoot mX0_wholeRoot (d + 0) 0 0 [.int v] σ (rX (some (.int (rootF v))) σ) := by
  refine ct_of (by decide) rfl (by decide) (Nat.le_of_ble_eq_true rfl) (fun _ _ h => nomatch h.1) (L := [(0, .int v)]) rfl ?_
  refine aw_lconst (v := 0) dX0_wholeRoot_0 rfl ?_
  refine aw_lstore_n (L' := [(1, .long 0), (0, .int v)]) dX0_wholeRoot_1 rfl (Nat.le_of_ble_eq_true rfl) rfl ?_
  refine aw_bipush (v := 15) dX0_wholeRoot_2 rfl ?_
  refine aw_istore_n (L' := [(3, .int 15), (1, .long 0), (0, .int v)]) dX0_wholeRoot_4 rfl (Nat.le_of_ble_eq_true rfl) rfl ?_
  have LOOP : ∀ (n : Nat) (B : Int32) (r : Nat), (∀ j, n = j + 1 → B = nI j) → (n = 0 → B = -1) → r + 2 ^ n ≤ 65536 → ((v < 0 ∧ r = 0) ∨ ∃ q, q < 2 ^ 31 ∧ v = nI q ∧ r * r ≤ q ∧ q < (r + 2 ^ n) * (r + 2 ^ n)) → AW g mX0_wholeRoot (d + 0) 5 [(3, .int B), (1, .long (lN r)), (0, .int v)] [] σ 0 0 (rX (some (.int (rootF v))) σ) := by
    intro n
    induction n with
    | zero =>
      intro B r hB hB0 hr hI
      rw [hB0 rfl]
      refine aw_iload_n (i := 0) dX0_wholeRoot_5 rfl rfl ?_
      refine aw_if_lt (tgt := 36) dX0_wholeRoot_6 (by decide) (fun c_1 => ?_) (fun c_1 => ?_)
      · refine aw_lload_n (i := 1) dX0_wholeRoot_36 rfl rfl ?_
        refine aw_l2i dX0_wholeRoot_37 ?_
        exact aw_ireturn dX0_wholeRoot_38 rfl rfl (rX_i (by rw [lN_i]; exact (root_end (by omega) hI).symm) (rfl))
      · exact absurd (by decide) c_1
    | succ n ih =>
      intro B r hB hB0 hr hI
      rw [hB n rfl]
      have hn16 : n < 16 := by
        rcases Nat.lt_or_ge n 16 with h | h
        · exact h
        · exact absurd hr (by have := Nat.pow_le_pow_right (show 1 ≤ 2 by omega) (show 17 ≤ n + 1 by omega); omega)
      refine aw_iload_n (i := 0) dX0_wholeRoot_5 rfl rfl ?_
      refine aw_if_lt (tgt := 36) dX0_wholeRoot_6 (by decide) (fun c_2 => ?_) (fun c_2 => ?_)
      · exact absurd c_2 (nI_pos (by omega))
      · refine aw_lload_n (i := 1) dX0_wholeRoot_9 rfl rfl ?_
        refine aw_lconst (v := 1) dX0_wholeRoot_10 rfl ?_
        refine aw_iload_n (i := 0) dX0_wholeRoot_11 rfl rfl ?_
        refine aw_lshl dX0_wholeRoot_12 ?_
        refine aw_ladd dX0_wholeRoot_13 ?_
        refine aw_S (st' := [.long (lN (r + 2 ^ n))]) (by rw [show (1 : Int64) = lN 1 from rfl, wb_shl 1 (by omega), lN_add, Nat.one_mul]) ?_
        refine aw_lstore (L' := [(4, .long (lN (r + 2 ^ n))), (3, .int (nI n)), (1, .long (lN r)), (0, .int v)]) dX0_wholeRoot_14 (Nat.le_of_ble_eq_true rfl) rfl ?_
        refine aw_lload (i := 0) dX0_wholeRoot_16 rfl ?_
        refine aw_lload (i := 0) dX0_wholeRoot_18 rfl ?_
        refine aw_lmul dX0_wholeRoot_20 ?_
        refine aw_iload_n (i := 3) dX0_wholeRoot_21 rfl rfl ?_
        refine aw_i2l dX0_wholeRoot_22 ?_
        refine aw_lcmp dX0_wholeRoot_23 ?_
        refine aw_if_gt (tgt := 30) dX0_wholeRoot_24 (by decide) (fun c_3 => ?_) (fun c_3 => ?_)
        · refine aw_sub (L' := [(3, .int (nI n)), (1, .long (lN r)), (0, .int v)]) [1, 2, 3] rfl ?_
          refine aw_iinc (i := 0) (v := nI n + (-1)) (L' := [(3, .int (nI n + (-1))), (1, .long (lN r)), (0, .int v)]) dX0_wholeRoot_30 rfl rfl (Nat.le_of_ble_eq_true rfl) rfl ?_
          refine aw_goto (tgt := 5) dX0_wholeRoot_33 (by decide) ?_
          exact ih _ r (fun j hj => by rw [hj]; exact pk_m1 j) (fun h0 => by rw [h0]; rfl) (by rw [Nat.pow_succ] at hr; omega) (skip_I c_3 hr hI)
        · refine aw_lload (i := 0) dX0_wholeRoot_27 rfl ?_
          refine aw_lstore_n (L' := [(1, .long (lN (r + 2 ^ n))), (4, .long (lN (r + 2 ^ n))), (3, .int (nI n)), (0, .int v)]) dX0_wholeRoot_29 rfl (Nat.le_of_ble_eq_true rfl) rfl ?_
          refine aw_sub (L' := [(3, .int (nI n)), (1, .long (lN (r + 2 ^ n))), (0, .int v)]) [2, 0, 3] rfl ?_
          refine aw_iinc (i := 0) (v := nI n + (-1)) (L' := [(3, .int (nI n + (-1))), (1, .long (lN (r + 2 ^ n))), (0, .int v)]) dX0_wholeRoot_30 rfl rfl (Nat.le_of_ble_eq_true rfl) rfl ?_
          refine aw_goto (tgt := 5) dX0_wholeRoot_33 (by decide) ?_
          exact ih _ (r + 2 ^ n) (fun j hj => by rw [hj]; exact pk_m1 j) (fun h0 => by rw [h0]; rfl) (by rw [Nat.pow_succ] at hr; omega) (took_I c_3 hr hI)
  refine aw_L (L' := [(3, .int 15), (1, .long (lN 0)), (0, .int v)]) rfl ?_
  exact LOOP 16 15 0 (fun j hj => by rw [show j = 15 by omega]; rfl) (fun h => by omega) (by omega) (start_I v)
theorem fa_trans9 {a b c : Int32} (h : a < b) (h2 : b ≤ c) : a < c := by
  rw [Int32.lt_iff_toInt_lt] at h ⊢
  rw [Int32.le_iff_toInt_le] at h2
  omega
theorem m_end {v : Int32} {a b : Nat} (hab : ¬ nI a < nI b) (hb : b ≤ 46340) (hI : a ≤ b ∧ ((v < 0 ∧ a = 0) ∨ ∃ q, q < 2 ^ 31 ∧ v = nI q ∧ a * a ≤ q ∧ q < (b + 1) * (b + 1))) : rootF v = nI a := by
  rw [nI_ltI (by omega) (by omega)] at hab
  obtain ⟨h0, h1⟩ := hI
  have e : b = a := by omega
  subst e
  rcases h1 with ⟨h, rfl⟩ | ⟨q, hq, rfl, h1, h2⟩
  · rw [rootF_neg h]; rfl
  · rw [rootF_nI hq, rootN_is h1 h2]
theorem m_mid {a b : Nat} (hb : b ≤ 46340) (hab : a ≤ b) : (nI a + nI b + 1) / 2 = nI ((a + b + 1) / 2) := by
  rw [nI_add, nI_1, show (2 : Int32) = nI 2 from rfl, pk_div (by omega) (by omega) (by omega)]
theorem m_sq {c : Nat} (hc : c ≤ 46340) : c * c < 2 ^ 31 := by
  have := sq_mono hc
  omega
theorem m_took {v : Int32} {a b : Nat} (hlt : a < b) (hb : b ≤ 46340) (hI : a ≤ b ∧ ((v < 0 ∧ a = 0) ∨ ∃ q, q < 2 ^ 31 ∧ v = nI q ∧ a * a ≤ q ∧ q < (b + 1) * (b + 1))) (hc : ¬ v < nI ((a + b + 1) / 2) * nI ((a + b + 1) / 2)) : (a + b + 1) / 2 ≤ b ∧ ((v < 0 ∧ (a + b + 1) / 2 = 0) ∨ ∃ q, q < 2 ^ 31 ∧ v = nI q ∧ (a + b + 1) / 2 * ((a + b + 1) / 2) ≤ q ∧ q < (b + 1) * (b + 1)) := by
  have hs : (a + b + 1) / 2 * ((a + b + 1) / 2) < 2 ^ 31 := m_sq (by omega)
  rw [pk_mul] at hc
  refine ⟨by omega, ?_⟩
  rcases hI.2 with ⟨h, h0⟩ | ⟨q, hq, rfl, h1, h2⟩
  · exfalso
    apply hc
    exact fa_trans9 h (nI_pos' hs)
  · rw [nI_ltI hq hs] at hc
    exact Or.inr ⟨q, hq, rfl, by omega, h2⟩
theorem m_skip {v : Int32} {a b : Nat} (hlt : a < b) (hb : b ≤ 46340) (hI : a ≤ b ∧ ((v < 0 ∧ a = 0) ∨ ∃ q, q < 2 ^ 31 ∧ v = nI q ∧ a * a ≤ q ∧ q < (b + 1) * (b + 1))) (hc : v < nI ((a + b + 1) / 2) * nI ((a + b + 1) / 2)) : a ≤ (a + b + 1) / 2 - 1 ∧ ((v < 0 ∧ a = 0) ∨ ∃ q, q < 2 ^ 31 ∧ v = nI q ∧ a * a ≤ q ∧ q < ((a + b + 1) / 2 - 1 + 1) * ((a + b + 1) / 2 - 1 + 1)) := by
  have hs : (a + b + 1) / 2 * ((a + b + 1) / 2) < 2 ^ 31 := m_sq (by omega)
  rw [pk_mul] at hc
  refine ⟨by omega, ?_⟩
  rcases hI.2 with h | ⟨q, hq, rfl, h1, h2⟩
  · exact Or.inl h
  · rw [nI_ltI hq hs] at hc
    refine Or.inr ⟨q, hq, rfl, h1, ?_⟩
    rw [show (a + b + 1) / 2 - 1 + 1 = (a + b + 1) / 2 by omega]
    exact hc
theorem m_start (v : Int32) : 0 ≤ 46340 ∧ ((v < 0 ∧ (0 : Nat) = 0) ∨ ∃ q, q < 2 ^ 31 ∧ v = nI q ∧ 0 * 0 ≤ q ∧ q < (46340 + 1) * (46340 + 1)) := by
  refine ⟨by omega, ?_⟩
  by_cases h : v < 0
  · exact Or.inl ⟨h, rfl⟩
  · obtain ⟨q, hq, rfl⟩ := nI_of h
    exact Or.inr ⟨q, hq, rfl, by omega, by omega⟩
set_option maxHeartbeats 4000000 in
set_option maxRecDepth 100000 in
theorem ct_X10_root (g : AG) (d : Nat) (σ : AS) (v : Int32) : CT g yX10_root mX10_root (d + 0) 0 0 [.int v] σ (rX (some (.int (rootF v))) σ) := by
  refine ct_of (by decide) rfl (by decide) (Nat.le_of_ble_eq_true rfl) (fun _ _ h => nomatch h.1) (L := [(0, .int v)]) rfl ?_
  refine aw_iconst (v := 0) dX10_root_0 rfl ?_
  refine aw_istore_n (L' := [(1, .int 0), (0, .int v)]) dX10_root_1 rfl (Nat.le_of_ble_eq_true rfl) rfl ?_
  refine aw_ldc (v := 46340) dX10_root_2 rfl wq_X10_56 ?_
  refine aw_istore_n (L' := [(2, .int 46340), (1, .int 0), (0, .int v)]) dX10_root_4 rfl (Nat.le_of_ble_eq_true rfl) rfl ?_
  have LOOP : ∀ (n a b : Nat), b ≤ a + n → b ≤ 46340 → (a ≤ b ∧ ((v < 0 ∧ a = 0) ∨ ∃ q, q < 2 ^ 31 ∧ v = nI q ∧ a * a ≤ q ∧ q < (b + 1) * (b + 1))) → AW g mX10_root (d + 0) 5 [(2, .int (nI b)), (1, .int (nI a)), (0, .int v)] [] σ 0 0 (rX (some (.int (rootF v))) σ) := by
    intro n
    induction n with
    | zero =>
      intro a b hm hb hI
      refine aw_iload_n (i := 1) dX10_root_5 rfl rfl ?_
      refine aw_iload_n (i := 0) dX10_root_6 rfl rfl ?_
      refine aw_icmp_ge (tgt := 59) dX10_root_7 (by decide) (fun c_1 => ?_) (fun c_1 => ?_)
      · refine aw_iload_n (i := 1) dX10_root_59 rfl rfl ?_
        exact aw_ireturn dX10_root_60 rfl rfl (rX_i ((m_end (fun q => absurd q (nI_nlt (by omega) (by omega))) hb hI).symm) (rfl))
      · exact absurd (nI_le (by omega) (by omega)) c_1
    | succ n ih =>
      intro a b hm hb hI
      by_cases hlt : a < b
      · refine aw_iload_n (i := 1) dX10_root_5 rfl rfl ?_
        refine aw_iload_n (i := 0) dX10_root_6 rfl rfl ?_
        refine aw_icmp_ge (tgt := 59) dX10_root_7 (by decide) (fun c_1 => ?_) (fun c_1 => ?_)
        · exact absurd c_1 (nI_ge hlt (by omega))
        · refine aw_iload_n (i := 1) dX10_root_10 rfl rfl ?_
          refine aw_iload_n (i := 0) dX10_root_11 rfl rfl ?_
          refine aw_iadd dX10_root_12 ?_
          refine aw_iconst (v := 1) dX10_root_13 rfl ?_
          refine aw_iadd dX10_root_14 ?_
          refine aw_iconst (v := 2) dX10_root_15 rfl ?_
          refine aw_idiv dX10_root_16 (by decide) ?_
          refine aw_S (st' := [.int (nI ((a + b + 1) / 2))]) (by rw [m_mid hb hI.1]) ?_
          refine aw_istore_n (L' := [(3, .int (nI ((a + b + 1) / 2))), (2, .int (nI b)), (1, .int (nI a)), (0, .int v)]) dX10_root_17 rfl (Nat.le_of_ble_eq_true rfl) rfl ?_
          refine aw_iload_n (i := 0) dX10_root_18 rfl rfl ?_
          refine aw_iload_n (i := 0) dX10_root_19 rfl rfl ?_
          refine aw_imul dX10_root_20 ?_
          refine aw_iload_n (i := 3) dX10_root_21 rfl rfl ?_
          refine aw_icmp_gt (tgt := 29) dX10_root_22 (by decide) (fun c_2 => ?_) (fun c_2 => ?_)
          · refine aw_iconst (v := 0) dX10_root_29 rfl ?_
            refine aw_istore (L' := [(4, .int 0), (3, .int (nI ((a + b + 1) / 2))), (2, .int (nI b)), (1, .int (nI a)), (0, .int v)]) dX10_root_30 (Nat.le_of_ble_eq_true rfl) rfl ?_
            refine aw_iload (i := 0) dX10_root_32 rfl ?_
            refine aw_if_eq (tgt := 41) dX10_root_34 (by decide) (fun c_3 => ?_) (fun c_3 => ?_)
            · refine aw_iload_n (i := 3) dX10_root_41 rfl rfl ?_
              refine aw_istore_n (L' := [(1, .int (nI a)), (4, .int 0), (3, .int (nI ((a + b + 1) / 2))), (2, .int (nI b)), (0, .int v)]) dX10_root_42 rfl (Nat.le_of_ble_eq_true rfl) rfl ?_
              refine aw_iload (i := 1) dX10_root_43 rfl ?_
              refine aw_if_eq (tgt := 52) dX10_root_45 (by decide) (fun c_4 => ?_) (fun c_4 => ?_)
              · refine aw_iload_n (i := 2) dX10_root_52 rfl rfl ?_
                refine aw_iconst (v := 1) dX10_root_53 rfl ?_
                refine aw_isub dX10_root_54 ?_
                refine aw_istore_n (L' := [(2, .int ((nI ((a + b + 1) / 2)) - 1)), (1, .int (nI a)), (4, .int 0), (3, .int (nI ((a + b + 1) / 2))), (0, .int v)]) dX10_root_55 rfl (Nat.le_of_ble_eq_true rfl) rfl ?_
                refine aw_goto (tgt := 5) dX10_root_56 (by decide) ?_
                refine aw_sub (L' := [(2, .int (nI ((a + b + 1) / 2) - 1)), (1, .int (nI a)), (0, .int v)]) [0, 1, 4] rfl ?_
                refine aw_L (L' := [(2, .int (nI ((a + b + 1) / 2 - 1))), (1, .int (nI a)), (0, .int v)]) (by rw [← nI_pred, show (a + b + 1) / 2 - 1 + 1 = (a + b + 1) / 2 by omega]) ?_
                exact ih a _ (by omega) (by omega) (m_skip hlt hb hI c_2)
              · exact absurd (by decide) c_4
            · exact absurd (by decide) c_3
          · refine aw_iconst (v := 1) dX10_root_25 rfl ?_
            refine aw_goto (tgt := 30) dX10_root_26 (by decide) ?_
            refine aw_istore (L' := [(4, .int 1), (3, .int (nI ((a + b + 1) / 2))), (2, .int (nI b)), (1, .int (nI a)), (0, .int v)]) dX10_root_30 (Nat.le_of_ble_eq_true rfl) rfl ?_
            refine aw_iload (i := 0) dX10_root_32 rfl ?_
            refine aw_if_eq (tgt := 41) dX10_root_34 (by decide) (fun c_5 => ?_) (fun c_5 => ?_)
            · exact absurd c_5 (by decide)
            · refine aw_iload_n (i := 1) dX10_root_37 rfl rfl ?_
              refine aw_goto (tgt := 42) dX10_root_38 (by decide) ?_
              refine aw_istore_n (L' := [(1, .int (nI ((a + b + 1) / 2))), (4, .int 1), (3, .int (nI ((a + b + 1) / 2))), (2, .int (nI b)), (0, .int v)]) dX10_root_42 rfl (Nat.le_of_ble_eq_true rfl) rfl ?_
              refine aw_iload (i := 1) dX10_root_43 rfl ?_
              refine aw_if_eq (tgt := 52) dX10_root_45 (by decide) (fun c_6 => ?_) (fun c_6 => ?_)
              · exact absurd c_6 (by decide)
              · refine aw_iload_n (i := 3) dX10_root_48 rfl rfl ?_
                refine aw_goto (tgt := 55) dX10_root_49 (by decide) ?_
                refine aw_istore_n (L' := [(2, .int (nI b)), (1, .int (nI ((a + b + 1) / 2))), (4, .int 1), (3, .int (nI ((a + b + 1) / 2))), (0, .int v)]) dX10_root_55 rfl (Nat.le_of_ble_eq_true rfl) rfl ?_
                refine aw_goto (tgt := 5) dX10_root_56 (by decide) ?_
                refine aw_sub (L' := [(2, .int (nI b)), (1, .int (nI ((a + b + 1) / 2))), (0, .int v)]) [0, 1, 4] rfl ?_
                exact ih _ b (by omega) hb (m_took hlt hb hI c_2)
      · refine aw_iload_n (i := 1) dX10_root_5 rfl rfl ?_
        refine aw_iload_n (i := 0) dX10_root_6 rfl rfl ?_
        refine aw_icmp_ge (tgt := 59) dX10_root_7 (by decide) (fun c_7 => ?_) (fun c_7 => ?_)
        · refine aw_iload_n (i := 1) dX10_root_59 rfl rfl ?_
          exact aw_ireturn dX10_root_60 rfl rfl (rX_i ((m_end (fun q => absurd q (nI_nlt (by omega) (by omega))) hb hI).symm) (rfl))
        · exact absurd (nI_le (by omega) (by omega)) c_7
  refine aw_L (L' := [(2, .int (nI 46340)), (1, .int (nI 0)), (0, .int v)]) rfl ?_
  exact LOOP 46340 0 46340 (by omega) (by omega) (m_start v)
