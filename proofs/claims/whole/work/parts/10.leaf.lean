def quo (a b : Int32) : Int32 := if b = 0 then 0 else a / b
def atL (l : List Int32) (i : Int32) : Int32 := if i < 0 then 0 else l.getD i.toNatClampNeg 0
def putL (l : List Int32) (i v : Int32) : List Int32 := if i < 0 then l else l.set i.toNatClampNeg v
theorem nI_len {n : Nat} (hn : n < 2 ^ 31) {i : Int32} (h0 : ¬ i < 0) : nI n ≤ i ↔ n ≤ i.toNatClampNeg := by
  obtain ⟨j, hj, rfl⟩ := nI_of h0
  rw [nI_leI hn hj, nI_clamp hj]
theorem at_ge {l : List Int32} {i : Int32} (hn : l.length < 2 ^ 31) (h0 : ¬ i < 0) (h : nI l.length ≤ i) : atL l i = 0 := by
  have h1 := (nI_len hn h0).mp h
  unfold atL
  rw [if_neg h0, List.getD_eq_getElem?_getD, List.getElem?_eq_none h1]; rfl
theorem put_ge {l : List Int32} {i v : Int32} (hn : l.length < 2 ^ 31) (h0 : ¬ i < 0) (h : nI l.length ≤ i) : putL l i v = l := by
  have h1 := (nI_len hn h0).mp h
  unfold putL
  rw [if_neg h0, List.set_eq_of_length_le h1]
theorem in_of {n : Nat} (hn : n < 2 ^ 31) {i : Int32} (h0 : ¬ i < 0) (h : ¬ nI n ≤ i) : vp_in i n := by
  intro q
  rcases q with q | q
  · exact h0 q
  · exact h ((nI_len hn h0).mpr q)
set_option maxHeartbeats 4000000 in
set_option maxRecDepth 100000 in
theorem ct_X0_quotient (g : AG) (d : Nat) (σ : AS) (a b : Int32) : CT g yX0_quotient mX0_quotient (d + 0) 0 0 [.int a, .int b] σ (rX (some (.int (quo a b))) σ) := by
  refine ct_of (by decide) rfl (by decide) (Nat.le_of_ble_eq_true rfl) (L := [(0, .int a), (1, .int b)]) rfl ?_
  refine aw_iload_n (i := 1) dX0_quotient_0 rfl rfl ?_
  refine aw_if_ne (tgt := 8) dX0_quotient_1 (by decide) (fun c_1 => ?_) (fun c_1 => ?_)
  · refine aw_iload_n (i := 0) dX0_quotient_8 rfl rfl ?_
    refine aw_iload_n (i := 1) dX0_quotient_9 rfl rfl ?_
    refine aw_idiv dX0_quotient_10 c_1 ?_
    exact aw_ireturn dX0_quotient_11 rfl rfl (rX_i (by unfold quo; simp [*]) (rfl))
  · refine aw_iconst (v := 0) dX0_quotient_4 rfl ?_
    refine aw_goto (tgt := 11) dX0_quotient_5 (by decide) ?_
    exact aw_ireturn dX0_quotient_11 rfl rfl (rX_i (by unfold quo; simp [*]) (rfl))
set_option maxHeartbeats 4000000 in
set_option maxRecDepth 100000 in
theorem ct_X2_at (g : AG) (d : Nat) (σ : AS) (a : Nat) (l : List Int32) (i : Int32) (h : σ[a]? = some (ac_i l)) (hn : l.length < 2 ^ 31) : CT g yX2_at mX2_at (d + 0) 0 0 [.ref a, .int i] σ (rX (some (.int (atL l i))) σ) := by
  refine ct_of (by decide) rfl (by decide) (Nat.le_of_ble_eq_true rfl) (L := [(0, .ref a), (1, .int i)]) rfl ?_
  refine aw_iload_n (i := 1) dX2_at_0 rfl rfl ?_
  refine aw_if_lt (tgt := 16) dX2_at_1 (by decide) (fun c_1 => ?_) (fun c_1 => ?_)
  · refine aw_iconst (v := 0) dX2_at_16 rfl ?_
    exact aw_ireturn dX2_at_17 rfl rfl (rX_i (by first | (unfold atL; rw [if_pos ‹_›]; done) | (rw [at_ge hn ‹_› ‹_›]; done) | (unfold atL; rw [if_neg ‹_›]; done)) (rfl))
  · refine aw_iload_n (i := 1) dX2_at_4 rfl rfl ?_
    refine aw_aload_n (i := 0) dX2_at_5 rfl rfl ?_
    refine aw_alen (v := nI l.length) dX2_at_6 h rfl ?_
    refine aw_icmp_ge (tgt := 16) dX2_at_7 (by decide) (fun c_2 => ?_) (fun c_2 => ?_)
    · refine aw_iconst (v := 0) dX2_at_16 rfl ?_
      exact aw_ireturn dX2_at_17 rfl rfl (rX_i (by first | (unfold atL; rw [if_pos ‹_›]; done) | (rw [at_ge hn ‹_› ‹_›]; done) | (unfold atL; rw [if_neg ‹_›]; done)) (rfl))
    · refine aw_aload_n (i := 0) dX2_at_10 rfl rfl ?_
      refine aw_iload_n (i := 1) dX2_at_11 rfl rfl ?_
      refine aw_iaload dX2_at_12 h (in_of hn c_1 c_2) rfl ?_
      refine aw_goto (tgt := 17) dX2_at_13 (by decide) ?_
      exact aw_ireturn dX2_at_17 rfl rfl (rX_i (by first | (unfold atL; rw [if_pos ‹_›]; done) | (rw [at_ge hn ‹_› ‹_›]; done) | (unfold atL; rw [if_neg ‹_›]; done)) (rfl))
